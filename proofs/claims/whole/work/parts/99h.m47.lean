section M47
variable {G : xG} {ad : Nat → Nat → Nat} {nb : Nat} {b r : Option Nat} {L : Nat → Nat → Nat → Int64} {V : sV} {I : Nat → Nat → Nat → Int32} {d : Nat}
variable {T : Nat → Nat} {e a : Nat} {nm : List (Nat × Nat × Nat)} {ri : Nat} {c : cS} {s : pS}
theorem wi0_12 : wiN 0 (pkS 12) = 1 := by decide +kernel
theorem wi0_14 : wiN 0 (pkS 14) = 2 := by decide +kernel
theorem wi0_15 : wiN 0 (pkS 15) = 3 := by decide +kernel
theorem wi0_16 : wiN 0 (pkS 16) = 4 := by decide +kernel
theorem wi0_17 : wiN 0 (pkS 17) = 5 := by decide +kernel
theorem wi0_18 : wiN 0 (pkS 18) = 6 := by decide +kernel
theorem wi0_19 : wiN 0 (pkS 19) = 7 := by decide +kernel
theorem wi0_20 : wiN 0 (pkS 20) = 8 := by decide +kernel
theorem wi0_21 : wiN 0 (pkS 21) = 12 := by decide +kernel
theorem wi0_22 : wiN 0 (pkS 22) = 9 := by decide +kernel
theorem wi0_23 : wiN 0 (pkS 23) = 10 := by decide +kernel
theorem wi0_24 : wiN 0 (pkS 24) = 11 := by decide +kernel
theorem lw_w {k m : Nat} (hw : wiN 0 (pkS k) = m) (h : isW T e k (.inr a) = true) : lw T e a = m := by
  have h1 := isW_k h
  unfold lw
  rw [if_pos h1.1, h1.2, hw]
theorem lw_no (h : ∀ k ∈ [12, 14, 15, 16, 17, 18, 19, 20, 21, 22, 23, 24], isW T e k (.inr a) = false) : lw T e a = 0 ∨ 12 < lw T e a := by
  unfold lw
  by_cases h1 : kd T e a = 1
  · rw [if_pos h1, wiN_0]
    have q := fun k hk => isW_n (h k hk) h1
    rw [if_neg (q 12 (by decide)), if_neg (q 14 (by decide)), if_neg (q 15 (by decide)), if_neg (q 16 (by decide)), if_neg (q 17 (by decide)), if_neg (q 18 (by decide)), if_neg (q 19 (by decide)), if_neg (q 20 (by decide)), if_neg (q 22 (by decide)), if_neg (q 23 (by decide)), if_neg (q 24 (by decide)), if_neg (q 21 (by decide))]
    split
    · exact Or.inr (by decide)
    · exact Or.inl rfl
  · rw [if_neg h1]; exact Or.inl rfl
set_option maxRecDepth 100000 in
set_option maxHeartbeats 600000 in
theorem m_readLine (hr : r = some ri) (hbn : ri < nb) (hT : YTp T e I) (hP : YPS T e s ri I L) (hC : PC s) (hZ : PZ s) : Mt G vX13_readLine (d + 11) (0, 0) [.ref (ad 13 0)] (MM ad nb b r I L) (qLn T e ad nb b r ri I L (rdLn T e s)) := by
  have hW := hC.1
  have h8 := cnz_le (f := fun t => s.1 13 t 0) 4
  have h10 := cnz_le (f := fun t => s.1 17 t 0) 6
  have h8 : s.1 0 8 0 ≤ 4 := by rw [hC.2.1]; exact h8
  have h10 : s.1 0 10 0 ≤ 6 := by rw [hC.2.2]; exact h10
  refine x_start (by decide) (Nat.le_of_ble_eq_true rfl) ?_
  refine x_aload_n dX13_readLine_0 rfl ?_
  refine x_ldcS (n := 12) dX13_readLine_1 rfl ?_
  refine x_cvi (m_isWord (d := d + 5) (c := .inr s.2.2) (i := 12) (by decide) (by decide) hP.1) kX13_142 dX13_readLine_3 rfl (Nat.le_of_ble_eq_true rfl) rfl rfl (Nat.le_of_ble_eq_true rfl) (fun ru Mu hq => ?_)
  obtain ⟨rfl, rfl⟩ := hq
  refine x_if_eq 16 dX13_readLine_6 (by decide) (fun h6 => ?_) (fun h6 => ?_)
  · have w12 := bI_eq.mp h6
    refine x_aload_n dX13_readLine_16 rfl ?_
    refine x_ldcS (n := 14) dX13_readLine_17 rfl ?_
    refine x_cvi (m_isWord (d := d + 5) (c := .inr s.2.2) (i := 14) (by decide) (by decide) hP.1) kX13_142 dX13_readLine_19 rfl (Nat.le_of_ble_eq_true rfl) rfl rfl (Nat.le_of_ble_eq_true rfl) (fun ru Mu hq => ?_)
    obtain ⟨rfl, rfl⟩ := hq
    refine x_if_eq 32 dX13_readLine_22 (by decide) (fun h22 => ?_) (fun h22 => ?_)
    · have w14 := bI_eq.mp h22
      refine x_aload_n dX13_readLine_32 rfl ?_
      refine x_ldcS (n := 15) dX13_readLine_33 rfl ?_
      refine x_cvi (m_isWord (d := d + 5) (c := .inr s.2.2) (i := 15) (by decide) (by decide) hP.1) kX13_142 dX13_readLine_35 rfl (Nat.le_of_ble_eq_true rfl) rfl rfl (Nat.le_of_ble_eq_true rfl) (fun ru Mu hq => ?_)
      obtain ⟨rfl, rfl⟩ := hq
      refine x_if_eq 48 dX13_readLine_38 (by decide) (fun h38 => ?_) (fun h38 => ?_)
      · have w15 := bI_eq.mp h38
        refine x_aload_n dX13_readLine_48 rfl ?_
        refine x_ldcS (n := 16) dX13_readLine_49 rfl ?_
        refine x_cvi (m_isWord (d := d + 5) (c := .inr s.2.2) (i := 16) (by decide) (by decide) hP.1) kX13_142 dX13_readLine_51 rfl (Nat.le_of_ble_eq_true rfl) rfl rfl (Nat.le_of_ble_eq_true rfl) (fun ru Mu hq => ?_)
        obtain ⟨rfl, rfl⟩ := hq
        refine x_if_eq 64 dX13_readLine_54 (by decide) (fun h54 => ?_) (fun h54 => ?_)
        · have w16 := bI_eq.mp h54
          refine x_aload_n dX13_readLine_64 rfl ?_
          refine x_ldcS (n := 17) dX13_readLine_65 rfl ?_
          refine x_cvi (m_isWord (d := d + 5) (c := .inr s.2.2) (i := 17) (by decide) (by decide) hP.1) kX13_142 dX13_readLine_67 rfl (Nat.le_of_ble_eq_true rfl) rfl rfl (Nat.le_of_ble_eq_true rfl) (fun ru Mu hq => ?_)
          obtain ⟨rfl, rfl⟩ := hq
          refine x_if_eq 80 dX13_readLine_70 (by decide) (fun h70 => ?_) (fun h70 => ?_)
          · have w17 := bI_eq.mp h70
            refine x_aload_n dX13_readLine_80 rfl ?_
            refine x_ldcS (n := 18) dX13_readLine_81 rfl ?_
            refine x_cvi (m_isWord (d := d + 5) (c := .inr s.2.2) (i := 18) (by decide) (by decide) hP.1) kX13_142 dX13_readLine_83 rfl (Nat.le_of_ble_eq_true rfl) rfl rfl (Nat.le_of_ble_eq_true rfl) (fun ru Mu hq => ?_)
            obtain ⟨rfl, rfl⟩ := hq
            refine x_if_eq 96 dX13_readLine_86 (by decide) (fun h86 => ?_) (fun h86 => ?_)
            · have w18 := bI_eq.mp h86
              refine x_aload_n dX13_readLine_96 rfl ?_
              refine x_ldcS (n := 19) dX13_readLine_97 rfl ?_
              refine x_cvi (m_isWord (d := d + 5) (c := .inr s.2.2) (i := 19) (by decide) (by decide) hP.1) kX13_142 dX13_readLine_99 rfl (Nat.le_of_ble_eq_true rfl) rfl rfl (Nat.le_of_ble_eq_true rfl) (fun ru Mu hq => ?_)
              obtain ⟨rfl, rfl⟩ := hq
              refine x_if_eq 112 dX13_readLine_102 (by decide) (fun h102 => ?_) (fun h102 => ?_)
              · have w19 := bI_eq.mp h102
                refine x_aload_n dX13_readLine_112 rfl ?_
                refine x_ldcS (n := 20) dX13_readLine_113 rfl ?_
                refine x_cvi (m_isWord (d := d + 5) (c := .inr s.2.2) (i := 20) (by decide) (by decide) hP.1) kX13_142 dX13_readLine_115 rfl (Nat.le_of_ble_eq_true rfl) rfl rfl (Nat.le_of_ble_eq_true rfl) (fun ru Mu hq => ?_)
                obtain ⟨rfl, rfl⟩ := hq
                refine x_if_eq 128 dX13_readLine_118 (by decide) (fun h118 => ?_) (fun h118 => ?_)
                · have w20 := bI_eq.mp h118
                  refine x_aload_n dX13_readLine_128 rfl ?_
                  refine x_ldcS (n := 21) dX13_readLine_129 rfl ?_
                  refine x_cvi (m_isWord (d := d + 5) (c := .inr s.2.2) (i := 21) (by decide) (by decide) hP.1) kX13_142 dX13_readLine_131 rfl (Nat.le_of_ble_eq_true rfl) rfl rfl (Nat.le_of_ble_eq_true rfl) (fun ru Mu hq => ?_)
                  obtain ⟨rfl, rfl⟩ := hq
                  refine x_if_eq 144 dX13_readLine_134 (by decide) (fun h134 => ?_) (fun h134 => ?_)
                  · have w21 := bI_eq.mp h134
                    refine x_aload_n dX13_readLine_144 rfl ?_
                    refine x_ldcS (n := 22) dX13_readLine_145 rfl ?_
                    refine x_cvi (m_isWord (d := d + 5) (c := .inr s.2.2) (i := 22) (by decide) (by decide) hP.1) kX13_142 dX13_readLine_147 rfl (Nat.le_of_ble_eq_true rfl) rfl rfl (Nat.le_of_ble_eq_true rfl) (fun ru Mu hq => ?_)
                    obtain ⟨rfl, rfl⟩ := hq
                    refine x_if_eq 160 dX13_readLine_150 (by decide) (fun h150 => ?_) (fun h150 => ?_)
                    · have w22 := bI_eq.mp h150
                      refine x_aload_n dX13_readLine_160 rfl ?_
                      refine x_ldcS (n := 23) dX13_readLine_161 rfl ?_
                      refine x_cvi (m_isWord (d := d + 5) (c := .inr s.2.2) (i := 23) (by decide) (by decide) hP.1) kX13_142 dX13_readLine_163 rfl (Nat.le_of_ble_eq_true rfl) rfl rfl (Nat.le_of_ble_eq_true rfl) (fun ru Mu hq => ?_)
                      obtain ⟨rfl, rfl⟩ := hq
                      refine x_if_eq 176 dX13_readLine_166 (by decide) (fun h166 => ?_) (fun h166 => ?_)
                      · have w23 := bI_eq.mp h166
                        refine x_aload_n dX13_readLine_176 rfl ?_
                        refine x_ldcS (n := 24) dX13_readLine_177 rfl ?_
                        refine x_cvi (m_isWord (d := d + 5) (c := .inr s.2.2) (i := 24) (by decide) (by decide) hP.1) kX13_142 dX13_readLine_179 rfl (Nat.le_of_ble_eq_true rfl) rfl rfl (Nat.le_of_ble_eq_true rfl) (fun ru Mu hq => ?_)
                        obtain ⟨rfl, rfl⟩ := hq
                        refine x_if_eq 192 dX13_readLine_182 (by decide) (fun h182 => ?_) (fun h182 => ?_)
                        · have w24 := bI_eq.mp h182
                          refine x_aload_n dX13_readLine_192 rfl ?_
                          refine x_iconst dX13_readLine_193 li_1 ?_
                          refine x_cvv (m_flaw (d := d + 10) (f := 1) (c := .inr s.2.2) hP.1) kX13_146 dX13_readLine_194 rfl (Nat.le_of_ble_eq_true rfl) rfl rfl (Nat.le_of_ble_eq_true rfl) (fun Mu hq => ?_)
                          obtain ⟨I2, rfl, r2, f2⟩ := hq
                          have hq0 : rdLn T e s = .inl (1, tA T e s.2.2) := if_pos (lw_no (fun k hk => by
                            simp only [List.mem_cons, List.not_mem_nil, or_false] at hk
                            rcases hk with rfl | rfl | rfl | rfl | rfl | rfl | rfl | rfl | rfl | rfl | rfl | rfl <;> assumption))
                          have hq : qLn T e ad nb b r ri I L (rdLn T e s) none (MM ad nb b r I2 L) := ⟨rfl, _, _, rfl, f2.fq, (fun g z => by rw [hq0] at z; cases z; exact r2), (fun s2 z => by rw [hq0] at z; cases z)⟩
                          refine x_vret dX13_readLine_197 rfl ?_
                          first | exact hq | exact ⟨rfl, hq⟩
                        · have hl := lw_w wi0_24 (bI_ne.mp h182)
                          refine x_aload_n dX13_readLine_185 rfl ?_
                          refine x_cvv (m_read_whiff (d := d + 2) hr hbn hT hP hW hZ hl (by omega)) kX13_266 dX13_readLine_186 rfl (Nat.le_of_ble_eq_true rfl) rfl rfl (Nat.le_of_ble_eq_true rfl) (fun Mu hq => ?_)
                          refine x_goto 197 dX13_readLine_189 (by decide) ?_
                          refine x_vret dX13_readLine_197 rfl ?_
                          first | exact hq | exact ⟨rfl, hq⟩
                      · have hl := lw_w wi0_23 (bI_ne.mp h166)
                        refine x_aload_n dX13_readLine_169 rfl ?_
                        refine x_cvv (m_read_asked (d := d + 1) hr hbn hT hP hW hZ hl) kX13_263 dX13_readLine_170 rfl (Nat.le_of_ble_eq_true rfl) rfl rfl (Nat.le_of_ble_eq_true rfl) (fun Mu hq => ?_)
                        refine x_goto 197 dX13_readLine_173 (by decide) ?_
                        refine x_vret dX13_readLine_197 rfl ?_
                        first | exact hq | exact ⟨rfl, hq⟩
                    · have hl := lw_w wi0_22 (bI_ne.mp h150)
                      refine x_aload_n dX13_readLine_153 rfl ?_
                      refine x_cvv (m_read_walk (d := d + 2) hr hbn hT hP hW hZ hl (by omega)) kX13_260 dX13_readLine_154 rfl (Nat.le_of_ble_eq_true rfl) rfl rfl (Nat.le_of_ble_eq_true rfl) (fun Mu hq => ?_)
                      refine x_goto 197 dX13_readLine_157 (by decide) ?_
                      refine x_vret dX13_readLine_197 rfl ?_
                      first | exact hq | exact ⟨rfl, hq⟩
                  · have hl := lw_w wi0_21 (bI_ne.mp h134)
                    refine x_aload_n dX13_readLine_137 rfl ?_
                    refine x_cvv (m_read_on (d := d + 1) hr hbn hT hP hW hZ hl) kX13_257 dX13_readLine_138 rfl (Nat.le_of_ble_eq_true rfl) rfl rfl (Nat.le_of_ble_eq_true rfl) (fun Mu hq => ?_)
                    refine x_goto 197 dX13_readLine_141 (by decide) ?_
                    refine x_vret dX13_readLine_197 rfl ?_
                    first | exact hq | exact ⟨rfl, hq⟩
                · have hl := lw_w wi0_20 (bI_ne.mp h118)
                  refine x_aload_n dX13_readLine_121 rfl ?_
                  refine x_cvv (m_read_trav (d := d + 0) hr hbn hT hP hW hZ hl) kX13_254 dX13_readLine_122 rfl (Nat.le_of_ble_eq_true rfl) rfl rfl (Nat.le_of_ble_eq_true rfl) (fun Mu hq => ?_)
                  refine x_goto 197 dX13_readLine_125 (by decide) ?_
                  refine x_vret dX13_readLine_197 rfl ?_
                  first | exact hq | exact ⟨rfl, hq⟩
              · have hl := lw_w wi0_19 (bI_ne.mp h102)
                refine x_aload_n dX13_readLine_105 rfl ?_
                refine x_cvv (m_read_leaves (d := d + 1) hr hbn hT hP hW hZ hl) kX13_251 dX13_readLine_106 rfl (Nat.le_of_ble_eq_true rfl) rfl rfl (Nat.le_of_ble_eq_true rfl) (fun Mu hq => ?_)
                refine x_goto 197 dX13_readLine_109 (by decide) ?_
                refine x_vret dX13_readLine_197 rfl ?_
                first | exact hq | exact ⟨rfl, hq⟩
            · have hl := lw_w wi0_18 (bI_ne.mp h86)
              refine x_aload_n dX13_readLine_89 rfl ?_
              refine x_cvv (m_read_path (d := d + 1) hr hbn hT hP hW hZ hl) kX13_248 dX13_readLine_90 rfl (Nat.le_of_ble_eq_true rfl) rfl rfl (Nat.le_of_ble_eq_true rfl) (fun Mu hq => ?_)
              refine x_goto 197 dX13_readLine_93 (by decide) ?_
              refine x_vret dX13_readLine_197 rfl ?_
              first | exact hq | exact ⟨rfl, hq⟩
          · have hl := lw_w wi0_17 (bI_ne.mp h70)
            refine x_aload_n dX13_readLine_73 rfl ?_
            refine x_cvv (m_read_place (d := d + 0) hr hbn hT hP hW hZ hl) kX13_245 dX13_readLine_74 rfl (Nat.le_of_ble_eq_true rfl) rfl rfl (Nat.le_of_ble_eq_true rfl) (fun Mu hq => ?_)
            refine x_goto 197 dX13_readLine_77 (by decide) ?_
            refine x_vret dX13_readLine_197 rfl ?_
            first | exact hq | exact ⟨rfl, hq⟩
        · have hl := lw_w wi0_16 (bI_ne.mp h54)
          refine x_aload_n dX13_readLine_57 rfl ?_
          refine x_cvv (m_read_nose (d := d + 2) hr hbn hT hP hW hZ hl) kX13_242 dX13_readLine_58 rfl (Nat.le_of_ble_eq_true rfl) rfl rfl (Nat.le_of_ble_eq_true rfl) (fun Mu hq => ?_)
          refine x_goto 197 dX13_readLine_61 (by decide) ?_
          refine x_vret dX13_readLine_197 rfl ?_
          first | exact hq | exact ⟨rfl, hq⟩
      · have hl := lw_w wi0_15 (bI_ne.mp h38)
        refine x_aload_n dX13_readLine_41 rfl ?_
        refine x_cvv (m_read_smell (d := d + 0) hr hbn hT hP hW hZ hl) kX13_239 dX13_readLine_42 rfl (Nat.le_of_ble_eq_true rfl) rfl rfl (Nat.le_of_ble_eq_true rfl) (fun Mu hq => ?_)
        refine x_goto 197 dX13_readLine_45 (by decide) ?_
        refine x_vret dX13_readLine_197 rfl ?_
        first | exact hq | exact ⟨rfl, hq⟩
    · have hl := lw_w wi0_14 (bI_ne.mp h22)
      refine x_aload_n dX13_readLine_25 rfl ?_
      refine x_cvv (m_read_land (d := d + 2) hr hbn hT hP hW hZ hl) kX13_236 dX13_readLine_26 rfl (Nat.le_of_ble_eq_true rfl) rfl rfl (Nat.le_of_ble_eq_true rfl) (fun Mu hq => ?_)
      refine x_goto 197 dX13_readLine_29 (by decide) ?_
      refine x_vret dX13_readLine_197 rfl ?_
      first | exact hq | exact ⟨rfl, hq⟩
  · have hl := lw_w wi0_12 (bI_ne.mp h6)
    refine x_aload_n dX13_readLine_9 rfl ?_
    refine x_cvv (m_read_wind (d := d + 2) hr hbn hT hP hW hZ hl) kX13_233 dX13_readLine_10 rfl (Nat.le_of_ble_eq_true rfl) rfl rfl (Nat.le_of_ble_eq_true rfl) (fun Mu hq => ?_)
    refine x_goto 197 dX13_readLine_13 (by decide) ?_
    refine x_vret dX13_readLine_197 rfl ?_
    first | exact hq | exact ⟨rfl, hq⟩
set_option maxRecDepth 100000 in
set_option maxHeartbeats 600000 in
theorem mra_over (hr : r = some ri) (hbn : ri < nb) {q : lR} {g : Nat × Nat} {I4 : Nat → Nat → Nat → Int32} {L4 : Nat → Nat → Nat → Int64} (hR : RSt T e (.inl g) I4 L4) (hF : FQ ri I I4 L L4) (hq0 : q = .inl g) : X G vX13_readAll (d + 12) (0, 0) 20 [(0, some (.ref (ad 13 0)))] [] (MM ad nb b r I4 L4) (xT G (qLn T e ad nb b r ri I L q)) := by
  refine x_aload_n dX13_readAll_20 rfl ?_
  refine g_M_sort fX13_100 dX13_readAll_21 ?_
  refine x_top (show I4 13 0 9 = nI 5 from hR.2.1) ?_
  refine x_iconst dX13_readAll_24 li_1 ?_
  refine x_icN_eq 33 dX13_readAll_25 (by decide) (by omega) (by omega) (fun h25 => absurd h25 (by decide)) (fun h25 => ?_)
  refine x_aload_n dX13_readAll_28 rfl ?_
  refine x_iconst dX13_readAll_29 li_1 ?_
  refine x_cvv (m_flaw (d := d + 11) (f := 1) (c := .inl g) hR) kX13_146 dX13_readAll_30 rfl (Nat.le_of_ble_eq_true rfl) rfl rfl (Nat.le_of_ble_eq_true rfl) (fun Mu hq => ?_)
  obtain ⟨I5, rfl, r5, f5⟩ := hq
  have f5 := hF.tr f5.fq
  refine x_aload_n dX13_readAll_33 rfl ?_
  refine g_M_read hr fX13_185 dX13_readAll_34 ?_
  refine g_MB_lands fX13_227 dX13_readAll_37 hbn ?_
  refine x_if_eq 53 dX13_readAll_40 (by decide) (fun h40 => ?_) (fun h40 => ?_)
  · refine x_aload_n dX13_readAll_53 rfl ?_
    refine x_bipush dX13_readAll_54 lb_6 ?_
    refine x_cvv (m_flaw (d := d + 11) (f := 6) (c := .inl g) r5) kX13_146 dX13_readAll_56 rfl (Nat.le_of_ble_eq_true rfl) rfl rfl (Nat.le_of_ble_eq_true rfl) (fun Mu hq => ?_)
    obtain ⟨I6, rfl, r6, f6⟩ := hq
    have f6 := f5.tr f6.fq
    refine x_vret dX13_readAll_59 rfl ?_
    first
      | exact ⟨rfl, _, _, rfl, f6, (fun g2 z => by rw [hq0] at z; cases z; exact r6), (fun s2 z => by rw [hq0] at z; cases z)⟩
      | exact ⟨rfl, _, _, rfl, f5, (fun g2 z => by rw [hq0] at z; cases z; exact r5), (fun s2 z => by rw [hq0] at z; cases z)⟩
  · refine x_aload_n dX13_readAll_43 rfl ?_
    refine g_M_read hr fX13_185 dX13_readAll_44 ?_
    refine g_MB_places fX13_230 dX13_readAll_47 hbn ?_
    refine x_if_ne 59 dX13_readAll_50 (by decide) (fun h50 => ?_) (fun h50 => ?_)
    · refine x_vret dX13_readAll_59 rfl ?_
      first
        | exact ⟨rfl, _, _, rfl, f6, (fun g2 z => by rw [hq0] at z; cases z; exact r6), (fun s2 z => by rw [hq0] at z; cases z)⟩
        | exact ⟨rfl, _, _, rfl, f5, (fun g2 z => by rw [hq0] at z; cases z; exact r5), (fun s2 z => by rw [hq0] at z; cases z)⟩
    · refine x_aload_n dX13_readAll_53 rfl ?_
      refine x_bipush dX13_readAll_54 lb_6 ?_
      refine x_cvv (m_flaw (d := d + 11) (f := 6) (c := .inl g) r5) kX13_146 dX13_readAll_56 rfl (Nat.le_of_ble_eq_true rfl) rfl rfl (Nat.le_of_ble_eq_true rfl) (fun Mu hq => ?_)
      obtain ⟨I6, rfl, r6, f6⟩ := hq
      have f6 := f5.tr f6.fq
      refine x_vret dX13_readAll_59 rfl ?_
      first
        | exact ⟨rfl, _, _, rfl, f6, (fun g2 z => by rw [hq0] at z; cases z; exact r6), (fun s2 z => by rw [hq0] at z; cases z)⟩
        | exact ⟨rfl, _, _, rfl, f5, (fun g2 z => by rw [hq0] at z; cases z; exact r5), (fun s2 z => by rw [hq0] at z; cases z)⟩
set_option maxRecDepth 100000 in
set_option maxHeartbeats 600000 in
theorem mra_end (hr : r = some ri) (hbn : ri < nb) {q : lR} {I4 : Nat → Nat → Nat → Int32} {L4 : Nat → Nat → Nat → Int64} (hR : YPS T e s ri I4 L4) (hC : PC s) (hF : FQ ri I I4 L L4) (hq0 : q = if kd T e s.2.2 ≠ 0 then .inl (1, tA T e s.2.2) else if s.1 0 1 0 = 0 ∨ s.1 0 4 0 = 0 then .inl (6, tA T e s.2.2) else .inr s) : X G vX13_readAll (d + 12) (0, 0) 20 [(0, some (.ref (ad 13 0)))] [] (MM ad nb b r I4 L4) (xT G (qLn T e ad nb b r ri I L q)) := by
  have hV := hC.1.1
  have v0 := hV.1
  have v1 := hV.2.1
  have v2 := hV.2.2.1
  have v3 := hV.2.2.2.1
  have v4 := hV.2.2.2.2.1
  have v7 := hV.2.2.2.2.2.2.2.1
  have v9 := hV.2.2.2.2.2.2.2.2.2.1
  have v10 := hV.2.2.2.2.2.2.2.2.2.2.1
  have hk5 := kd_le (T := T) (e := e) (a := s.2.2)
  have hm := mso_le _ hk5
  have hm1 := mso_1 _ hk5
  have hB := hR.2.1
  refine x_aload_n dX13_readAll_20 rfl ?_
  refine g_M_sort fX13_100 dX13_readAll_21 ?_
  refine x_top (show I4 13 0 9 = nI (mso (kd T e s.2.2)) from hR.1.2.1.1.2.2) ?_
  refine x_iconst dX13_readAll_24 li_1 ?_
  refine x_icN_eq 33 dX13_readAll_25 (by decide) (by omega) (by omega) (fun h25 => ?_) (fun h25 => ?_)
  · refine x_aload_n dX13_readAll_33 rfl ?_
    refine g_M_read hr fX13_185 dX13_readAll_34 ?_
    refine g_MB_lands fX13_227 dX13_readAll_37 hbn ?_
    refine x_top (y12_1 hB) ?_
    refine x_ifN_eq 53 dX13_readAll_40 (by decide) (by omega) (fun h40 => ?_) (fun h40 => ?_)
    · refine x_aload_n dX13_readAll_53 rfl ?_
      refine x_bipush dX13_readAll_54 lb_6 ?_
      refine x_cvv (m_flaw (d := d + 11) (f := 6) (c := .inr s.2.2) hR.1) kX13_146 dX13_readAll_56 rfl (Nat.le_of_ble_eq_true rfl) rfl rfl (Nat.le_of_ble_eq_true rfl) (fun Mu hq => ?_)
      obtain ⟨I6, rfl, r6, f6⟩ := hq
      have f6 := hF.tr f6.fq
      have hq1 : q = .inl (6, tA T e s.2.2) := by rw [hq0, if_neg (fun z => z (hm1.mp h25)), if_pos (by omega)]
      refine x_vret dX13_readAll_59 rfl ?_
      first
        | exact ⟨rfl, _, _, rfl, f6, (fun g2 z => by rw [hq1] at z; cases z; exact r6), (fun s2 z => by rw [hq1] at z; cases z)⟩
        | exact ⟨rfl, _, _, rfl, hF, (fun g2 z => by rw [hq0, if_neg (fun z => z (hm1.mp h25)), if_neg (by omega)] at z; cases z), (fun s2 z => by rw [hq0, if_neg (fun z => z (hm1.mp h25)), if_neg (by omega)] at z; cases z; exact hR)⟩
    · refine x_aload_n dX13_readAll_43 rfl ?_
      refine g_M_read hr fX13_185 dX13_readAll_44 ?_
      refine g_MB_places fX13_230 dX13_readAll_47 hbn ?_
      refine x_top (y12_4 hB) ?_
      refine x_ifN_ne 59 dX13_readAll_50 (by decide) (by omega) (fun h50 => ?_) (fun h50 => ?_)
      · refine x_vret dX13_readAll_59 rfl ?_
        first
          | exact ⟨rfl, _, _, rfl, f6, (fun g2 z => by rw [hq1] at z; cases z; exact r6), (fun s2 z => by rw [hq1] at z; cases z)⟩
          | exact ⟨rfl, _, _, rfl, hF, (fun g2 z => by rw [hq0, if_neg (fun z => z (hm1.mp h25)), if_neg (by omega)] at z; cases z), (fun s2 z => by rw [hq0, if_neg (fun z => z (hm1.mp h25)), if_neg (by omega)] at z; cases z; exact hR)⟩
      · refine x_aload_n dX13_readAll_53 rfl ?_
        refine x_bipush dX13_readAll_54 lb_6 ?_
        refine x_cvv (m_flaw (d := d + 11) (f := 6) (c := .inr s.2.2) hR.1) kX13_146 dX13_readAll_56 rfl (Nat.le_of_ble_eq_true rfl) rfl rfl (Nat.le_of_ble_eq_true rfl) (fun Mu hq => ?_)
        obtain ⟨I6, rfl, r6, f6⟩ := hq
        have f6 := hF.tr f6.fq
        have hq1 : q = .inl (6, tA T e s.2.2) := by rw [hq0, if_neg (fun z => z (hm1.mp h25)), if_pos (by omega)]
        refine x_vret dX13_readAll_59 rfl ?_
        first
          | exact ⟨rfl, _, _, rfl, f6, (fun g2 z => by rw [hq1] at z; cases z; exact r6), (fun s2 z => by rw [hq1] at z; cases z)⟩
          | exact ⟨rfl, _, _, rfl, hF, (fun g2 z => by rw [hq0, if_neg (fun z => z (hm1.mp h25)), if_neg (by omega)] at z; cases z), (fun s2 z => by rw [hq0, if_neg (fun z => z (hm1.mp h25)), if_neg (by omega)] at z; cases z; exact hR)⟩
  · refine x_aload_n dX13_readAll_28 rfl ?_
    refine x_iconst dX13_readAll_29 li_1 ?_
    refine x_cvv (m_flaw (d := d + 11) (f := 1) (c := .inr s.2.2) hR.1) kX13_146 dX13_readAll_30 rfl (Nat.le_of_ble_eq_true rfl) rfl rfl (Nat.le_of_ble_eq_true rfl) (fun Mu hq => ?_)
    obtain ⟨I5, rfl, r5, f5⟩ := hq
    have hB := hB.sm (I' := I5) (fun q hq => f5.1 q (by omega))
    have f5 := hF.tr f5.fq
    have hq1 : q = .inl (1, tA T e s.2.2) := by rw [hq0, if_pos (fun z => h25 (hm1.mpr z))]
    refine x_aload_n dX13_readAll_33 rfl ?_
    refine g_M_read hr fX13_185 dX13_readAll_34 ?_
    refine g_MB_lands fX13_227 dX13_readAll_37 hbn ?_
    refine x_top (y12_1 hB) ?_
    refine x_ifN_eq 53 dX13_readAll_40 (by decide) (by omega) (fun h40 => ?_) (fun h40 => ?_)
    · refine x_aload_n dX13_readAll_53 rfl ?_
      refine x_bipush dX13_readAll_54 lb_6 ?_
      refine x_cvv (m_flaw (d := d + 11) (f := 6) (c := .inl (1, tA T e s.2.2)) r5) kX13_146 dX13_readAll_56 rfl (Nat.le_of_ble_eq_true rfl) rfl rfl (Nat.le_of_ble_eq_true rfl) (fun Mu hq => ?_)
      obtain ⟨I6, rfl, r6, f6⟩ := hq
      have f6 := f5.tr f6.fq
      refine x_vret dX13_readAll_59 rfl ?_
      first
        | exact ⟨rfl, _, _, rfl, f6, (fun g2 z => by rw [hq1] at z; cases z; exact r6), (fun s2 z => by rw [hq1] at z; cases z)⟩
        | exact ⟨rfl, _, _, rfl, f5, (fun g2 z => by rw [hq1] at z; cases z; exact r5), (fun s2 z => by rw [hq1] at z; cases z)⟩
    · refine x_aload_n dX13_readAll_43 rfl ?_
      refine g_M_read hr fX13_185 dX13_readAll_44 ?_
      refine g_MB_places fX13_230 dX13_readAll_47 hbn ?_
      refine x_top (y12_4 hB) ?_
      refine x_ifN_ne 59 dX13_readAll_50 (by decide) (by omega) (fun h50 => ?_) (fun h50 => ?_)
      · refine x_vret dX13_readAll_59 rfl ?_
        first
          | exact ⟨rfl, _, _, rfl, f6, (fun g2 z => by rw [hq1] at z; cases z; exact r6), (fun s2 z => by rw [hq1] at z; cases z)⟩
          | exact ⟨rfl, _, _, rfl, f5, (fun g2 z => by rw [hq1] at z; cases z; exact r5), (fun s2 z => by rw [hq1] at z; cases z)⟩
      · refine x_aload_n dX13_readAll_53 rfl ?_
        refine x_bipush dX13_readAll_54 lb_6 ?_
        refine x_cvv (m_flaw (d := d + 11) (f := 6) (c := .inl (1, tA T e s.2.2)) r5) kX13_146 dX13_readAll_56 rfl (Nat.le_of_ble_eq_true rfl) rfl rfl (Nat.le_of_ble_eq_true rfl) (fun Mu hq => ?_)
        obtain ⟨I6, rfl, r6, f6⟩ := hq
        have f6 := f5.tr f6.fq
        refine x_vret dX13_readAll_59 rfl ?_
        first
          | exact ⟨rfl, _, _, rfl, f6, (fun g2 z => by rw [hq1] at z; cases z; exact r6), (fun s2 z => by rw [hq1] at z; cases z)⟩
          | exact ⟨rfl, _, _, rfl, f5, (fun g2 z => by rw [hq1] at z; cases z; exact r5), (fun s2 z => by rw [hq1] at z; cases z)⟩
set_option maxRecDepth 100000 in
set_option maxHeartbeats 600000 in
theorem lp_mra  (hr : r = some ri) (hbn : ri < nb) {q : lR} : ∀ (n : Nat) (f : Nat) (s : pS) (I1 : Nat → Nat → Nat → Int32) (L1 : Nat → Nat → Nat → Int64), f < n → e < s.2.2 + f → YTp T e I1 → YPS T e s ri I1 L1 → PC s → PZ s → FQ ri I I1 L L1 → q = rdAll T e f s → X G vX13_readAll (d + 12) (0, 0) 6 [(0, some (.ref (ad 13 0)))] [] (MM ad nb b r I1 L1) (xT G (qLn T e ad nb b r ri I L q)) := by
  intro n
  induction n with
  | zero => intro f s I1 L1 h0; omega
  | succ n ih =>
    intro f s I1 L1 hn hf hT hP hC hZ hF hrd
    have hse : s.2.2 ≤ e := hP.1.1
    have hf0 : 0 < f := by omega
    refine x_aload_n dX13_readAll_6 rfl ?_
    refine x_cvv (m_readLine (d := d) hr hbn hT hP hC hZ) kX13_221 dX13_readAll_7 rfl (Nat.le_of_ble_eq_true rfl) rfl rfl (Nat.le_of_ble_eq_true rfl) (fun Mu hq => ?_)
    obtain ⟨I2, L2, rfl, f2, r2, p2⟩ := hq
    cases hln : rdLn T e s with
    | inl g =>
      rw [hln] at r2
      have hq0 : q = .inl g := by rw [hrd, rdAll_l hf0 hln]
      refine x_aload_n dX13_readAll_10 rfl ?_
      refine x_bipush dX13_readAll_11 lb_59 ?_
      refine x_cvi (m_eatsSign (d := d + 9) (q := 59) (c := .inl g) (by omega) (hT.fq f2) (r2 g rfl)) kX13_224 dX13_readAll_13 rfl (Nat.le_of_ble_eq_true rfl) rfl rfl (Nat.le_of_ble_eq_true rfl) (fun re Mu hq => ?_)
      obtain ⟨hre, I3, L3, hM3, r3, f3⟩ := hq
      subst hre
      subst hM3
      have r3 : RSt T e (.inl g) I3 L3 := r3
      refine x_istore_n dX13_readAll_16 (by decide) rfl ?_
      refine x_goto 2 dX13_readAll_17 (by decide) ?_
      refine x_iload_n dX13_readAll_2 rfl ?_
      refine x_if_eq 20 dX13_readAll_3 (by decide) (fun h3 => ?_) (fun h3 => ?_)
      · refine x_ls ?_ (mra_over (d := d) hr hbn r3 (hF.tr (f2.tr f3.fq)) hq0)
        exact ⟨rfl, trivial⟩
      · exact absurd rfl h3
    | inr s2 =>
      rw [hln] at p2
      have hk := kp_ln hC hse hln
      rw [rdAll_r hf0 hln] at hrd
      refine x_aload_n dX13_readAll_10 rfl ?_
      refine x_bipush dX13_readAll_11 lb_59 ?_
      refine x_cvi (m_eatsSign (d := d + 9) (q := 59) (c := .inr s2.2.2) (by omega) (hT.fq f2) (p2 s2 rfl).1) kX13_224 dX13_readAll_13 rfl (Nat.le_of_ble_eq_true rfl) rfl rfl (Nat.le_of_ble_eq_true rfl) (fun re Mu hq => ?_)
      obtain ⟨hre, I3, L3, hM3, r3, f3⟩ := hq
      subst hre
      subst hM3
      have y3 : YPS T e s2 ri I2 L2 := p2 s2 rfl
      have b3 := y3.2.1.sm (I' := I3) (fun q hq => f3.1 q (by omega))
      have n3 := y3.2.2.fr f3
      have f33 := hF.tr (f2.tr f3.fq)
      refine x_istore_n dX13_readAll_16 (by decide) rfl ?_
      refine x_goto 2 dX13_readAll_17 (by decide) ?_
      refine x_iload_n dX13_readAll_2 rfl ?_
      refine x_if_eq 20 dX13_readAll_3 (by decide) (fun h3 => ?_) (fun h3 => ?_)
      · have k3 : ¬ kd T e s2.2.2 = 3 := of_decide_eq_false (bI_eq.mp h3)
        unfold cat at r3
        rw [if_neg (fun z => by rw [bI_eq.mp h3] at z; cases z)] at r3
        rw [if_neg k3] at hrd
        refine x_ls ?_ (mra_end (d := d) (s := s2) hr hbn ⟨r3, b3, n3⟩ hk.1.1 f33 hrd)
        exact ⟨rfl, trivial⟩
      · have k3 : kd T e s2.2.2 = 3 := of_decide_eq_true (bI_ne.mp h3)
        unfold cat at r3
        rw [if_pos (bI_ne.mp h3)] at r3
        rw [if_pos k3] at hrd
        have hlt := nx_lt hk.1.2.2 (Or.inl k3)
        have hk12 := hk.1.2.1
        refine x_ls ?_ (ih (f - 1) (s2.1, s2.2.1, nx T e s2.2.2) I3 L3 (by omega) (by show e < nx T e s2.2.2 + (f - 1); omega) ((hT.fq f2).fr f3) ⟨r3, b3, n3⟩ hk.1.1 (fun z => absurd (show s2.1 0 0 0 = 0 from z) (by omega)) f33 hrd)
        exact ⟨rfl, trivial⟩
set_option maxRecDepth 100000 in
set_option maxHeartbeats 600000 in
theorem m_readAll (hr : r = some ri) (hbn : ri < nb) (hT : YTp T e I) (hP : YPS T e (V00, [], 0) ri I L) : Mt G vX13_readAll (d + 12) (0, 0) [.ref (ad 13 0)] (MM ad nb b r I L) (qLn T e ad nb b r ri I L (rdB T e)) := by
  refine x_start (by decide) (Nat.le_of_ble_eq_true rfl) ?_
  refine x_iconst dX13_readAll_0 li_1 ?_
  refine x_istore_n dX13_readAll_1 (by decide) rfl ?_
  refine x_iload_n dX13_readAll_2 rfl ?_
  refine x_ifN_eq 20 dX13_readAll_3 (by decide) (by omega) (fun h3 => absurd h3 (by decide)) (fun h3 => ?_)
  refine x_ls ?_ (lp_mra (d := d) hr hbn (e + 2) (e + 1) (V00, [], 0) I L (by omega) (by show e < 0 + (e + 1); omega) hT hP PC_0 (fun _ => rfl) (FR.rf.fq) rfl)
  exact ⟨rfl, trivial⟩
end M47
