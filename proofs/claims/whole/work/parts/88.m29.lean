section M29
variable {G : xG} {ad : Nat → Nat → Nat} {nb : Nat} {b r : Option Nat} {L : Nat → Nat → Nat → Int64} {V : sV} {I : Nat → Nat → Nat → Int32} {d : Nat}

variable {T : Nat → Nat} {e a : Nat}
def nmb (T : Nat → Nat) (A j : Nat) : Nat := if j = 0 then 0 else if j = 1 then T A - 48 else (T A - 48) * 10 + (T (A + 1) - 48)
theorem nmb_le (hT2 : ∀ i, T i < 256) {A j : Nat} : nmb T A j ≤ 3000 := by
  have h1 := hT2 A
  have h2 := hT2 (A + 1)
  unfold nmb
  split
  · omega
  · split <;> omega

set_option maxRecDepth 100000 in
set_option maxHeartbeats 600000 in
theorem lp_mgo3 (hT : YTp T e I) (hae : a ≤ e) (hl0 : tL T e (tA T e a) = 0) (hd0 : 0 < tD T e (tA T e a)) {z : Int32} : ∀ (n : Nat) (j : Nat) (I1 : Nat → Nat → Nat → Int32) (L1 : Nat → Nat → Nat → Int64), tD T e (tA T e a) - j < n → j ≤ tD T e (tA T e a) → I1 13 0 7 = nI e → I1 13 0 10 = nI (tA T e a) → I1 13 0 8 = nI (tA T e a + j) → I1 13 0 9 = nI 0 → FG I I1 L L1 → I1 13 0 12 = nI (nmb T (tA T e a) j) → j + fst (fun i => !isD (T i)) (tA T e a + j) (e - (tA T e a + j)) = tD T e (tA T e a) → (∀ i, i < j → 48 ≤ T (tA T e a + i)) → X G vX13_goesOn (d + 1) (0, 0) 178 [(0, some (.ref (ad 13 0))), (1, some (.int (z))), (2, some (.int (nI (j))))] [] (MM ad nb b r I1 L1) (xT G (qV (fun M' => ∃ I' L', M' = MM ad nb b r I' L' ∧ YTK T e a I' L' ∧ FG I I' L L'))) := by
  intro n
  induction n with
  | zero => intro j I1 L1 h0; omega
  | succ n ih =>
    intro j I1 L1 hn hj h7 h10 h8 h9 hF hw hf hdd
    have hE := hT.2.1
    have hA := tA_le (T := T) hae
    have hdw : tD T e (tA T e a) ≤ e - tA T e a := by unfold tD; rw [if_pos hl0]; exact fst_le _ _
    have hT1 := (⟨fun i hi => by rw [hF.1 84 (by decide)]; exact hT.1 i hi, hT.2⟩ : YTp T e I1)
    have hkw := kd_d (T := T) (e := e) (a := a) hl0 hd0
    have hnl := nmb_le (T := T) (A := tA T e a) (j := j) hT.2.2
    refine x_aload_n dX13_goesOn_178 rfl ?_
    refine x_aload_n dX13_goesOn_179 rfl ?_
    refine g_M_spot fX13_103 dX13_goesOn_180 ?_
    rw [h8]
    refine x_cvi (m_byteAt (d := d) (T := T) (e := e) (k := tA T e a + j) hT1 h7 (by omega)) kX13_106 dX13_goesOn_183 rfl (Nat.le_of_ble_eq_true rfl) rfl rfl (Nat.le_of_ble_eq_true rfl) (fun ru Mu hq => ?_)
    obtain ⟨rfl, rfl⟩ := hq
    refine x_csi (m_isDigit (d := d) (hT.2.2 _)) kX13_123 dX13_goesOn_186 rfl rfl (Nat.le_of_ble_eq_true rfl) (fun ru Mu hq => ?_)
    obtain ⟨rfl, rfl⟩ := hq
    refine x_if_eq 236 dX13_goesOn_189 (by decide) (fun h189 => ?_) (fun h189 => ?_)
    · have hjl : j = tD T e (tA T e a) := by
        rw [← hf, run_0 (P := (fun i => !isD (T i))) (A := tA T e a + j) ?_]; omega
        by_cases z : tA T e a + j < e
        · refine Or.inr ?_
          have hb := bI_eq.mp h189
          rw [decide_eq_true z, Bool.true_and] at hb
          rw [hb]; rfl
        · exact Or.inl (by omega)
      refine x_iload_n dX13_goesOn_236 rfl ?_
      refine x_iconst dX13_goesOn_237 li_2 ?_
      refine x_icN_gt 281 dX13_goesOn_238 (by decide) (by omega) (by omega) (fun h238 => ?_) (fun h238 => ?_)
      · refine x_vret dX13_goesOn_281 rfl ?_
        subst hjl
        first
          | (have ek : kd T e a = 2 := by rw [hkw.1, if_pos (by omega)]
             refine ⟨rfl, _, _, rfl, ⟨⟨by rw [xu_nk (by decide)]; exact h7, by rw [xu_nk (by decide)]; exact h10, by rw [xu_s, ek]; rfl⟩, fun _ => by rw [xu_nk (by decide), h8, hkw.2], fun z => by omega, fun _ => ?_, fun z => by omega, fun z => by omega⟩, hF.p (by decide)⟩
             rw [xu_nk (by decide), hw]
             unfold nmb wn
             rw [if_neg (by omega)])
          | (have ek : kd T e a = 5 := by rw [hkw.1, if_neg (by omega)]
             exact ⟨rfl, _, _, rfl, ⟨⟨h7, h10, by rw [h9, ek]; rfl⟩, fun z => absurd ek z, fun z => by omega, fun z => by omega, fun z => by omega, fun z => by omega⟩, hF⟩)
      · refine x_aload_n dX13_goesOn_241 rfl ?_
        refine x_iconst dX13_goesOn_242 li_3 ?_
        refine p_M_sort fX13_100 dX13_goesOn_243 ?_
        refine x_goto 281 dX13_goesOn_246 (by decide) ?_
        refine x_vret dX13_goesOn_281 rfl ?_
        subst hjl
        first
          | (have ek : kd T e a = 2 := by rw [hkw.1, if_pos (by omega)]
             refine ⟨rfl, _, _, rfl, ⟨⟨by rw [xu_nk (by decide)]; exact h7, by rw [xu_nk (by decide)]; exact h10, by rw [xu_s, ek]; rfl⟩, fun _ => by rw [xu_nk (by decide), h8, hkw.2], fun z => by omega, fun _ => ?_, fun z => by omega, fun z => by omega⟩, hF.p (by decide)⟩
             rw [xu_nk (by decide), hw]
             unfold nmb wn
             rw [if_neg (by omega)])
          | (have ek : kd T e a = 5 := by rw [hkw.1, if_neg (by omega)]
             exact ⟨rfl, _, _, rfl, ⟨⟨h7, h10, by rw [h9, ek]; rfl⟩, fun z => absurd ek z, fun z => by omega, fun z => by omega, fun z => by omega, fun z => by omega⟩, hF⟩)
    · have hb := Bool.and_eq_true_iff.mp (bI_ne.mp h189)
      have hlt : tA T e a + j < e := of_decide_eq_true hb.1
      have hL : 48 ≤ T (tA T e a + j) ∧ T (tA T e a + j) ≤ 57 := of_decide_eq_true hb.2
      have hjl : j < tD T e (tA T e a) := by
        rw [← hf, fst, dif_neg (by omega), if_neg (by rw [hb.2]; decide)]; omega
      refine x_iload_n dX13_goesOn_192 rfl ?_
      refine x_iconst dX13_goesOn_193 li_2 ?_
      refine x_icN_ge 220 dX13_goesOn_194 (by decide) (by omega) (by omega) (fun h194 => ?_) (fun h194 => ?_)
      · have hwn : nmb T (tA T e a) j = nmb T (tA T e a) (j + 1) := by unfold nmb; rw [if_neg (by omega), if_neg (by omega), if_neg (by omega), if_neg (by omega)]
        refine x_iincN 1 dX13_goesOn_220 li_1 rfl (by decide) rfl ?_
        refine x_aload_n dX13_goesOn_223 rfl ?_
        refine x_dup dX13_goesOn_224 rfl ?_
        refine g_M_spot fX13_103 dX13_goesOn_225 ?_
        first
          | rw [h8]
          | rw [xu_nk (by decide), h8]
        refine x_iconst dX13_goesOn_228 li_1 ?_
        refine x_iaddN dX13_goesOn_229 ?_
        refine p_M_spot fX13_103 dX13_goesOn_230 ?_
        refine x_goto 178 dX13_goesOn_233 (by decide) ?_
        have hfn : j + 1 + fst (fun i => !isD (T i)) (tA T e a + (j + 1)) (e - (tA T e a + (j + 1))) = tD T e (tA T e a) := by
          rw [← hf]
          conv => rhs; rw [fst, dif_neg (by omega), if_neg (by rw [hb.2]; decide)]
          rw [show tA T e a + (j + 1) = tA T e a + j + 1 by omega, show e - (tA T e a + j + 1) = e - (tA T e a + j) - 1 by omega]
          omega
        have hdn : ∀ i, i < j + 1 → 48 ≤ T (tA T e a + i) := fun i hi => by
          rcases (show i = j ∨ i < j by omega) with y | y
          · rw [y]; exact hL.1
          · exact hdd i y
        first
          | (refine x_ls ?_ (ih (j + 1) _ L1 (by omega) (by omega) (by rw [xu_nk (by decide), xu_nk (by decide)]; exact h7) (by rw [xu_nk (by decide), xu_nk (by decide)]; exact h10) xu_s (by rw [xu_nk (by decide), xu_nk (by decide)]; exact h9) ((hF.p (by decide)).p (by decide)) (by rw [xu_nk (by decide), xu_s, hwn]) hfn hdn)
             exact ⟨rfl, rfl, rfl, trivial⟩)
          | (refine x_ls ?_ (ih (j + 1) _ L1 (by omega) (by omega) (by rw [xu_nk (by decide)]; exact h7) (by rw [xu_nk (by decide)]; exact h10) xu_s (by rw [xu_nk (by decide)]; exact h9) (hF.p (by decide)) (by rw [xu_nk (by decide), hw, hwn]) hfn hdn)
             exact ⟨rfl, rfl, rfl, trivial⟩)
      · have hwn : 10 * nmb T (tA T e a) j + T (tA T e a + j) - 48 = nmb T (tA T e a) (j + 1) := by
          rcases (show j = 0 ∨ j = 1 by omega) with rfl | rfl
          · unfold nmb; rw [if_pos rfl, if_neg (by omega), if_pos rfl, Nat.add_zero]; omega
          · have := hdd 0 (by omega)
            unfold nmb; rw [if_neg (by omega), if_pos rfl, if_neg (by omega), if_neg (by omega)]
            rw [Nat.add_zero] at this
            omega
        refine x_aload_n dX13_goesOn_197 rfl ?_
        refine x_bipush dX13_goesOn_198 lb_10 ?_
        refine x_aload_n dX13_goesOn_200 rfl ?_
        refine g_M_number fX13_126 dX13_goesOn_201 ?_
        rw [hw]
        refine x_imulN dX13_goesOn_204 ?_
        refine x_aload_n dX13_goesOn_205 rfl ?_
        refine x_aload_n dX13_goesOn_206 rfl ?_
        refine g_M_spot fX13_103 dX13_goesOn_207 ?_
        rw [h8]
        refine x_cvi (m_byteAt (d := d) (T := T) (e := e) (k := tA T e a + j) hT1 h7 (by omega)) kX13_106 dX13_goesOn_210 rfl (Nat.le_of_ble_eq_true rfl) rfl rfl (Nat.le_of_ble_eq_true rfl) (fun ru Mu hq => ?_)
        obtain ⟨rfl, rfl⟩ := hq
        rw [show bA T e (tA T e a + j) = nI (T (tA T e a + j)) from if_pos hlt]
        refine x_iaddN dX13_goesOn_213 ?_
        refine x_bipush dX13_goesOn_214 lb_48 ?_
        refine x_isubN dX13_goesOn_216 (by omega) ?_
        refine p_M_number fX13_126 dX13_goesOn_217 ?_
        refine x_iincN 1 dX13_goesOn_220 li_1 rfl (by decide) rfl ?_
        refine x_aload_n dX13_goesOn_223 rfl ?_
        refine x_dup dX13_goesOn_224 rfl ?_
        refine g_M_spot fX13_103 dX13_goesOn_225 ?_
        first
          | rw [h8]
          | rw [xu_nk (by decide), h8]
        refine x_iconst dX13_goesOn_228 li_1 ?_
        refine x_iaddN dX13_goesOn_229 ?_
        refine p_M_spot fX13_103 dX13_goesOn_230 ?_
        refine x_goto 178 dX13_goesOn_233 (by decide) ?_
        have hfn : j + 1 + fst (fun i => !isD (T i)) (tA T e a + (j + 1)) (e - (tA T e a + (j + 1))) = tD T e (tA T e a) := by
          rw [← hf]
          conv => rhs; rw [fst, dif_neg (by omega), if_neg (by rw [hb.2]; decide)]
          rw [show tA T e a + (j + 1) = tA T e a + j + 1 by omega, show e - (tA T e a + j + 1) = e - (tA T e a + j) - 1 by omega]
          omega
        have hdn : ∀ i, i < j + 1 → 48 ≤ T (tA T e a + i) := fun i hi => by
          rcases (show i = j ∨ i < j by omega) with y | y
          · rw [y]; exact hL.1
          · exact hdd i y
        first
          | (refine x_ls ?_ (ih (j + 1) _ L1 (by omega) (by omega) (by rw [xu_nk (by decide), xu_nk (by decide)]; exact h7) (by rw [xu_nk (by decide), xu_nk (by decide)]; exact h10) xu_s (by rw [xu_nk (by decide), xu_nk (by decide)]; exact h9) ((hF.p (by decide)).p (by decide)) (by rw [xu_nk (by decide), xu_s, hwn]) hfn hdn)
             exact ⟨rfl, rfl, rfl, trivial⟩)
          | (refine x_ls ?_ (ih (j + 1) _ L1 (by omega) (by omega) (by rw [xu_nk (by decide)]; exact h7) (by rw [xu_nk (by decide)]; exact h10) xu_s (by rw [xu_nk (by decide)]; exact h9) (hF.p (by decide)) (by rw [xu_nk (by decide), hw, hwn]) hfn hdn)
             exact ⟨rfl, rfl, rfl, trivial⟩)

theorem bA_m1 {k : Nat} (hT2 : T k < 256) : bA T e k = -1 ↔ e ≤ k := by
  unfold bA
  by_cases h : k < e
  · rw [if_pos h]; exact ⟨fun z => absurd z (nI_ne_m1 (by omega)), fun z => by omega⟩
  · rw [if_neg h]; exact ⟨fun _ => by omega, fun _ => rfl⟩

set_option maxRecDepth 100000 in
set_option maxHeartbeats 600000 in
theorem lp_mgo1 (hT : YTp T e I) (hae : a ≤ e)  : ∀ (n : Nat) (s : Nat) (I1 : Nat → Nat → Nat → Int32), e - s < n → (a ≤ s ∧ s ≤ e) → I1 13 0 7 = nI e → I1 13 0 8 = nI s → FG I I1 L L → s + fst (fun i => decide (T i ≠ 32)) s (e - s) = tA T e a → X G vX13_goesOn (d + 1) (0, 0) 9 [(0, some (.ref (ad 13 0)))] [] (MM ad nb b r I1 L) (xT G (qV (fun M' => ∃ I' L', M' = MM ad nb b r I' L' ∧ YTK T e a I' L' ∧ FG I I' L L'))) := by
  intro n
  induction n with
  | zero => intro s I1 h0; omega
  | succ n ih =>
    intro s I1 hn hs h7 h8 hF hf
    have hE := hT.2.1
    have hA := tA_le (T := T) hae
    have hT1 := (⟨fun i hi => by rw [hF.1 84 (by decide)]; exact hT.1 i hi, hT.2⟩ : YTp T e I1)
    have hts := hT.2.2 s
    refine x_aload_n dX13_goesOn_9 rfl ?_
    refine x_aload_n dX13_goesOn_10 rfl ?_
    refine g_M_spot fX13_103 dX13_goesOn_11 ?_
    rw [h8]
    refine x_cvi (m_byteAt (d := d) (T := T) (e := e) (k := s) hT1 h7 (by omega)) kX13_106 dX13_goesOn_14 rfl (Nat.le_of_ble_eq_true rfl) rfl rfl (Nat.le_of_ble_eq_true rfl) (fun ru Mu hq => ?_)
    obtain ⟨rfl, rfl⟩ := hq
    refine x_bipush dX13_goesOn_17 lb_32 ?_
    refine x_ic_ne 35 dX13_goesOn_19 (by decide) (fun h19 => ?_) (fun h19 => ?_)
    · have hsA : s = tA T e a := by
        rw [← hf, run_0 (P := (fun i => decide (T i ≠ 32))) (A := s) ?_]; rfl
        by_cases z : s < e
        · exact Or.inr (decide_eq_true (fun y => h19 ((bA_32 hts).mpr ⟨z, y⟩)))
        · exact Or.inl (by omega)
      subst hsA
      refine x_aload_n dX13_goesOn_35 rfl ?_
      refine x_aload_n dX13_goesOn_36 rfl ?_
      refine g_M_spot fX13_103 dX13_goesOn_37 ?_
      rw [h8]
      refine p_M_place fX13_109 dX13_goesOn_40 ?_
      refine x_aload_n dX13_goesOn_43 rfl ?_
      refine x_iconst dX13_goesOn_44 li_0 ?_
      refine p_M_sort fX13_100 dX13_goesOn_45 ?_
      refine x_aload_n dX13_goesOn_48 rfl ?_
      refine x_iconst dX13_goesOn_49 li_0 ?_
      refine p_M_sign fX13_112 dX13_goesOn_50 ?_
      have n7 : (xu (xu (xu I1 13 0 10 (nI (tA T e a))) 13 0 9 (nI 0)) 13 0 11 (nI 0)) 13 0 7 = nI e := by rw [xu_nk (by decide), xu_nk (by decide), xu_nk (by decide)]; exact h7
      have n8 : (xu (xu (xu I1 13 0 10 (nI (tA T e a))) 13 0 9 (nI 0)) 13 0 11 (nI 0)) 13 0 8 = nI (tA T e a) := by rw [xu_nk (by decide), xu_nk (by decide), xu_nk (by decide)]; exact h8
      have n10 : (xu (xu (xu I1 13 0 10 (nI (tA T e a))) 13 0 9 (nI 0)) 13 0 11 (nI 0)) 13 0 10 = nI (tA T e a) := by rw [xu_nk (by decide), xu_nk (by decide), xu_s]
      have n9 : (xu (xu (xu I1 13 0 10 (nI (tA T e a))) 13 0 9 (nI 0)) 13 0 11 (nI 0)) 13 0 9 = nI 0 := by rw [xu_nk (by decide), xu_s]
      have nF : FG I (xu (xu (xu I1 13 0 10 (nI (tA T e a))) 13 0 9 (nI 0)) 13 0 11 (nI 0)) L L := ((hF.p (by decide)).p (by decide)).p (by decide)
      have nT : YTp T e (xu (xu (xu I1 13 0 10 (nI (tA T e a))) 13 0 9 (nI 0)) 13 0 11 (nI 0)) := ⟨fun i hi => by rw [nF.1 84 (by decide)]; exact hT.1 i hi, hT.2⟩
      refine x_aload_n dX13_goesOn_53 rfl ?_
      refine x_aload_n dX13_goesOn_54 rfl ?_
      refine g_M_spot fX13_103 dX13_goesOn_55 ?_
      rw [n8]
      refine x_cvi (m_byteAt (d := d) (T := T) (e := e) (k := tA T e a) nT n7 (by omega)) kX13_106 dX13_goesOn_58 rfl (Nat.le_of_ble_eq_true rfl) rfl rfl (Nat.le_of_ble_eq_true rfl) (fun ru Mu hq => ?_)
      obtain ⟨rfl, rfl⟩ := hq
      refine x_istore_n dX13_goesOn_61 (by decide) rfl ?_
      refine x_iconst dX13_goesOn_62 li_0 ?_
      refine x_istore_n dX13_goesOn_63 (by decide) rfl ?_
      refine x_iload_n dX13_goesOn_64 rfl ?_
      refine x_iconst dX13_goesOn_65 li_m1 ?_
      refine x_ic_ne 77 dX13_goesOn_66 (by decide) (fun h66 => ?_) (fun h66 => ?_)
      · have hlt : tA T e a < e := Nat.lt_of_not_le (fun y => h66 ((bA_m1 hts).mpr y))
        refine x_iload_n dX13_goesOn_77 rfl ?_
        refine x_csi (m_isLetter (d := d) (hT.2.2 _)) kX13_115 dX13_goesOn_78 rfl rfl (Nat.le_of_ble_eq_true rfl) (fun ru Mu hq => ?_)
        obtain ⟨rfl, rfl⟩ := hq
        refine x_if_eq 166 dX13_goesOn_81 (by decide) (fun h81 => ?_) (fun h81 => ?_)
        · have hb : isL (T (tA T e a)) = false := by have := bI_eq.mp h81; rwa [decide_eq_true hlt, Bool.true_and] at this
          have l0 : tL T e (tA T e a) = 0 := run_0 (Or.inr (by rw [hb]; rfl))
          refine x_iload_n dX13_goesOn_166 rfl ?_
          refine x_csi (m_isDigit (d := d) (hT.2.2 _)) kX13_123 dX13_goesOn_167 rfl rfl (Nat.le_of_ble_eq_true rfl) (fun ru Mu hq => ?_)
          obtain ⟨rfl, rfl⟩ := hq
          refine x_if_eq 249 dX13_goesOn_170 (by decide) (fun h170 => ?_) (fun h170 => ?_)
          · have hb2 : isD (T (tA T e a)) = false := by have := bI_eq.mp h170; rwa [decide_eq_true hlt, Bool.true_and] at this
            have d0 : tD T e (tA T e a) = 0 := by unfold tD; rw [if_pos l0]; exact run_0 (Or.inr (by rw [hb2]; rfl))
            have hko := kd_o l0 d0
            rw [show (bA T e (tA T e a)) = nI (T (tA T e a)) from if_pos hlt]
            refine x_iload_n dX13_goesOn_249 rfl ?_
            refine x_bipush dX13_goesOn_250 lb_59 ?_
            refine x_icN_eq 261 dX13_goesOn_252 (by decide) (by omega) (by omega) (fun h252 => ?_) (fun h252 => ?_)
            · refine x_aload_n dX13_goesOn_261 rfl ?_
              refine x_iconst dX13_goesOn_262 li_4 ?_
              refine p_M_sort fX13_100 dX13_goesOn_263 ?_
              refine x_aload_n dX13_goesOn_266 rfl ?_
              refine x_iload_n dX13_goesOn_267 rfl ?_
              refine p_M_sign fX13_112 dX13_goesOn_268 ?_
              refine x_aload_n dX13_goesOn_271 rfl ?_
              refine x_dup dX13_goesOn_272 rfl ?_
              refine g_M_spot fX13_103 dX13_goesOn_273 ?_
              rw [xu_nk (by decide), xu_nk (by decide), n8]
              refine x_iconst dX13_goesOn_276 li_1 ?_
              refine x_iaddN dX13_goesOn_277 ?_
              refine p_M_spot fX13_103 dX13_goesOn_278 ?_
              refine x_vret dX13_goesOn_281 rfl ?_
              first
                | (have ek : kd T e a = 0 := by rw [hko.1, if_pos hend]
                   exact ⟨rfl, _, _, rfl, ⟨⟨by rw [xu_nk (by decide)]; exact n7, by rw [xu_nk (by decide)]; exact n10, by rw [xu_s, ek]; rfl⟩, fun _ => by rw [xu_nk (by decide), n8, hko.2, if_neg (by omega)], fun z => by omega, fun z => by omega, fun z => by omega, fun z => by omega⟩, nF.p (by decide)⟩)
                | (have ek : kd T e a = 3 := by rw [hko.1, if_neg (by omega), if_pos h252]
                   exact ⟨rfl, _, _, rfl, ⟨⟨by rw [xu_nk (by decide), xu_nk (by decide), xu_nk (by decide)]; exact n7, by rw [xu_nk (by decide), xu_nk (by decide), xu_nk (by decide)]; exact n10, by rw [xu_nk (by decide), xu_nk (by decide), xu_s, ek]; rfl⟩, fun _ => by rw [xu_s, hko.2, if_pos hlt], fun z => by omega, fun z => by omega, fun _ => by rw [xu_nk (by decide), xu_s, h252], fun z => by omega⟩, ((nF.p (by decide)).p (by decide)).p (by decide)⟩)
                | (have ek : kd T e a = 4 := by rw [hko.1, if_neg (by omega), if_neg h252, if_pos h258]
                   exact ⟨rfl, _, _, rfl, ⟨⟨by rw [xu_nk (by decide), xu_nk (by decide), xu_nk (by decide)]; exact n7, by rw [xu_nk (by decide), xu_nk (by decide), xu_nk (by decide)]; exact n10, by rw [xu_nk (by decide), xu_nk (by decide), xu_s, ek]; rfl⟩, fun _ => by rw [xu_s, hko.2, if_pos hlt], fun z => by omega, fun z => by omega, fun z => by omega, fun _ => by rw [xu_nk (by decide), xu_s, h258]⟩, ((nF.p (by decide)).p (by decide)).p (by decide)⟩)
                | (have ek : kd T e a = 5 := by rw [hko.1, if_neg (by omega), if_neg h252, if_neg h258]
                   exact ⟨rfl, _, _, rfl, ⟨⟨n7, n10, by rw [n9, ek]; rfl⟩, fun z => absurd ek z, fun z => by omega, fun z => by omega, fun z => by omega, fun z => by omega⟩, nF⟩)
            · refine x_iload_n dX13_goesOn_255 rfl ?_
              refine x_bipush dX13_goesOn_256 lb_44 ?_
              refine x_icN_ne 281 dX13_goesOn_258 (by decide) (by omega) (by omega) (fun h258 => ?_) (fun h258 => ?_)
              · refine x_vret dX13_goesOn_281 rfl ?_
                first
                  | (have ek : kd T e a = 0 := by rw [hko.1, if_pos hend]
                     exact ⟨rfl, _, _, rfl, ⟨⟨by rw [xu_nk (by decide)]; exact n7, by rw [xu_nk (by decide)]; exact n10, by rw [xu_s, ek]; rfl⟩, fun _ => by rw [xu_nk (by decide), n8, hko.2, if_neg (by omega)], fun z => by omega, fun z => by omega, fun z => by omega, fun z => by omega⟩, nF.p (by decide)⟩)
                  | (have ek : kd T e a = 3 := by rw [hko.1, if_neg (by omega), if_pos h252]
                     exact ⟨rfl, _, _, rfl, ⟨⟨by rw [xu_nk (by decide), xu_nk (by decide), xu_nk (by decide)]; exact n7, by rw [xu_nk (by decide), xu_nk (by decide), xu_nk (by decide)]; exact n10, by rw [xu_nk (by decide), xu_nk (by decide), xu_s, ek]; rfl⟩, fun _ => by rw [xu_s, hko.2, if_pos hlt], fun z => by omega, fun z => by omega, fun _ => by rw [xu_nk (by decide), xu_s, h252], fun z => by omega⟩, ((nF.p (by decide)).p (by decide)).p (by decide)⟩)
                  | (have ek : kd T e a = 4 := by rw [hko.1, if_neg (by omega), if_neg h252, if_pos h258]
                     exact ⟨rfl, _, _, rfl, ⟨⟨by rw [xu_nk (by decide), xu_nk (by decide), xu_nk (by decide)]; exact n7, by rw [xu_nk (by decide), xu_nk (by decide), xu_nk (by decide)]; exact n10, by rw [xu_nk (by decide), xu_nk (by decide), xu_s, ek]; rfl⟩, fun _ => by rw [xu_s, hko.2, if_pos hlt], fun z => by omega, fun z => by omega, fun z => by omega, fun _ => by rw [xu_nk (by decide), xu_s, h258]⟩, ((nF.p (by decide)).p (by decide)).p (by decide)⟩)
                  | (have ek : kd T e a = 5 := by rw [hko.1, if_neg (by omega), if_neg h252, if_neg h258]
                     exact ⟨rfl, _, _, rfl, ⟨⟨n7, n10, by rw [n9, ek]; rfl⟩, fun z => absurd ek z, fun z => by omega, fun z => by omega, fun z => by omega, fun z => by omega⟩, nF⟩)
              · refine x_aload_n dX13_goesOn_261 rfl ?_
                refine x_iconst dX13_goesOn_262 li_4 ?_
                refine p_M_sort fX13_100 dX13_goesOn_263 ?_
                refine x_aload_n dX13_goesOn_266 rfl ?_
                refine x_iload_n dX13_goesOn_267 rfl ?_
                refine p_M_sign fX13_112 dX13_goesOn_268 ?_
                refine x_aload_n dX13_goesOn_271 rfl ?_
                refine x_dup dX13_goesOn_272 rfl ?_
                refine g_M_spot fX13_103 dX13_goesOn_273 ?_
                rw [xu_nk (by decide), xu_nk (by decide), n8]
                refine x_iconst dX13_goesOn_276 li_1 ?_
                refine x_iaddN dX13_goesOn_277 ?_
                refine p_M_spot fX13_103 dX13_goesOn_278 ?_
                refine x_vret dX13_goesOn_281 rfl ?_
                first
                  | (have ek : kd T e a = 0 := by rw [hko.1, if_pos hend]
                     exact ⟨rfl, _, _, rfl, ⟨⟨by rw [xu_nk (by decide)]; exact n7, by rw [xu_nk (by decide)]; exact n10, by rw [xu_s, ek]; rfl⟩, fun _ => by rw [xu_nk (by decide), n8, hko.2, if_neg (by omega)], fun z => by omega, fun z => by omega, fun z => by omega, fun z => by omega⟩, nF.p (by decide)⟩)
                  | (have ek : kd T e a = 3 := by rw [hko.1, if_neg (by omega), if_pos h252]
                     exact ⟨rfl, _, _, rfl, ⟨⟨by rw [xu_nk (by decide), xu_nk (by decide), xu_nk (by decide)]; exact n7, by rw [xu_nk (by decide), xu_nk (by decide), xu_nk (by decide)]; exact n10, by rw [xu_nk (by decide), xu_nk (by decide), xu_s, ek]; rfl⟩, fun _ => by rw [xu_s, hko.2, if_pos hlt], fun z => by omega, fun z => by omega, fun _ => by rw [xu_nk (by decide), xu_s, h252], fun z => by omega⟩, ((nF.p (by decide)).p (by decide)).p (by decide)⟩)
                  | (have ek : kd T e a = 4 := by rw [hko.1, if_neg (by omega), if_neg h252, if_pos h258]
                     exact ⟨rfl, _, _, rfl, ⟨⟨by rw [xu_nk (by decide), xu_nk (by decide), xu_nk (by decide)]; exact n7, by rw [xu_nk (by decide), xu_nk (by decide), xu_nk (by decide)]; exact n10, by rw [xu_nk (by decide), xu_nk (by decide), xu_s, ek]; rfl⟩, fun _ => by rw [xu_s, hko.2, if_pos hlt], fun z => by omega, fun z => by omega, fun z => by omega, fun _ => by rw [xu_nk (by decide), xu_s, h258]⟩, ((nF.p (by decide)).p (by decide)).p (by decide)⟩)
                  | (have ek : kd T e a = 5 := by rw [hko.1, if_neg (by omega), if_neg h252, if_neg h258]
                     exact ⟨rfl, _, _, rfl, ⟨⟨n7, n10, by rw [n9, ek]; rfl⟩, fun z => absurd ek z, fun z => by omega, fun z => by omega, fun z => by omega, fun z => by omega⟩, nF⟩)
          · have hb2 := (Bool.and_eq_true_iff.mp (bI_ne.mp h170)).2
            have d0 : 0 < tD T e (tA T e a) := by unfold tD; rw [if_pos l0, fst, dif_neg (by omega), if_neg (by rw [hb2]; decide)]; omega
            refine x_aload_n dX13_goesOn_173 rfl ?_
            refine x_iconst dX13_goesOn_174 li_0 ?_
            refine p_M_number fX13_126 dX13_goesOn_175 ?_
            refine x_ls ?_ (lp_mgo3 (z := bA T e (tA T e a)) hT hae l0 d0 (tD T e (tA T e a) + 1) 0 (xu (xu (xu (xu I1 13 0 10 (nI (tA T e a))) 13 0 9 (nI 0)) 13 0 11 (nI 0)) 13 0 12 (nI 0)) L (by omega) (by omega) (by rw [xu_nk (by decide)]; exact n7) (by rw [xu_nk (by decide)]; exact n10) (by rw [xu_nk (by decide)]; exact n8) (by rw [xu_nk (by decide)]; exact n9) (nF.p (by decide)) xu_s (by rw [Nat.zero_add]; unfold tD; rw [if_pos l0]; rfl) (fun i h => absurd h (Nat.not_lt_zero i)))
            exact ⟨rfl, rfl, rfl, trivial⟩
        · have hb := (Bool.and_eq_true_iff.mp (bI_ne.mp h81)).2
          have l0 : 0 < tL T e (tA T e a) := by unfold tL; rw [fst, dif_neg (by omega), if_neg (by rw [hb]; decide)]; omega
          refine x_aload_n dX13_goesOn_84 rfl ?_
          refine x_lconst dX13_goesOn_85 (v := lN 0) rfl ?_
          refine p_M_word fX13_119 dX13_goesOn_86 ?_
          refine x_ls ?_ (lp_mgo2 (z := bA T e (tA T e a)) hT hae l0 (tL T e (tA T e a) + 1) 0 (xu (xu (xu I1 13 0 10 (nI (tA T e a))) 13 0 9 (nI 0)) 13 0 11 (nI 0)) _ (by omega) (by omega) n7 n10 n8 n9 nF.l (by rw [xu_s]; rfl) (by rw [Nat.zero_add]; rfl))
          exact ⟨rfl, rfl, rfl, trivial⟩
      · have hend := (bA_m1 hts).mp (by first | exact h66 | exact Decidable.of_not_not h66)
        have l0 : tL T e (tA T e a) = 0 := run_0 (Or.inl hend)
        have d0 : tD T e (tA T e a) = 0 := by unfold tD; rw [if_pos l0]; exact run_0 (Or.inl hend)
        have hko := kd_o l0 d0
        refine x_aload_n dX13_goesOn_69 rfl ?_
        refine x_iconst dX13_goesOn_70 li_1 ?_
        refine p_M_sort fX13_100 dX13_goesOn_71 ?_
        refine x_goto 281 dX13_goesOn_74 (by decide) ?_
        refine x_vret dX13_goesOn_281 rfl ?_
        first
          | (have ek : kd T e a = 0 := by rw [hko.1, if_pos hend]
             exact ⟨rfl, _, _, rfl, ⟨⟨by rw [xu_nk (by decide)]; exact n7, by rw [xu_nk (by decide)]; exact n10, by rw [xu_s, ek]; rfl⟩, fun _ => by rw [xu_nk (by decide), n8, hko.2, if_neg (by omega)], fun z => by omega, fun z => by omega, fun z => by omega, fun z => by omega⟩, nF.p (by decide)⟩)
          | (have ek : kd T e a = 3 := by rw [hko.1, if_neg (by omega), if_pos h252]
             exact ⟨rfl, _, _, rfl, ⟨⟨by rw [xu_nk (by decide), xu_nk (by decide), xu_nk (by decide)]; exact n7, by rw [xu_nk (by decide), xu_nk (by decide), xu_nk (by decide)]; exact n10, by rw [xu_nk (by decide), xu_nk (by decide), xu_s, ek]; rfl⟩, fun _ => by rw [xu_s, hko.2, if_pos hlt], fun z => by omega, fun z => by omega, fun _ => by rw [xu_nk (by decide), xu_s, h252], fun z => by omega⟩, ((nF.p (by decide)).p (by decide)).p (by decide)⟩)
          | (have ek : kd T e a = 4 := by rw [hko.1, if_neg (by omega), if_neg h252, if_pos h258]
             exact ⟨rfl, _, _, rfl, ⟨⟨by rw [xu_nk (by decide), xu_nk (by decide), xu_nk (by decide)]; exact n7, by rw [xu_nk (by decide), xu_nk (by decide), xu_nk (by decide)]; exact n10, by rw [xu_nk (by decide), xu_nk (by decide), xu_s, ek]; rfl⟩, fun _ => by rw [xu_s, hko.2, if_pos hlt], fun z => by omega, fun z => by omega, fun z => by omega, fun _ => by rw [xu_nk (by decide), xu_s, h258]⟩, ((nF.p (by decide)).p (by decide)).p (by decide)⟩)
          | (have ek : kd T e a = 5 := by rw [hko.1, if_neg (by omega), if_neg h252, if_neg h258]
             exact ⟨rfl, _, _, rfl, ⟨⟨n7, n10, by rw [n9, ek]; rfl⟩, fun z => absurd ek z, fun z => by omega, fun z => by omega, fun z => by omega, fun z => by omega⟩, nF⟩)
    · have h32 := (bA_32 hts).mp (by first | exact h19 | exact Decidable.of_not_not h19)
      refine x_aload_n dX13_goesOn_22 rfl ?_
      refine x_dup dX13_goesOn_23 rfl ?_
      refine g_M_spot fX13_103 dX13_goesOn_24 ?_
      rw [h8]
      refine x_iconst dX13_goesOn_27 li_1 ?_
      refine x_iaddN dX13_goesOn_28 ?_
      refine p_M_spot fX13_103 dX13_goesOn_29 ?_
      refine x_goto 9 dX13_goesOn_32 (by decide) ?_
      refine x_ls ?_ (ih (s + 1) _ (by omega) (by omega) (by rw [xu_nk (by decide)]; exact h7) xu_s (hF.p (by decide)) ?_)
      · exact ⟨rfl, trivial⟩
      · rw [← hf]
        conv => rhs; rw [fst, dif_neg (by omega), if_neg (by rw [decide_eq_false (fun y => y h32.2)]; decide)]
        rw [show e - (s + 1) = e - s - 1 by omega]
        omega
set_option maxRecDepth 100000 in
set_option maxHeartbeats 600000 in
theorem m_goesOn (hT : YTp T e I) (hae : a ≤ e) (h7 : I 13 0 7 = nI e) (h8 : I 13 0 8 = nI a) {so : Nat} (h9 : I 13 0 9 = nI so) (hso : so < 5) : Mt G vX13_goesOn (d + 1) (0, 0) [.ref (ad 13 0)] (MM ad nb b r I L) (qV (fun M' => ∃ I' L', M' = MM ad nb b r I' L' ∧ YTK T e a I' L' ∧ FG I I' L L')) := by
  refine x_start (by decide) (Nat.le_of_ble_eq_true rfl) ?_
  refine x_aload_n dX13_goesOn_0 rfl ?_
  refine g_M_sort fX13_100 dX13_goesOn_1 ?_
  refine x_top (h9) ?_
  refine x_iconst dX13_goesOn_4 li_5 ?_
  refine x_icN_ne 9 dX13_goesOn_5 (by decide) (by omega) (by omega) (fun h5 => ?_) (fun h5 => absurd h5 (by omega))
  refine x_ls ?_ (lp_mgo1 hT hae (e + 1) a I (by omega) ⟨Nat.le_refl a, hae⟩ h7 h8 ⟨fun _ _ => rfl, fun _ _ => rfl, fun _ _ => rfl⟩ rfl)
  exact ⟨rfl, trivial⟩
set_option maxRecDepth 100000 in
set_option maxHeartbeats 600000 in
theorem m_goesOn' (h9 : I 13 0 9 = nI 5) : Mt G vX13_goesOn (d + 1) (0, 0) [.ref (ad 13 0)] (MM ad nb b r I L) (qV (fun M' => M' = MM ad nb b r I L)) := by
  refine x_start (by decide) (Nat.le_of_ble_eq_true rfl) ?_
  refine x_aload_n dX13_goesOn_0 rfl ?_
  refine g_M_sort fX13_100 dX13_goesOn_1 ?_
  refine x_top (h9) ?_
  refine x_iconst dX13_goesOn_4 li_5 ?_
  refine x_icN_ne 9 dX13_goesOn_5 (by decide) (by omega) (by omega) (fun h5 => absurd rfl h5) (fun h5 => ?_)
  refine x_vret dX13_goesOn_8 rfl ?_
  exact ⟨rfl, rfl⟩
end M29
