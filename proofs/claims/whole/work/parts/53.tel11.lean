section Tel11
variable {G : xG} {ad : Nat → Nat → Nat} {nb : Nat} {b r : Option Nat} {L : Nat → Nat → Nat → Int64} {V : sV} {I : Nat → Nat → Nat → Int32} {d : Nat}
theorem XB.path {o q x : Nat} {I' : Nat → Nat → Nat → Int32} (h : XB V 1 I) (hw : ∀ i, i < 6 → I 29 1 i = nO (-1) (V 17 i 0)) (h16 : I' 16 1 5 = nI (V 0 5 0 + 1)) (k16 : ∀ l, l ≠ 5 → I' 16 1 l = I 16 1 l) (ha : I' 31 (o + 6) q = nI x) (hb : I' 31 (q + 6) o = nI x) (kk : ∀ c l, ¬ (c = o + 6 ∧ l = q) → ¬ (c = q + 6 ∧ l = o) → I' 31 c l = I 31 c l) (ho : ∀ s, 17 ≤ s → s ≤ 37 → s ≠ 31 → I' s = I s) : XB (setV (setV (setV V 7 o q x) 7 q o x) 0 5 0 (V 0 5 0 + 1)) 1 I' ∧ ∀ i, i < 6 → I' 29 1 i = nO (-1) ((setV (setV (setV V 7 o q x) 7 q o x) 0 5 0 (V 0 5 0 + 1)) 17 i 0) := by
  obtain ⟨x0, x1, x2, x3, x4, x5, x6, x7, x8, x9, x10, x11⟩ := h
  generalize hV' : setV (setV (setV V 7 o q x) 7 q o x) 0 5 0 (V 0 5 0 + 1) = V'
  have vs : ∀ k, k ≠ 5 → V' 0 k 0 = V 0 k 0 := fun k hk => by rw [← hV']; unfold setV; rw [if_neg (fun z => hk z.2.1), if_neg (by omega), if_neg (by omega)]
  have vz : V' 0 5 0 = V 0 5 0 + 1 := by rw [← hV']; exact if_pos ⟨rfl, rfl, rfl⟩
  have vo : ∀ k i j, k ≠ 0 → k ≠ 7 → V' k i j = V k i j := fun k i j h0 h1 => by rw [← hV']; unfold setV; rw [if_neg (fun z => h0 z.1), if_neg (fun z => h1 z.1), if_neg (fun z => h1 z.1)]
  have hf : ∀ i j, i < 6 → j < 6 → I' 31 (i + 6) j = nI (V' 7 i j) := by
    intro i j hi hj
    rw [← hV']
    unfold setV
    rw [if_neg (by omega)]
    by_cases e1 : i = q ∧ j = o
    · obtain ⟨rfl, rfl⟩ := e1
      rw [if_pos ⟨rfl, rfl, rfl⟩]; exact hb
    · rw [if_neg (fun z => e1 z.2)]
      by_cases e0 : i = o ∧ j = q
      · obtain ⟨rfl, rfl⟩ := e0
        rw [if_pos ⟨rfl, rfl, rfl⟩]; exact ha
      · rw [if_neg (fun z => e0 z.2), kk _ _ (fun z => e0 ⟨by omega, z.2⟩) (fun z => e1 ⟨by omega, z.2⟩)]
        exact (x9 i j hi hj).1
  have hw' : ∀ i, i < 6 → I' 29 1 i = nO (-1) (V' 17 i 0) := fun i hi => by rw [ho 29 (by decide) (by decide) (by decide), vo 17 i 0 (by decide) (by decide)]; exact hw i hi
  refine ⟨⟨fun k hk => ?_, ?_, ?_, ?_, ?_, ?_, ?_, ?_, fun s hs _ => hw' s hs, ?_, ?_, ?_⟩, hw'⟩
  · by_cases e0 : k = 5
    · subst e0; rw [vz]; exact h16
    · rw [k16 k e0, vs k e0]; exact x0 k hk
  · simp only [vs 1 (by decide), ho 17 (by decide) (by decide) (by decide), vo 1 _ _ (by decide) (by decide)]; exact x1
  · simp only [vs 2 (by decide), ho 18 (by decide) (by decide) (by decide), ho 19 (by decide) (by decide) (by decide), vo 2 _ _ (by decide) (by decide), vo 3 _ _ (by decide) (by decide)]; exact x2
  · simp only [vs 3 (by decide), ho 20 (by decide) (by decide) (by decide), vo 4 _ _ (by decide) (by decide)]; exact x3
  · simp only [vs 4 (by decide), ho 21 (by decide) (by decide) (by decide), ho 22 (by decide) (by decide) (by decide), vo 5 _ _ (by decide) (by decide), vo 6 _ _ (by decide) (by decide)]; exact x4
  · simp only [vs 7 (by decide), ho 23 (by decide) (by decide) (by decide), ho 24 (by decide) (by decide) (by decide), ho 25 (by decide) (by decide) (by decide), vo 9 _ _ (by decide) (by decide), vo 10 _ _ (by decide) (by decide), vo 11 _ _ (by decide) (by decide)]; exact x5
  · simp only [ho 26 (by decide) (by decide) (by decide), vo 13 _ _ (by decide) (by decide)]; exact x6
  · simp only [vs 9 (by decide), ho 27 (by decide) (by decide) (by decide), ho 28 (by decide) (by decide) (by decide), vo 15 _ _ (by decide) (by decide), vo 16 _ _ (by decide) (by decide)]; exact x7
  · intro i j hi hj
    exact ⟨hf i j hi hj, by rw [ho 33 (by decide) (by decide) (by decide), vo 8 _ _ (by decide) (by decide)]; exact (x9 i j hi hj).2⟩
  · simp only [ho 35 (by decide) (by decide) (by decide), vo 12 _ _ (by decide) (by decide)]; exact x10
  · simp only [ho 37 (by decide) (by decide) (by decide), vo 13 _ _ (by decide) (by decide), vo 14 _ _ (by decide) (by decide)]; exact x11
def rd_path (T : Nat → Nat) (e : Nat) (s : pS) : lR := bnd (pKnown T e s.2.1 4 s.2.2) (fun x1 => bnd (pKnown T e s.2.1 4 (nx T e s.2.2)) (fun x2 => if x2 = x1 ∨ 0 < s.1 7 x1 x2 then .inl (3, tA T e (nx T e s.2.2)) else bnd (pChoice T e 8 (nx T e (nx T e s.2.2))) (fun _ => bnd (pWhole T e 1 40 (nx T e (nx T e (nx T e s.2.2)))) (fun x4 => .inr (setV (setV (setV s.1 7 x1 x2 x4) 7 x2 x1 x4) 0 5 0 (s.1 0 5 0 + 1), s.2.1, nx T e (nx T e (nx T e (nx T e s.2.2))))))))
set_option maxRecDepth 100000 in
set_option maxHeartbeats 4000000 in
theorem c_read_path {T : Nat → Nat} {e : Nat} (hE : e ≤ 1100) (hT : ∀ i, i < e → I 14 0 i = nI (T i)) (hT2 : ∀ i, T i < 256) {s : pS} (hP : PSt T e s I L) (hW : PW s) : Mt G vX6_readPath (d + 6) (0, 0) [.ref (ad 6 0)] (MM ad nb b r I L) (qR2 T e ad nb b r I L (rd_path T e s)) := by
  have hV := hW.1
  have v0 := hV.1
  have v1 := hV.2.1
  have v2 := hV.2.2.1
  have v3 := hV.2.2.2.1
  have v4 := hV.2.2.2.2.1
  have v7 := hV.2.2.2.2.2.2.2.1
  have v9 := hV.2.2.2.2.2.2.2.2.2.1
  have v10 := hV.2.2.2.2.2.2.2.2.2.2.1
  have m0 : MID T e [16, 31] I L s.2.1 s.2.2 I L := MID.st hP
  have hta := (tA_le (T := T) (nx_le (T := T) hP.1).2).2
  refine x_start (by decide) (Nat.le_of_ble_eq_true rfl) ?_
  refine x_aload_n dX6_readPath_0 rfl ?_
  refine x_iconst dX6_readPath_1 li_4 ?_
  refine x_cvi ((c_knownName (d := d) (so := 4) hE (m0.t hT (by decide)) hT2 m0.1 m0.2.1 m0.2.2.1 (by omega)).wk (fun _ _ h => h.un)) kX6_159 dX6_readPath_2 rfl (Nat.le_of_ble_eq_true rfl) rfl rfl (Nat.le_of_ble_eq_true rfl) (fun ru Mu hq => ?_)
  obtain ⟨rfl, I1, L1, rfl, p1, l1, e1, g1⟩ := hq
  refine x_if_ne 10 dX6_readPath_5 (by decide) (fun h5 => ?_) (fun h5 => ?_)
  · obtain ⟨x1, hx1⟩ := pR_r h5
    have m1 := m0.u (g1 x1 hx1)
    have hb1 := pKnown_lt (V := s.1) hx1 hW.2.2
    refine x_aload_n dX6_readPath_10 rfl ?_
    refine g_Teller_found fX6_137 dX6_readPath_11 ?_
    rw [(g1 x1 hx1).2.1]
    refine x_istore_n dX6_readPath_14 (by decide) rfl ?_
    refine x_aload_n dX6_readPath_15 rfl ?_
    refine x_iconst dX6_readPath_16 li_4 ?_
    refine x_cvi ((c_knownName (d := d) (so := 4) hE (m1.t hT (by decide)) hT2 m1.1 m1.2.1 m1.2.2.1 (by omega)).wk (fun _ _ h => h.un)) kX6_159 dX6_readPath_17 rfl (Nat.le_of_ble_eq_true rfl) rfl rfl (Nat.le_of_ble_eq_true rfl) (fun ru Mu hq => ?_)
    obtain ⟨rfl, I2, L2, rfl, p2, l2, e2, g2⟩ := hq
    refine x_if_ne 25 dX6_readPath_20 (by decide) (fun h20 => ?_) (fun h20 => ?_)
    · obtain ⟨x2, hx2⟩ := pR_r h20
      have m2 := m1.u (g2 x2 hx2)
      have hb2 := pKnown_lt (V := s.1) hx2 hW.2.2
      have j31 : I2 31 = I 31 := ((g2 x2 hx2).2.2.2.2.1 31 (by decide) (by decide)).trans ((g1 x1 hx1).2.2.2.2.1 31 (by decide) (by decide))
      have hbd := hV.2.2.2.2.2.2.2.2.2.2.2.2.2.2.2.2.1 x1 x2
      refine x_aload_n dX6_readPath_25 rfl ?_
      refine g_Teller_found fX6_137 dX6_readPath_26 ?_
      rw [(g2 x2 hx2).2.1]
      refine x_istore_n dX6_readPath_29 (by decide) rfl ?_
      refine x_iload_n dX6_readPath_30 rfl ?_
      refine x_iload_n dX6_readPath_31 rfl ?_
      refine x_icN_eq 49 dX6_readPath_32 (by decide) (by omega) (by omega) (fun h32 => ?_) (fun h32 => ?_)
      · refine x_aload_n dX6_readPath_49 rfl ?_
        refine x_iconst dX6_readPath_50 li_3 ?_
        refine x_aload_n dX6_readPath_51 rfl ?_
        refine g_Teller_foundAt fX6_183 dX6_readPath_52 ?_
        rw [(g2 x2 hx2).2.2.1]
        refine x_cvi (c_wrong (d := d + 5)) kX6_68 dX6_readPath_55 rfl (Nat.le_of_ble_eq_true rfl) rfl rfl (Nat.le_of_ble_eq_true rfl) (fun ru Mu hq => ?_)
        obtain ⟨rfl, rfl⟩ := hq
        refine x_zret dX6_readPath_58 rfl rfl ?_
        refine qR2_no (f := (3, tA T e (nx T e s.2.2))) ?_ ⟨by rw [xu_nk (by decide), xu_s], xu_s⟩ ((p1.tr p2).tr (fun a c hac => ?_)) (l1.tr l2)
        · unfold rd_path; simp only [bnd, hx1, hx2, if_pos (show x2 = x1 ∨ 0 < s.1 7 x1 x2 by omega)]
        · funext x; rw [xu_ns (by omega), xu_ns (by omega)]
      · refine x_aload_n dX6_readPath_35 rfl ?_
        refine g_Teller_draft fX6_12 dX6_readPath_36 ?_
        refine g_Border_hours fX6_180 dX6_readPath_39 (by first | exact Nat.le_of_ble_eq_true rfl | assumption | omega) ?_
        refine x_iload_n dX6_readPath_42 rfl ?_
        refine aa_Border_hours1 dX6_readPath_43 rfl (by first | exact Nat.le_of_ble_eq_true rfl | assumption | omega) ?_
        refine x_iload_n dX6_readPath_44 rfl ?_
        refine x_iald dX6_readPath_45 rfl rfl (Nat.lt_of_lt_of_le (show x1 + 6 < 12 by omega) (Nat.le_of_ble_eq_true rfl)) (by first | exact Nat.le_of_ble_eq_true rfl | assumption | omega) ?_
        have ecell : I2 31 (x1 + 6) x2 = nI (s.1 7 x1 x2) := by rw [j31]; exact (hP.2.2.1.2.2.2.2.2.2.2.2.2.1 x1 x2 (by omega) (by omega)).1
        rw [ecell]
        refine x_ifN_le 59 dX6_readPath_46 (by decide) (by omega) (fun h46 => ?_) (fun h46 => ?_)
        · have hno : ¬ (x2 = x1 ∨ 0 < s.1 7 x1 x2) := by omega
          refine x_aload_n dX6_readPath_59 rfl ?_
          refine x_ldcS (n := 8) dX6_readPath_60 rfl ?_
          refine x_cvi ((c_choice (d := d) (k := 8) hE (m2.t hT (by decide)) hT2 m2.1 m2.2.1 (by omega)).wk (fun _ _ h => h.un)) kX6_130 dX6_readPath_62 rfl (Nat.le_of_ble_eq_true rfl) rfl rfl (Nat.le_of_ble_eq_true rfl) (fun ru Mu hq => ?_)
          obtain ⟨rfl, I3, L3, rfl, p3, l3, e3, g3⟩ := hq
          refine x_if_eq 78 dX6_readPath_65 (by decide) (fun h65 => ?_) (fun h65 => ?_)
          · obtain ⟨f, hf⟩ := pR_l h65
            refine x_iconst dX6_readPath_78 li_0 ?_
            refine x_zret dX6_readPath_79 rfl rfl ?_
            first
              | (refine qR2_no (f := f) ?_ (e4 f hf) (m3.2.2.2.2.1.tr p4) (m3.2.2.2.2.2.1.tr l4); unfold rd_path; simp only [bnd, hx1, hx2, if_neg hno, hx3, hf])
              | (refine qR2_no (f := f) ?_ (e3 f hf) (m2.2.2.2.2.1.tr p3) (m2.2.2.2.2.2.1.tr l3); unfold rd_path; simp only [bnd, hx1, hx2, if_neg hno, hf])
          · obtain ⟨x3, hx3⟩ := pR_r h65
            have m3 := m2.u (g3 x3 hx3)
            refine x_aload_n dX6_readPath_68 rfl ?_
            refine x_iconst dX6_readPath_69 li_1 ?_
            refine x_bipush dX6_readPath_70 lb_40 ?_
            refine x_cvi ((c_whole (d := d + 3) (lo := 1) (hi := 40) hE (m3.t hT (by decide)) hT2 m3.1 m3.2.1 (by omega) (by omega)).wk (fun _ _ h => h.un)) kX6_134 dX6_readPath_72 rfl (Nat.le_of_ble_eq_true rfl) rfl rfl (Nat.le_of_ble_eq_true rfl) (fun ru Mu hq => ?_)
            obtain ⟨rfl, I4, L4, rfl, p4, l4, e4, g4⟩ := hq
            refine x_if_ne 80 dX6_readPath_75 (by decide) (fun h75 => ?_) (fun h75 => ?_)
            · obtain ⟨x4, hx4⟩ := pR_r h75
              have m4 := m3.u (g4 x4 hx4)
              have f16 : I4 16 = I 16 := ((g4 x4 hx4).2.2.2.2.1 16 (by decide) (by decide)).trans (((g3 x3 hx3).2.2.2.2.1 16 (by decide) (by decide)).trans (((g2 x2 hx2).2.2.2.2.1 16 (by decide) (by decide)).trans ((g1 x1 hx1).2.2.2.2.1 16 (by decide) (by decide))))
              have f31 : I4 31 = I 31 := ((g4 x4 hx4).2.2.2.2.1 31 (by decide) (by decide)).trans (((g3 x3 hx3).2.2.2.2.1 31 (by decide) (by decide)).trans j31)
              refine x_aload_n dX6_readPath_80 rfl ?_
              refine g_Teller_draft fX6_12 dX6_readPath_81 ?_
              refine g_Border_hours fX6_180 dX6_readPath_84 (by first | exact Nat.le_of_ble_eq_true rfl | assumption | omega) ?_
              refine x_iload_n dX6_readPath_87 rfl ?_
              refine aa_Border_hours1 dX6_readPath_88 rfl (by first | exact Nat.le_of_ble_eq_true rfl | assumption | omega) ?_
              refine x_iload_n dX6_readPath_89 rfl ?_
              refine x_aload_n dX6_readPath_90 rfl ?_
              refine g_Teller_found fX6_137 dX6_readPath_91 ?_
              rw [(g4 x4 hx4).2.1]
              refine x_iast dX6_readPath_94 rfl rfl (Nat.lt_of_lt_of_le (show x1 + 6 < 12 by omega) (Nat.le_of_ble_eq_true rfl)) (by first | exact Nat.le_of_ble_eq_true rfl | assumption | omega) ?_
              refine x_aload_n dX6_readPath_95 rfl ?_
              refine g_Teller_draft fX6_12 dX6_readPath_96 ?_
              refine g_Border_hours fX6_180 dX6_readPath_99 (by first | exact Nat.le_of_ble_eq_true rfl | assumption | omega) ?_
              refine x_iload_n dX6_readPath_102 rfl ?_
              refine aa_Border_hours1 dX6_readPath_103 rfl (by first | exact Nat.le_of_ble_eq_true rfl | assumption | omega) ?_
              refine x_iload_n dX6_readPath_104 rfl ?_
              refine x_aload_n dX6_readPath_105 rfl ?_
              refine g_Teller_found fX6_137 dX6_readPath_106 ?_
              rw [xu_ns (by decide), (g4 x4 hx4).2.1]
              refine x_iast dX6_readPath_109 rfl rfl (Nat.lt_of_lt_of_le (show x2 + 6 < 12 by omega) (Nat.le_of_ble_eq_true rfl)) (by first | exact Nat.le_of_ble_eq_true rfl | assumption | omega) ?_
              refine x_aload_n dX6_readPath_110 rfl ?_
              refine x_iconst dX6_readPath_111 li_5 ?_
              refine x_cvi (c_count' (d := d + 5) (so := 5) (n := s.1 0 5 0) (by rw [xu_ns (by decide), xu_ns (by decide), f16]; exact hP.2.2.1.1 5 (by omega)) (by omega)) kX6_149 dX6_readPath_112 rfl (Nat.le_of_ble_eq_true rfl) rfl rfl (Nat.le_of_ble_eq_true rfl) (fun ru Mu hq => ?_)
              obtain ⟨rfl, rfl⟩ := hq
              refine x_zret dX6_readPath_115 rfl rfl ?_
              have mz := ((m4.w2 (s := 31) (c := x1 + 6) (n := x2) (v := nI x4) (by decide) (by unfold db; omega)).w2 (s := 31) (c := x2 + 6) (n := x1) (v := nI x4) (by decide) (by unfold db; omega)).w (s := 16) (n := 5) (v := nI (s.1 0 5 0 + 1)) (by decide) (by decide) (by decide)
              have hb := XB.path (o := x1) (q := x2) (x := x4) (I' := xu (xu (xu I4 31 (x1 + 6) x2 (nI x4)) 31 (x2 + 6) x1 (nI x4)) 16 1 5 (nI (s.1 0 5 0 + 1))) hP.2.2.1 hP.2.2.2.1 xu_s (fun l hl => by rw [xu_nk hl, xu_ns (by decide), xu_ns (by decide), f16]) (by rw [xu_ns (by decide), xu_ni (by omega), xu_s]) (by rw [xu_ns (by decide), xu_s]) (fun c l h1 h2 => by rw [xu_ns (by decide), ← f31]; unfold xu; rw [if_neg (fun z => h2 z.2), if_neg (fun z => h1 z.2)]) (fun q h1 h2 h3 => mz.2.2.2.2.2.2 q (by omega) (by omega) (by omega) (by omega) (by simp; omega))
              refine qR2_ok (s := (setV (setV (setV s.1 7 x1 x2 x4) 7 x2 x1 x4) 0 5 0 (s.1 0 5 0 + 1), s.2.1, nx T e (nx T e (nx T e (nx T e s.2.2))))) ?_ ⟨mz.1, mz.2.1, hb.1, hb.2, mz.2.2.1⟩ mz.2.2.2.2.1 mz.2.2.2.2.2.1 mz.2.2.2.1.1 mz.2.2.2.1.2
              unfold rd_path
              simp only [bnd, hx1, hx2, if_neg hno, hx3, hx4]
            · obtain ⟨f, hf⟩ := pR_l h75
              refine x_iconst dX6_readPath_78 li_0 ?_
              refine x_zret dX6_readPath_79 rfl rfl ?_
              first
                | (refine qR2_no (f := f) ?_ (e4 f hf) (m3.2.2.2.2.1.tr p4) (m3.2.2.2.2.2.1.tr l4); unfold rd_path; simp only [bnd, hx1, hx2, if_neg hno, hx3, hf])
                | (refine qR2_no (f := f) ?_ (e3 f hf) (m2.2.2.2.2.1.tr p3) (m2.2.2.2.2.2.1.tr l3); unfold rd_path; simp only [bnd, hx1, hx2, if_neg hno, hf])
        · refine x_aload_n dX6_readPath_49 rfl ?_
          refine x_iconst dX6_readPath_50 li_3 ?_
          refine x_aload_n dX6_readPath_51 rfl ?_
          refine g_Teller_foundAt fX6_183 dX6_readPath_52 ?_
          rw [(g2 x2 hx2).2.2.1]
          refine x_cvi (c_wrong (d := d + 5)) kX6_68 dX6_readPath_55 rfl (Nat.le_of_ble_eq_true rfl) rfl rfl (Nat.le_of_ble_eq_true rfl) (fun ru Mu hq => ?_)
          obtain ⟨rfl, rfl⟩ := hq
          refine x_zret dX6_readPath_58 rfl rfl ?_
          refine qR2_no (f := (3, tA T e (nx T e s.2.2))) ?_ ⟨by rw [xu_nk (by decide), xu_s], xu_s⟩ ((p1.tr p2).tr (fun a c hac => ?_)) (l1.tr l2)
          · unfold rd_path; simp only [bnd, hx1, hx2, if_pos (show x2 = x1 ∨ 0 < s.1 7 x1 x2 by omega)]
          · funext x; rw [xu_ns (by omega), xu_ns (by omega)]
    · obtain ⟨f, hf⟩ := pR_l h20
      refine x_iconst dX6_readPath_23 li_0 ?_
      refine x_zret dX6_readPath_24 rfl rfl ?_
      refine qR2_no (f := f) ?_ (e2 f hf) (p1.tr p2) (l1.tr l2)
      unfold rd_path
      simp only [bnd, hx1, hf]
  · obtain ⟨f, hf⟩ := pR_l h5
    refine x_iconst dX6_readPath_8 li_0 ?_
    refine x_zret dX6_readPath_9 rfl rfl ?_
    refine qR2_no (f := f) ?_ (e1 f hf) p1 l1
    unfold rd_path
    simp only [bnd, hf]
end Tel11
