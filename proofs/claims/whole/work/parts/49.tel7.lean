section Tel7
variable {G : xG} {ad : Nat → Nat → Nat} {nb : Nat} {b r : Option Nat} {L : Nat → Nat → Nat → Int64} {V : sV} {I : Nat → Nat → Nat → Int32} {d : Nat}
def rd_smell (T : Nat → Nat) (e : Nat) (s : pS) : lR := bnd (pNew s.1 T e s.2.1 2 s.2.2) (fun x1 => bnd (pChoice T e 3 (nx T e s.2.2)) (fun x2 => bnd (pChoice T e 4 (nx T e (nx T e s.2.2))) (fun x3 => bnd (pKnown T e (s.2.1 ++ [(s.2.2, 2, x1)]) 1 (nx T e (nx T e (nx T e s.2.2)))) (fun x4 => .inr (addV s.1 2 (s.1 0 2 0) [(2, x2), (3, x4)], s.2.1 ++ [(s.2.2, 2, x1)], (nx T e (nx T e (nx T e (nx T e s.2.2)))))))))
set_option maxRecDepth 100000 in
set_option maxHeartbeats 4000000 in
theorem c_read_smell {T : Nat → Nat} {e : Nat} (hE : e ≤ 1100) (hT : ∀ i, i < e → I 14 0 i = nI (T i)) (hT2 : ∀ i, T i < 256) {s : pS} (hP : PSt T e s I L) (hW : PW s) (hr : s.1 0 2 0 < 6) : Mt G vX6_readSmell (d + 6) (0, 0) [.ref (ad 6 0)] (MM ad nb b r I L) (qR2 T e ad nb b r I L (rd_smell T e s)) := by
  have hV := hW.1
  have v0 := hV.1
  have v1 := hV.2.1
  have v2 := hV.2.2.1
  have v3 := hV.2.2.2.1
  have v4 := hV.2.2.2.2.1
  have v7 := hV.2.2.2.2.2.2.2.1
  have v9 := hV.2.2.2.2.2.2.2.2.2.1
  have v10 := hV.2.2.2.2.2.2.2.2.2.2.1
  have m0 : MID T e [16, 18, 19] I L s.2.1 s.2.2 I L := MID.st hP
  have hln := hW.2.1
  refine x_start (by decide) (Nat.le_of_ble_eq_true rfl) ?_
  refine x_aload_n dX6_readSmell_0 rfl ?_
  refine g_Teller_draft fX6_12 dX6_readSmell_1 ?_
  refine g_Border_sizes fX6_72 dX6_readSmell_4 (by first | exact Nat.le_of_ble_eq_true rfl | assumption | omega) ?_
  refine x_iconst dX6_readSmell_7 li_2 ?_
  refine x_iald dX6_readSmell_8 rfl rfl (Nat.lt_of_lt_of_le (by first | assumption | omega | decide) (Nat.le_refl 2)) (by first | exact Nat.le_of_ble_eq_true rfl | assumption | omega) ?_
  rw [hP.2.2.1.1 2 (by omega)]
  refine x_istore_n dX6_readSmell_9 (by decide) rfl ?_
  refine x_aload_n dX6_readSmell_10 rfl ?_
  refine x_iconst dX6_readSmell_11 li_2 ?_
  refine x_cvi ((c_newName (d := d) (V := s.1) (so := 2) hE hT hT2 hP.1 hP.2.1 hP.2.2.1 hP.2.2.2.2 (by omega) (by omega) (by omega)).wk (fun _ _ h => h.un)) kX6_140 dX6_readSmell_12 rfl (Nat.le_of_ble_eq_true rfl) rfl rfl (Nat.le_of_ble_eq_true rfl) (fun ru Mu hq => ?_)
  obtain ⟨rfl, I1, L1, rfl, p1, l1, e1, g1⟩ := hq
  refine x_if_eq 27 dX6_readSmell_15 (by decide) (fun h15 => ?_) (fun h15 => ?_)
  · obtain ⟨f, hf⟩ := pR_l h15
    refine x_iconst dX6_readSmell_27 li_0 ?_
    refine x_zret dX6_readSmell_28 rfl rfl ?_
    first
      | (refine qR2_no (f := f) ?_ (e2 f hf) (m1.2.2.2.2.1.tr p2) (m1.2.2.2.2.2.1.tr l2); unfold rd_smell; simp only [bnd, hx1, hf])
      | (refine qR2_no (f := f) ?_ (e1 f hf) (m0.2.2.2.2.1.tr p1) (m0.2.2.2.2.2.1.tr l1); unfold rd_smell; simp only [bnd, hf])
  · obtain ⟨x1, hx1⟩ := pR_r h15
    have m1 := m0.n p1 l1 (g1 x1 hx1)
    have fe16_1 : I1 16 = I 16 := ((g1 x1 hx1).2.2.2.2.2.2 16 (by decide) (by decide) (by decide) (by decide))
    have fe18_1 : I1 18 = I 18 := ((g1 x1 hx1).2.2.2.2.2.2 18 (by decide) (by decide) (by decide) (by decide))
    have fe19_1 : I1 19 = I 19 := ((g1 x1 hx1).2.2.2.2.2.2 19 (by decide) (by decide) (by decide) (by decide))
    refine x_aload_n dX6_readSmell_18 rfl ?_
    refine x_ldcS (n := 3) dX6_readSmell_19 rfl ?_
    refine x_cvi ((c_choice (d := d) (k := 3) hE (m1.t hT (by decide)) hT2 m1.1 m1.2.1 (by omega)).wk (fun _ _ h => h.un)) kX6_130 dX6_readSmell_21 rfl (Nat.le_of_ble_eq_true rfl) rfl rfl (Nat.le_of_ble_eq_true rfl) (fun ru Mu hq => ?_)
    obtain ⟨rfl, I2, L2, rfl, p2, l2, e2, g2⟩ := hq
    refine x_if_ne 29 dX6_readSmell_24 (by decide) (fun h24 => ?_) (fun h24 => ?_)
    · obtain ⟨x2, hx2⟩ := pR_r h24
      have m2 := m1.u (g2 x2 hx2)
      have fe16_2 : I2 16 = I 16 := ((g2 x2 hx2).2.2.2.2.1 16 (by decide) (by decide)).trans fe16_1
      have fe18_2 : I2 18 = I 18 := ((g2 x2 hx2).2.2.2.2.1 18 (by decide) (by decide)).trans fe18_1
      have fe19_2 : I2 19 = I 19 := ((g2 x2 hx2).2.2.2.2.1 19 (by decide) (by decide)).trans fe19_1
      refine x_aload_n dX6_readSmell_29 rfl ?_
      refine g_Teller_draft fX6_12 dX6_readSmell_30 ?_
      refine g_Border_smellKind fX6_154 dX6_readSmell_33 (by first | exact Nat.le_of_ble_eq_true rfl | assumption | omega) ?_
      refine x_iload_n dX6_readSmell_36 rfl ?_
      refine x_aload_n dX6_readSmell_37 rfl ?_
      refine g_Teller_found fX6_137 dX6_readSmell_38 ?_
      rw [(g2 x2 hx2).2.1]
      refine x_iast dX6_readSmell_41 rfl rfl (Nat.lt_of_lt_of_le (by first | assumption | omega | decide) (Nat.le_refl 2)) (by first | exact Nat.le_of_ble_eq_true rfl | assumption | omega) ?_
      have mw18 := m2.w (s := 18) (n := (s.1 0 2 0)) (v := nI x2) (by decide) (by decide) (by decide)
      have fe16_2_18 : (xu I2 18 1 (s.1 0 2 0) (nI x2)) 16 = I 16 := by rw [← fe16_2]; funext x y; exact xu_ns (by decide)
      have fw18_2 : (xu I2 18 1 (s.1 0 2 0) (nI x2)) 18 1 (s.1 0 2 0) = nI x2 ∧ ∀ l, l ≠ (s.1 0 2 0) → (xu I2 18 1 (s.1 0 2 0) (nI x2)) 18 1 l = I 18 1 l := ⟨xu_s, fun l hl => by rw [xu_nk hl, fe18_2]⟩
      have fe19_2_18 : (xu I2 18 1 (s.1 0 2 0) (nI x2)) 19 = I 19 := by rw [← fe19_2]; funext x y; exact xu_ns (by decide)
      refine x_aload_n dX6_readSmell_42 rfl ?_
      refine x_ldcS (n := 4) dX6_readSmell_43 rfl ?_
      refine x_cvi ((c_choice (d := d) (k := 4) hE (mw18.t hT (by decide)) hT2 mw18.1 mw18.2.1 (by omega)).wk (fun _ _ h => h.un)) kX6_130 dX6_readSmell_45 rfl (Nat.le_of_ble_eq_true rfl) rfl rfl (Nat.le_of_ble_eq_true rfl) (fun ru Mu hq => ?_)
      obtain ⟨rfl, I3, L3, rfl, p3, l3, e3, g3⟩ := hq
      refine x_if_eq 59 dX6_readSmell_48 (by decide) (fun h48 => ?_) (fun h48 => ?_)
      · obtain ⟨f, hf⟩ := pR_l h48
        refine x_iconst dX6_readSmell_59 li_0 ?_
        refine x_zret dX6_readSmell_60 rfl rfl ?_
        first
          | (refine qR2_no (f := f) ?_ (e4 f hf) (m3.2.2.2.2.1.tr p4) (m3.2.2.2.2.2.1.tr l4); unfold rd_smell; simp only [bnd, hx1, hx2, hx3, hf])
          | (refine qR2_no (f := f) ?_ (e3 f hf) (mw18.2.2.2.2.1.tr p3) (mw18.2.2.2.2.2.1.tr l3); unfold rd_smell; simp only [bnd, hx1, hx2, hf])
      · obtain ⟨x3, hx3⟩ := pR_r h48
        have m3 := mw18.u (g3 x3 hx3)
        have fe16_3 : I3 16 = I 16 := ((g3 x3 hx3).2.2.2.2.1 16 (by decide) (by decide)).trans fe16_2_18
        have fw18_s3 : I3 18 1 (s.1 0 2 0) = nI x2 ∧ ∀ l, l ≠ (s.1 0 2 0) → I3 18 1 l = I 18 1 l := by rw [((g3 x3 hx3).2.2.2.2.1 18 (by decide) (by decide))]; exact fw18_2
        have fe19_3 : I3 19 = I 19 := ((g3 x3 hx3).2.2.2.2.1 19 (by decide) (by decide)).trans fe19_2_18
        refine x_aload_n dX6_readSmell_51 rfl ?_
        refine x_iconst dX6_readSmell_52 li_1 ?_
        refine x_cvi ((c_knownName (d := d) (so := 1) hE (m3.t hT (by decide)) hT2 m3.1 m3.2.1 m3.2.2.1 (by omega)).wk (fun _ _ h => h.un)) kX6_159 dX6_readSmell_53 rfl (Nat.le_of_ble_eq_true rfl) rfl rfl (Nat.le_of_ble_eq_true rfl) (fun ru Mu hq => ?_)
        obtain ⟨rfl, I4, L4, rfl, p4, l4, e4, g4⟩ := hq
        refine x_if_ne 61 dX6_readSmell_56 (by decide) (fun h56 => ?_) (fun h56 => ?_)
        · obtain ⟨x4, hx4⟩ := pR_r h56
          have m4 := m3.u (g4 x4 hx4)
          have fe16_4 : I4 16 = I 16 := ((g4 x4 hx4).2.2.2.2.1 16 (by decide) (by decide)).trans fe16_3
          have fw18_s4 : I4 18 1 (s.1 0 2 0) = nI x2 ∧ ∀ l, l ≠ (s.1 0 2 0) → I4 18 1 l = I 18 1 l := by rw [((g4 x4 hx4).2.2.2.2.1 18 (by decide) (by decide))]; exact fw18_s3
          have fe19_4 : I4 19 = I 19 := ((g4 x4 hx4).2.2.2.2.1 19 (by decide) (by decide)).trans fe19_3
          refine x_aload_n dX6_readSmell_61 rfl ?_
          refine g_Teller_draft fX6_12 dX6_readSmell_62 ?_
          refine g_Border_smellLand fX6_162 dX6_readSmell_65 (by first | exact Nat.le_of_ble_eq_true rfl | assumption | omega) ?_
          refine x_iload_n dX6_readSmell_68 rfl ?_
          refine x_aload_n dX6_readSmell_69 rfl ?_
          refine g_Teller_found fX6_137 dX6_readSmell_70 ?_
          rw [(g4 x4 hx4).2.1]
          refine x_iast dX6_readSmell_73 rfl rfl (Nat.lt_of_lt_of_le (by first | assumption | omega | decide) (Nat.le_refl 2)) (by first | exact Nat.le_of_ble_eq_true rfl | assumption | omega) ?_
          have mw19 := m4.w (s := 19) (n := (s.1 0 2 0)) (v := nI x4) (by decide) (by decide) (by decide)
          have fe16_4_19 : (xu I4 19 1 (s.1 0 2 0) (nI x4)) 16 = I 16 := by rw [← fe16_4]; funext x y; exact xu_ns (by decide)
          have fw18_4_19 : (xu I4 19 1 (s.1 0 2 0) (nI x4)) 18 1 (s.1 0 2 0) = nI x2 ∧ ∀ l, l ≠ (s.1 0 2 0) → (xu I4 19 1 (s.1 0 2 0) (nI x4)) 18 1 l = I 18 1 l := by rw [show (xu I4 19 1 (s.1 0 2 0) (nI x4)) 18 = I4 18 by funext x y; exact xu_ns (by decide)]; exact fw18_s4
          have fw19_4 : (xu I4 19 1 (s.1 0 2 0) (nI x4)) 19 1 (s.1 0 2 0) = nI x4 ∧ ∀ l, l ≠ (s.1 0 2 0) → (xu I4 19 1 (s.1 0 2 0) (nI x4)) 19 1 l = I 19 1 l := ⟨xu_s, fun l hl => by rw [xu_nk hl, fe19_4]⟩
          refine x_aload_n dX6_readSmell_74 rfl ?_
          refine x_iconst dX6_readSmell_75 li_2 ?_
          refine x_cvi (c_count' (d := d + 5) (so := 2) (n := (s.1 0 2 0)) (by rw [fe16_4_19]; exact hP.2.2.1.1 2 (by omega)) (by omega)) kX6_149 dX6_readSmell_76 rfl (Nat.le_of_ble_eq_true rfl) rfl rfl (Nat.le_of_ble_eq_true rfl) (fun ru Mu hq => ?_)
          obtain ⟨rfl, rfl⟩ := hq
          refine x_zret dX6_readSmell_79 rfl rfl ?_
          have mz := mw19.w (s := 16) (n := 2) (v := nI ((s.1 0 2 0) + 1)) (by decide) (by decide) (by decide)
          have e16 : ∀ q, q ≠ 16 → (xu (xu I4 19 1 (s.1 0 2 0) (nI x4)) 16 1 2 (nI ((s.1 0 2 0) + 1))) q = (xu I4 19 1 (s.1 0 2 0) (nI x4)) q := fun q h => by funext x y; rw [xu_ns h]
          have hb := XB.smell (I' := (xu (xu I4 19 1 (s.1 0 2 0) (nI x4)) 16 1 2 (nI ((s.1 0 2 0) + 1)))) (y0 := x2) (y1 := x4) hP.2.2.1 hP.2.2.2.1 xu_s (fun l hl => by rw [xu_nk hl, fe16_4_19]) (by rw [e16 18 (by decide)]; exact fw18_4_19.1) (fun l hl => by rw [e16 18 (by decide)]; exact fw18_4_19.2 l hl) (by rw [e16 19 (by decide)]; exact fw19_4.1) (fun l hl => by rw [e16 19 (by decide)]; exact fw19_4.2 l hl) (fun q h1 h2 n18 n19 => mz.2.2.2.2.2.2 q (by omega) (by omega) (by omega) (by omega) (by simp; omega))
          refine qR2_ok (s := (addV s.1 2 (s.1 0 2 0) [(2, x2), (3, x4)], s.2.1 ++ [(s.2.2, 2, x1)], (nx T e (nx T e (nx T e (nx T e s.2.2)))))) ?_ ⟨mz.1, mz.2.1, hb.1, hb.2, mz.2.2.1⟩ mz.2.2.2.2.1 mz.2.2.2.2.2.1 mz.2.2.2.1.1 mz.2.2.2.1.2
          unfold rd_smell
          simp only [bnd, hx1, hx2, hx3, hx4]
        · obtain ⟨f, hf⟩ := pR_l h56
          refine x_iconst dX6_readSmell_59 li_0 ?_
          refine x_zret dX6_readSmell_60 rfl rfl ?_
          first
            | (refine qR2_no (f := f) ?_ (e4 f hf) (m3.2.2.2.2.1.tr p4) (m3.2.2.2.2.2.1.tr l4); unfold rd_smell; simp only [bnd, hx1, hx2, hx3, hf])
            | (refine qR2_no (f := f) ?_ (e3 f hf) (mw18.2.2.2.2.1.tr p3) (mw18.2.2.2.2.2.1.tr l3); unfold rd_smell; simp only [bnd, hx1, hx2, hf])
    · obtain ⟨f, hf⟩ := pR_l h24
      refine x_iconst dX6_readSmell_27 li_0 ?_
      refine x_zret dX6_readSmell_28 rfl rfl ?_
      first
        | (refine qR2_no (f := f) ?_ (e2 f hf) (m1.2.2.2.2.1.tr p2) (m1.2.2.2.2.2.1.tr l2); unfold rd_smell; simp only [bnd, hx1, hf])
        | (refine qR2_no (f := f) ?_ (e1 f hf) (m0.2.2.2.2.1.tr p1) (m0.2.2.2.2.2.1.tr l1); unfold rd_smell; simp only [bnd, hf])
def rd_trav (T : Nat → Nat) (e : Nat) (s : pS) : lR := bnd (pNew s.1 T e s.2.1 7 s.2.2) (fun x1 => bnd (pChoice T e 9 (nx T e s.2.2)) (fun x2 => bnd (pChoice T e 10 (nx T e (nx T e s.2.2))) (fun x3 => bnd (pKnown T e (s.2.1 ++ [(s.2.2, 7, x1)]) 1 (nx T e (nx T e (nx T e s.2.2)))) (fun x4 => bnd (pChoice T e 11 (nx T e (nx T e (nx T e (nx T e s.2.2))))) (fun x5 => bnd (pKnown T e (s.2.1 ++ [(s.2.2, 7, x1)]) 4 (nx T e (nx T e (nx T e (nx T e (nx T e s.2.2)))))) (fun x6 => .inr (addV s.1 7 (s.1 0 7 0) [(9, x2), (10, x4), (11, x6)], s.2.1 ++ [(s.2.2, 7, x1)], (nx T e (nx T e (nx T e (nx T e (nx T e (nx T e s.2.2)))))))))))))
set_option maxRecDepth 100000 in
set_option maxHeartbeats 4000000 in
theorem c_read_trav {T : Nat → Nat} {e : Nat} (hE : e ≤ 1100) (hT : ∀ i, i < e → I 14 0 i = nI (T i)) (hT2 : ∀ i, T i < 256) {s : pS} (hP : PSt T e s I L) (hW : PW s) (hr : s.1 0 7 0 < 4) : Mt G vX6_readTraveller (d + 6) (0, 0) [.ref (ad 6 0)] (MM ad nb b r I L) (qR2 T e ad nb b r I L (rd_trav T e s)) := by
  have hV := hW.1
  have v0 := hV.1
  have v1 := hV.2.1
  have v2 := hV.2.2.1
  have v3 := hV.2.2.2.1
  have v4 := hV.2.2.2.2.1
  have v7 := hV.2.2.2.2.2.2.2.1
  have v9 := hV.2.2.2.2.2.2.2.2.2.1
  have v10 := hV.2.2.2.2.2.2.2.2.2.2.1
  have m0 : MID T e [16, 23, 24, 25] I L s.2.1 s.2.2 I L := MID.st hP
  have hln := hW.2.1
  refine x_start (by decide) (Nat.le_of_ble_eq_true rfl) ?_
  refine x_aload_n dX6_readTraveller_0 rfl ?_
  refine g_Teller_draft fX6_12 dX6_readTraveller_1 ?_
  refine g_Border_sizes fX6_72 dX6_readTraveller_4 (by first | exact Nat.le_of_ble_eq_true rfl | assumption | omega) ?_
  refine x_bipush dX6_readTraveller_7 lb_7 ?_
  refine x_iald dX6_readTraveller_9 rfl rfl (Nat.lt_of_lt_of_le (by first | assumption | omega | decide) (Nat.le_refl 2)) (by first | exact Nat.le_of_ble_eq_true rfl | assumption | omega) ?_
  rw [hP.2.2.1.1 7 (by omega)]
  refine x_istore_n dX6_readTraveller_10 (by decide) rfl ?_
  refine x_aload_n dX6_readTraveller_11 rfl ?_
  refine x_bipush dX6_readTraveller_12 lb_7 ?_
  refine x_cvi ((c_newName (d := d) (V := s.1) (so := 7) hE hT hT2 hP.1 hP.2.1 hP.2.2.1 hP.2.2.2.2 (by omega) (by omega) (by omega)).wk (fun _ _ h => h.un)) kX6_140 dX6_readTraveller_14 rfl (Nat.le_of_ble_eq_true rfl) rfl rfl (Nat.le_of_ble_eq_true rfl) (fun ru Mu hq => ?_)
  obtain ⟨rfl, I1, L1, rfl, p1, l1, e1, g1⟩ := hq
  refine x_if_eq 29 dX6_readTraveller_17 (by decide) (fun h17 => ?_) (fun h17 => ?_)
  · obtain ⟨f, hf⟩ := pR_l h17
    refine x_iconst dX6_readTraveller_29 li_0 ?_
    refine x_zret dX6_readTraveller_30 rfl rfl ?_
    first
      | (refine qR2_no (f := f) ?_ (e2 f hf) (m1.2.2.2.2.1.tr p2) (m1.2.2.2.2.2.1.tr l2); unfold rd_trav; simp only [bnd, hx1, hf])
      | (refine qR2_no (f := f) ?_ (e1 f hf) (m0.2.2.2.2.1.tr p1) (m0.2.2.2.2.2.1.tr l1); unfold rd_trav; simp only [bnd, hf])
  · obtain ⟨x1, hx1⟩ := pR_r h17
    have m1 := m0.n p1 l1 (g1 x1 hx1)
    have fe16_1 : I1 16 = I 16 := ((g1 x1 hx1).2.2.2.2.2.2 16 (by decide) (by decide) (by decide) (by decide))
    have fe23_1 : I1 23 = I 23 := ((g1 x1 hx1).2.2.2.2.2.2 23 (by decide) (by decide) (by decide) (by decide))
    have fe24_1 : I1 24 = I 24 := ((g1 x1 hx1).2.2.2.2.2.2 24 (by decide) (by decide) (by decide) (by decide))
    have fe25_1 : I1 25 = I 25 := ((g1 x1 hx1).2.2.2.2.2.2 25 (by decide) (by decide) (by decide) (by decide))
    refine x_aload_n dX6_readTraveller_20 rfl ?_
    refine x_ldcS (n := 9) dX6_readTraveller_21 rfl ?_
    refine x_cvi ((c_choice (d := d) (k := 9) hE (m1.t hT (by decide)) hT2 m1.1 m1.2.1 (by omega)).wk (fun _ _ h => h.un)) kX6_130 dX6_readTraveller_23 rfl (Nat.le_of_ble_eq_true rfl) rfl rfl (Nat.le_of_ble_eq_true rfl) (fun ru Mu hq => ?_)
    obtain ⟨rfl, I2, L2, rfl, p2, l2, e2, g2⟩ := hq
    refine x_if_ne 31 dX6_readTraveller_26 (by decide) (fun h26 => ?_) (fun h26 => ?_)
    · obtain ⟨x2, hx2⟩ := pR_r h26
      have m2 := m1.u (g2 x2 hx2)
      have fe16_2 : I2 16 = I 16 := ((g2 x2 hx2).2.2.2.2.1 16 (by decide) (by decide)).trans fe16_1
      have fe23_2 : I2 23 = I 23 := ((g2 x2 hx2).2.2.2.2.1 23 (by decide) (by decide)).trans fe23_1
      have fe24_2 : I2 24 = I 24 := ((g2 x2 hx2).2.2.2.2.1 24 (by decide) (by decide)).trans fe24_1
      have fe25_2 : I2 25 = I 25 := ((g2 x2 hx2).2.2.2.2.1 25 (by decide) (by decide)).trans fe25_1
      refine x_aload_n dX6_readTraveller_31 rfl ?_
      refine g_Teller_draft fX6_12 dX6_readTraveller_32 ?_
      refine g_Border_sort fX6_189 dX6_readTraveller_35 (by first | exact Nat.le_of_ble_eq_true rfl | assumption | omega) ?_
      refine x_iload_n dX6_readTraveller_38 rfl ?_
      refine x_aload_n dX6_readTraveller_39 rfl ?_
      refine g_Teller_found fX6_137 dX6_readTraveller_40 ?_
      rw [(g2 x2 hx2).2.1]
      refine x_iast dX6_readTraveller_43 rfl rfl (Nat.lt_of_lt_of_le (by first | assumption | omega | decide) (Nat.le_refl 2)) (by first | exact Nat.le_of_ble_eq_true rfl | assumption | omega) ?_
      have mw23 := m2.w (s := 23) (n := (s.1 0 7 0)) (v := nI x2) (by decide) (by decide) (by decide)
      have fe16_2_23 : (xu I2 23 1 (s.1 0 7 0) (nI x2)) 16 = I 16 := by rw [← fe16_2]; funext x y; exact xu_ns (by decide)
      have fw23_2 : (xu I2 23 1 (s.1 0 7 0) (nI x2)) 23 1 (s.1 0 7 0) = nI x2 ∧ ∀ l, l ≠ (s.1 0 7 0) → (xu I2 23 1 (s.1 0 7 0) (nI x2)) 23 1 l = I 23 1 l := ⟨xu_s, fun l hl => by rw [xu_nk hl, fe23_2]⟩
      have fe24_2_23 : (xu I2 23 1 (s.1 0 7 0) (nI x2)) 24 = I 24 := by rw [← fe24_2]; funext x y; exact xu_ns (by decide)
      have fe25_2_23 : (xu I2 23 1 (s.1 0 7 0) (nI x2)) 25 = I 25 := by rw [← fe25_2]; funext x y; exact xu_ns (by decide)
      refine x_aload_n dX6_readTraveller_44 rfl ?_
      refine x_ldcS (n := 10) dX6_readTraveller_45 rfl ?_
      refine x_cvi ((c_choice (d := d) (k := 10) hE (mw23.t hT (by decide)) hT2 mw23.1 mw23.2.1 (by omega)).wk (fun _ _ h => h.un)) kX6_130 dX6_readTraveller_47 rfl (Nat.le_of_ble_eq_true rfl) rfl rfl (Nat.le_of_ble_eq_true rfl) (fun ru Mu hq => ?_)
      obtain ⟨rfl, I3, L3, rfl, p3, l3, e3, g3⟩ := hq
      refine x_if_eq 61 dX6_readTraveller_50 (by decide) (fun h50 => ?_) (fun h50 => ?_)
      · obtain ⟨f, hf⟩ := pR_l h50
        refine x_iconst dX6_readTraveller_61 li_0 ?_
        refine x_zret dX6_readTraveller_62 rfl rfl ?_
        first
          | (refine qR2_no (f := f) ?_ (e4 f hf) (m3.2.2.2.2.1.tr p4) (m3.2.2.2.2.2.1.tr l4); unfold rd_trav; simp only [bnd, hx1, hx2, hx3, hf])
          | (refine qR2_no (f := f) ?_ (e3 f hf) (mw23.2.2.2.2.1.tr p3) (mw23.2.2.2.2.2.1.tr l3); unfold rd_trav; simp only [bnd, hx1, hx2, hf])
      · obtain ⟨x3, hx3⟩ := pR_r h50
        have m3 := mw23.u (g3 x3 hx3)
        have fe16_3 : I3 16 = I 16 := ((g3 x3 hx3).2.2.2.2.1 16 (by decide) (by decide)).trans fe16_2_23
        have fw23_s3 : I3 23 1 (s.1 0 7 0) = nI x2 ∧ ∀ l, l ≠ (s.1 0 7 0) → I3 23 1 l = I 23 1 l := by rw [((g3 x3 hx3).2.2.2.2.1 23 (by decide) (by decide))]; exact fw23_2
        have fe24_3 : I3 24 = I 24 := ((g3 x3 hx3).2.2.2.2.1 24 (by decide) (by decide)).trans fe24_2_23
        have fe25_3 : I3 25 = I 25 := ((g3 x3 hx3).2.2.2.2.1 25 (by decide) (by decide)).trans fe25_2_23
        refine x_aload_n dX6_readTraveller_53 rfl ?_
        refine x_iconst dX6_readTraveller_54 li_1 ?_
        refine x_cvi ((c_knownName (d := d) (so := 1) hE (m3.t hT (by decide)) hT2 m3.1 m3.2.1 m3.2.2.1 (by omega)).wk (fun _ _ h => h.un)) kX6_159 dX6_readTraveller_55 rfl (Nat.le_of_ble_eq_true rfl) rfl rfl (Nat.le_of_ble_eq_true rfl) (fun ru Mu hq => ?_)
        obtain ⟨rfl, I4, L4, rfl, p4, l4, e4, g4⟩ := hq
        refine x_if_ne 63 dX6_readTraveller_58 (by decide) (fun h58 => ?_) (fun h58 => ?_)
        · obtain ⟨x4, hx4⟩ := pR_r h58
          have m4 := m3.u (g4 x4 hx4)
          have fe16_4 : I4 16 = I 16 := ((g4 x4 hx4).2.2.2.2.1 16 (by decide) (by decide)).trans fe16_3
          have fw23_s4 : I4 23 1 (s.1 0 7 0) = nI x2 ∧ ∀ l, l ≠ (s.1 0 7 0) → I4 23 1 l = I 23 1 l := by rw [((g4 x4 hx4).2.2.2.2.1 23 (by decide) (by decide))]; exact fw23_s3
          have fe24_4 : I4 24 = I 24 := ((g4 x4 hx4).2.2.2.2.1 24 (by decide) (by decide)).trans fe24_3
          have fe25_4 : I4 25 = I 25 := ((g4 x4 hx4).2.2.2.2.1 25 (by decide) (by decide)).trans fe25_3
          refine x_aload_n dX6_readTraveller_63 rfl ?_
          refine g_Teller_draft fX6_12 dX6_readTraveller_64 ?_
          refine g_Border_home fX6_194 dX6_readTraveller_67 (by first | exact Nat.le_of_ble_eq_true rfl | assumption | omega) ?_
          refine x_iload_n dX6_readTraveller_70 rfl ?_
          refine x_aload_n dX6_readTraveller_71 rfl ?_
          refine g_Teller_found fX6_137 dX6_readTraveller_72 ?_
          rw [(g4 x4 hx4).2.1]
          refine x_iast dX6_readTraveller_75 rfl rfl (Nat.lt_of_lt_of_le (by first | assumption | omega | decide) (Nat.le_refl 2)) (by first | exact Nat.le_of_ble_eq_true rfl | assumption | omega) ?_
          have mw24 := m4.w (s := 24) (n := (s.1 0 7 0)) (v := nI x4) (by decide) (by decide) (by decide)
          have fe16_4_24 : (xu I4 24 1 (s.1 0 7 0) (nI x4)) 16 = I 16 := by rw [← fe16_4]; funext x y; exact xu_ns (by decide)
          have fw23_4_24 : (xu I4 24 1 (s.1 0 7 0) (nI x4)) 23 1 (s.1 0 7 0) = nI x2 ∧ ∀ l, l ≠ (s.1 0 7 0) → (xu I4 24 1 (s.1 0 7 0) (nI x4)) 23 1 l = I 23 1 l := by rw [show (xu I4 24 1 (s.1 0 7 0) (nI x4)) 23 = I4 23 by funext x y; exact xu_ns (by decide)]; exact fw23_s4
          have fw24_4 : (xu I4 24 1 (s.1 0 7 0) (nI x4)) 24 1 (s.1 0 7 0) = nI x4 ∧ ∀ l, l ≠ (s.1 0 7 0) → (xu I4 24 1 (s.1 0 7 0) (nI x4)) 24 1 l = I 24 1 l := ⟨xu_s, fun l hl => by rw [xu_nk hl, fe24_4]⟩
          have fe25_4_24 : (xu I4 24 1 (s.1 0 7 0) (nI x4)) 25 = I 25 := by rw [← fe25_4]; funext x y; exact xu_ns (by decide)
          refine x_aload_n dX6_readTraveller_76 rfl ?_
          refine x_ldcS (n := 11) dX6_readTraveller_77 rfl ?_
          refine x_cvi ((c_choice (d := d) (k := 11) hE (mw24.t hT (by decide)) hT2 mw24.1 mw24.2.1 (by omega)).wk (fun _ _ h => h.un)) kX6_130 dX6_readTraveller_79 rfl (Nat.le_of_ble_eq_true rfl) rfl rfl (Nat.le_of_ble_eq_true rfl) (fun ru Mu hq => ?_)
          obtain ⟨rfl, I5, L5, rfl, p5, l5, e5, g5⟩ := hq
          refine x_if_eq 93 dX6_readTraveller_82 (by decide) (fun h82 => ?_) (fun h82 => ?_)
          · obtain ⟨f, hf⟩ := pR_l h82
            refine x_iconst dX6_readTraveller_93 li_0 ?_
            refine x_zret dX6_readTraveller_94 rfl rfl ?_
            first
              | (refine qR2_no (f := f) ?_ (e6 f hf) (m5.2.2.2.2.1.tr p6) (m5.2.2.2.2.2.1.tr l6); unfold rd_trav; simp only [bnd, hx1, hx2, hx3, hx4, hx5, hf])
              | (refine qR2_no (f := f) ?_ (e5 f hf) (mw24.2.2.2.2.1.tr p5) (mw24.2.2.2.2.2.1.tr l5); unfold rd_trav; simp only [bnd, hx1, hx2, hx3, hx4, hf])
          · obtain ⟨x5, hx5⟩ := pR_r h82
            have m5 := mw24.u (g5 x5 hx5)
            have fe16_5 : I5 16 = I 16 := ((g5 x5 hx5).2.2.2.2.1 16 (by decide) (by decide)).trans fe16_4_24
            have fw23_s5 : I5 23 1 (s.1 0 7 0) = nI x2 ∧ ∀ l, l ≠ (s.1 0 7 0) → I5 23 1 l = I 23 1 l := by rw [((g5 x5 hx5).2.2.2.2.1 23 (by decide) (by decide))]; exact fw23_4_24
            have fw24_s5 : I5 24 1 (s.1 0 7 0) = nI x4 ∧ ∀ l, l ≠ (s.1 0 7 0) → I5 24 1 l = I 24 1 l := by rw [((g5 x5 hx5).2.2.2.2.1 24 (by decide) (by decide))]; exact fw24_4
            have fe25_5 : I5 25 = I 25 := ((g5 x5 hx5).2.2.2.2.1 25 (by decide) (by decide)).trans fe25_4_24
            refine x_aload_n dX6_readTraveller_85 rfl ?_
            refine x_iconst dX6_readTraveller_86 li_4 ?_
            refine x_cvi ((c_knownName (d := d) (so := 4) hE (m5.t hT (by decide)) hT2 m5.1 m5.2.1 m5.2.2.1 (by omega)).wk (fun _ _ h => h.un)) kX6_159 dX6_readTraveller_87 rfl (Nat.le_of_ble_eq_true rfl) rfl rfl (Nat.le_of_ble_eq_true rfl) (fun ru Mu hq => ?_)
            obtain ⟨rfl, I6, L6, rfl, p6, l6, e6, g6⟩ := hq
            refine x_if_ne 95 dX6_readTraveller_90 (by decide) (fun h90 => ?_) (fun h90 => ?_)
            · obtain ⟨x6, hx6⟩ := pR_r h90
              have m6 := m5.u (g6 x6 hx6)
              have fe16_6 : I6 16 = I 16 := ((g6 x6 hx6).2.2.2.2.1 16 (by decide) (by decide)).trans fe16_5
              have fw23_s6 : I6 23 1 (s.1 0 7 0) = nI x2 ∧ ∀ l, l ≠ (s.1 0 7 0) → I6 23 1 l = I 23 1 l := by rw [((g6 x6 hx6).2.2.2.2.1 23 (by decide) (by decide))]; exact fw23_s5
              have fw24_s6 : I6 24 1 (s.1 0 7 0) = nI x4 ∧ ∀ l, l ≠ (s.1 0 7 0) → I6 24 1 l = I 24 1 l := by rw [((g6 x6 hx6).2.2.2.2.1 24 (by decide) (by decide))]; exact fw24_s5
              have fe25_6 : I6 25 = I 25 := ((g6 x6 hx6).2.2.2.2.1 25 (by decide) (by decide)).trans fe25_5
              refine x_aload_n dX6_readTraveller_95 rfl ?_
              refine g_Teller_draft fX6_12 dX6_readTraveller_96 ?_
              refine g_Border_start fX6_197 dX6_readTraveller_99 (by first | exact Nat.le_of_ble_eq_true rfl | assumption | omega) ?_
              refine x_iload_n dX6_readTraveller_102 rfl ?_
              refine x_aload_n dX6_readTraveller_103 rfl ?_
              refine g_Teller_found fX6_137 dX6_readTraveller_104 ?_
              rw [(g6 x6 hx6).2.1]
              refine x_iast dX6_readTraveller_107 rfl rfl (Nat.lt_of_lt_of_le (by first | assumption | omega | decide) (Nat.le_refl 2)) (by first | exact Nat.le_of_ble_eq_true rfl | assumption | omega) ?_
              have mw25 := m6.w (s := 25) (n := (s.1 0 7 0)) (v := nI x6) (by decide) (by decide) (by decide)
              have fe16_6_25 : (xu I6 25 1 (s.1 0 7 0) (nI x6)) 16 = I 16 := by rw [← fe16_6]; funext x y; exact xu_ns (by decide)
              have fw23_6_25 : (xu I6 25 1 (s.1 0 7 0) (nI x6)) 23 1 (s.1 0 7 0) = nI x2 ∧ ∀ l, l ≠ (s.1 0 7 0) → (xu I6 25 1 (s.1 0 7 0) (nI x6)) 23 1 l = I 23 1 l := by rw [show (xu I6 25 1 (s.1 0 7 0) (nI x6)) 23 = I6 23 by funext x y; exact xu_ns (by decide)]; exact fw23_s6
              have fw24_6_25 : (xu I6 25 1 (s.1 0 7 0) (nI x6)) 24 1 (s.1 0 7 0) = nI x4 ∧ ∀ l, l ≠ (s.1 0 7 0) → (xu I6 25 1 (s.1 0 7 0) (nI x6)) 24 1 l = I 24 1 l := by rw [show (xu I6 25 1 (s.1 0 7 0) (nI x6)) 24 = I6 24 by funext x y; exact xu_ns (by decide)]; exact fw24_s6
              have fw25_6 : (xu I6 25 1 (s.1 0 7 0) (nI x6)) 25 1 (s.1 0 7 0) = nI x6 ∧ ∀ l, l ≠ (s.1 0 7 0) → (xu I6 25 1 (s.1 0 7 0) (nI x6)) 25 1 l = I 25 1 l := ⟨xu_s, fun l hl => by rw [xu_nk hl, fe25_6]⟩
              refine x_aload_n dX6_readTraveller_108 rfl ?_
              refine x_bipush dX6_readTraveller_109 lb_7 ?_
              refine x_cvi (c_count' (d := d + 5) (so := 7) (n := (s.1 0 7 0)) (by rw [fe16_6_25]; exact hP.2.2.1.1 7 (by omega)) (by omega)) kX6_149 dX6_readTraveller_111 rfl (Nat.le_of_ble_eq_true rfl) rfl rfl (Nat.le_of_ble_eq_true rfl) (fun ru Mu hq => ?_)
              obtain ⟨rfl, rfl⟩ := hq
              refine x_zret dX6_readTraveller_114 rfl rfl ?_
              have mz := mw25.w (s := 16) (n := 7) (v := nI ((s.1 0 7 0) + 1)) (by decide) (by decide) (by decide)
              have e16 : ∀ q, q ≠ 16 → (xu (xu I6 25 1 (s.1 0 7 0) (nI x6)) 16 1 7 (nI ((s.1 0 7 0) + 1))) q = (xu I6 25 1 (s.1 0 7 0) (nI x6)) q := fun q h => by funext x y; rw [xu_ns h]
              have hb := XB.trav (I' := (xu (xu I6 25 1 (s.1 0 7 0) (nI x6)) 16 1 7 (nI ((s.1 0 7 0) + 1)))) (y0 := x2) (y1 := x4) (y2 := x6) hP.2.2.1 hP.2.2.2.1 xu_s (fun l hl => by rw [xu_nk hl, fe16_6_25]) (by rw [e16 23 (by decide)]; exact fw23_6_25.1) (fun l hl => by rw [e16 23 (by decide)]; exact fw23_6_25.2 l hl) (by rw [e16 24 (by decide)]; exact fw24_6_25.1) (fun l hl => by rw [e16 24 (by decide)]; exact fw24_6_25.2 l hl) (by rw [e16 25 (by decide)]; exact fw25_6.1) (fun l hl => by rw [e16 25 (by decide)]; exact fw25_6.2 l hl) (fun q h1 h2 n23 n24 n25 => mz.2.2.2.2.2.2 q (by omega) (by omega) (by omega) (by omega) (by simp; omega))
              refine qR2_ok (s := (addV s.1 7 (s.1 0 7 0) [(9, x2), (10, x4), (11, x6)], s.2.1 ++ [(s.2.2, 7, x1)], (nx T e (nx T e (nx T e (nx T e (nx T e (nx T e s.2.2)))))))) ?_ ⟨mz.1, mz.2.1, hb.1, hb.2, mz.2.2.1⟩ mz.2.2.2.2.1 mz.2.2.2.2.2.1 mz.2.2.2.1.1 mz.2.2.2.1.2
              unfold rd_trav
              simp only [bnd, hx1, hx2, hx3, hx4, hx5, hx6]
            · obtain ⟨f, hf⟩ := pR_l h90
              refine x_iconst dX6_readTraveller_93 li_0 ?_
              refine x_zret dX6_readTraveller_94 rfl rfl ?_
              first
                | (refine qR2_no (f := f) ?_ (e6 f hf) (m5.2.2.2.2.1.tr p6) (m5.2.2.2.2.2.1.tr l6); unfold rd_trav; simp only [bnd, hx1, hx2, hx3, hx4, hx5, hf])
                | (refine qR2_no (f := f) ?_ (e5 f hf) (mw24.2.2.2.2.1.tr p5) (mw24.2.2.2.2.2.1.tr l5); unfold rd_trav; simp only [bnd, hx1, hx2, hx3, hx4, hf])
        · obtain ⟨f, hf⟩ := pR_l h58
          refine x_iconst dX6_readTraveller_61 li_0 ?_
          refine x_zret dX6_readTraveller_62 rfl rfl ?_
          first
            | (refine qR2_no (f := f) ?_ (e4 f hf) (m3.2.2.2.2.1.tr p4) (m3.2.2.2.2.2.1.tr l4); unfold rd_trav; simp only [bnd, hx1, hx2, hx3, hf])
            | (refine qR2_no (f := f) ?_ (e3 f hf) (mw23.2.2.2.2.1.tr p3) (mw23.2.2.2.2.2.1.tr l3); unfold rd_trav; simp only [bnd, hx1, hx2, hf])
    · obtain ⟨f, hf⟩ := pR_l h26
      refine x_iconst dX6_readTraveller_29 li_0 ?_
      refine x_zret dX6_readTraveller_30 rfl rfl ?_
      first
        | (refine qR2_no (f := f) ?_ (e2 f hf) (m1.2.2.2.2.1.tr p2) (m1.2.2.2.2.2.1.tr l2); unfold rd_trav; simp only [bnd, hx1, hf])
        | (refine qR2_no (f := f) ?_ (e1 f hf) (m0.2.2.2.2.1.tr p1) (m0.2.2.2.2.2.1.tr l1); unfold rd_trav; simp only [bnd, hf])
def rd_asked (T : Nat → Nat) (e : Nat) (s : pS) : lR := bnd (pKnown T e s.2.1 7 s.2.2) (fun x1 => bnd (pWhole T e 0 99 (nx T e s.2.2)) (fun x2 => .inr (addV s.1 9 (s.1 0 9 0) [(15, x1), (16, x2)], s.2.1, (nx T e (nx T e s.2.2)))))
set_option maxRecDepth 100000 in
set_option maxHeartbeats 4000000 in
theorem c_read_asked {T : Nat → Nat} {e : Nat} (hE : e ≤ 1100) (hT : ∀ i, i < e → I 14 0 i = nI (T i)) (hT2 : ∀ i, T i < 256) {s : pS} (hP : PSt T e s I L) (hW : PW s) (hr : s.1 0 9 0 < 4) : Mt G vX6_readAsked (d + 6) (0, 0) [.ref (ad 6 0)] (MM ad nb b r I L) (qR2 T e ad nb b r I L (rd_asked T e s)) := by
  have hV := hW.1
  have v0 := hV.1
  have v1 := hV.2.1
  have v2 := hV.2.2.1
  have v3 := hV.2.2.2.1
  have v4 := hV.2.2.2.2.1
  have v7 := hV.2.2.2.2.2.2.2.1
  have v9 := hV.2.2.2.2.2.2.2.2.2.1
  have v10 := hV.2.2.2.2.2.2.2.2.2.2.1
  have m0 : MID T e [16, 27, 28] I L s.2.1 s.2.2 I L := MID.st hP
  have hln := hW.2.1
  refine x_start (by decide) (Nat.le_of_ble_eq_true rfl) ?_
  refine x_aload_n dX6_readAsked_0 rfl ?_
  refine g_Teller_draft fX6_12 dX6_readAsked_1 ?_
  refine g_Border_sizes fX6_72 dX6_readAsked_4 (by first | exact Nat.le_of_ble_eq_true rfl | assumption | omega) ?_
  refine x_bipush dX6_readAsked_7 lb_9 ?_
  refine x_iald dX6_readAsked_9 rfl rfl (Nat.lt_of_lt_of_le (by first | assumption | omega | decide) (Nat.le_refl 2)) (by first | exact Nat.le_of_ble_eq_true rfl | assumption | omega) ?_
  rw [hP.2.2.1.1 9 (by omega)]
  refine x_istore_n dX6_readAsked_10 (by decide) rfl ?_
  refine x_aload_n dX6_readAsked_11 rfl ?_
  refine x_bipush dX6_readAsked_12 lb_7 ?_
  refine x_cvi ((c_knownName (d := d) (so := 7) hE (m0.t hT (by decide)) hT2 m0.1 m0.2.1 m0.2.2.1 (by omega)).wk (fun _ _ h => h.un)) kX6_159 dX6_readAsked_14 rfl (Nat.le_of_ble_eq_true rfl) rfl rfl (Nat.le_of_ble_eq_true rfl) (fun ru Mu hq => ?_)
  obtain ⟨rfl, I1, L1, rfl, p1, l1, e1, g1⟩ := hq
  refine x_if_ne 22 dX6_readAsked_17 (by decide) (fun h17 => ?_) (fun h17 => ?_)
  · obtain ⟨x1, hx1⟩ := pR_r h17
    have m1 := m0.u (g1 x1 hx1)
    have fe16_1 : I1 16 = I 16 := ((g1 x1 hx1).2.2.2.2.1 16 (by decide) (by decide))
    have fe27_1 : I1 27 = I 27 := ((g1 x1 hx1).2.2.2.2.1 27 (by decide) (by decide))
    have fe28_1 : I1 28 = I 28 := ((g1 x1 hx1).2.2.2.2.1 28 (by decide) (by decide))
    refine x_aload_n dX6_readAsked_22 rfl ?_
    refine g_Teller_draft fX6_12 dX6_readAsked_23 ?_
    refine g_Border_askedOf fX6_206 dX6_readAsked_26 (by first | exact Nat.le_of_ble_eq_true rfl | assumption | omega) ?_
    refine x_iload_n dX6_readAsked_29 rfl ?_
    refine x_aload_n dX6_readAsked_30 rfl ?_
    refine g_Teller_found fX6_137 dX6_readAsked_31 ?_
    rw [(g1 x1 hx1).2.1]
    refine x_iast dX6_readAsked_34 rfl rfl (Nat.lt_of_lt_of_le (by first | assumption | omega | decide) (Nat.le_refl 2)) (by first | exact Nat.le_of_ble_eq_true rfl | assumption | omega) ?_
    have mw27 := m1.w (s := 27) (n := (s.1 0 9 0)) (v := nI x1) (by decide) (by decide) (by decide)
    have fe16_1_27 : (xu I1 27 1 (s.1 0 9 0) (nI x1)) 16 = I 16 := by rw [← fe16_1]; funext x y; exact xu_ns (by decide)
    have fw27_1 : (xu I1 27 1 (s.1 0 9 0) (nI x1)) 27 1 (s.1 0 9 0) = nI x1 ∧ ∀ l, l ≠ (s.1 0 9 0) → (xu I1 27 1 (s.1 0 9 0) (nI x1)) 27 1 l = I 27 1 l := ⟨xu_s, fun l hl => by rw [xu_nk hl, fe27_1]⟩
    have fe28_1_27 : (xu I1 27 1 (s.1 0 9 0) (nI x1)) 28 = I 28 := by rw [← fe28_1]; funext x y; exact xu_ns (by decide)
    refine x_aload_n dX6_readAsked_35 rfl ?_
    refine x_iconst dX6_readAsked_36 li_0 ?_
    refine x_bipush dX6_readAsked_37 lb_99 ?_
    refine x_cvi ((c_whole (d := d + 3) (lo := 0) (hi := 99) hE (mw27.t hT (by decide)) hT2 mw27.1 mw27.2.1 (by omega) (by omega)).wk (fun _ _ h => h.un)) kX6_134 dX6_readAsked_39 rfl (Nat.le_of_ble_eq_true rfl) rfl rfl (Nat.le_of_ble_eq_true rfl) (fun ru Mu hq => ?_)
    obtain ⟨rfl, I2, L2, rfl, p2, l2, e2, g2⟩ := hq
    refine x_if_ne 47 dX6_readAsked_42 (by decide) (fun h42 => ?_) (fun h42 => ?_)
    · obtain ⟨x2, hx2⟩ := pR_r h42
      have m2 := mw27.u (g2 x2 hx2)
      have fe16_2 : I2 16 = I 16 := ((g2 x2 hx2).2.2.2.2.1 16 (by decide) (by decide)).trans fe16_1_27
      have fw27_s2 : I2 27 1 (s.1 0 9 0) = nI x1 ∧ ∀ l, l ≠ (s.1 0 9 0) → I2 27 1 l = I 27 1 l := by rw [((g2 x2 hx2).2.2.2.2.1 27 (by decide) (by decide))]; exact fw27_1
      have fe28_2 : I2 28 = I 28 := ((g2 x2 hx2).2.2.2.2.1 28 (by decide) (by decide)).trans fe28_1_27
      refine x_aload_n dX6_readAsked_47 rfl ?_
      refine g_Teller_draft fX6_12 dX6_readAsked_48 ?_
      refine g_Border_askedWhole fX6_209 dX6_readAsked_51 (by first | exact Nat.le_of_ble_eq_true rfl | assumption | omega) ?_
      refine x_iload_n dX6_readAsked_54 rfl ?_
      refine x_aload_n dX6_readAsked_55 rfl ?_
      refine g_Teller_found fX6_137 dX6_readAsked_56 ?_
      rw [(g2 x2 hx2).2.1]
      refine x_iast dX6_readAsked_59 rfl rfl (Nat.lt_of_lt_of_le (by first | assumption | omega | decide) (Nat.le_refl 2)) (by first | exact Nat.le_of_ble_eq_true rfl | assumption | omega) ?_
      have mw28 := m2.w (s := 28) (n := (s.1 0 9 0)) (v := nI x2) (by decide) (by decide) (by decide)
      have fe16_2_28 : (xu I2 28 1 (s.1 0 9 0) (nI x2)) 16 = I 16 := by rw [← fe16_2]; funext x y; exact xu_ns (by decide)
      have fw27_2_28 : (xu I2 28 1 (s.1 0 9 0) (nI x2)) 27 1 (s.1 0 9 0) = nI x1 ∧ ∀ l, l ≠ (s.1 0 9 0) → (xu I2 28 1 (s.1 0 9 0) (nI x2)) 27 1 l = I 27 1 l := by rw [show (xu I2 28 1 (s.1 0 9 0) (nI x2)) 27 = I2 27 by funext x y; exact xu_ns (by decide)]; exact fw27_s2
      have fw28_2 : (xu I2 28 1 (s.1 0 9 0) (nI x2)) 28 1 (s.1 0 9 0) = nI x2 ∧ ∀ l, l ≠ (s.1 0 9 0) → (xu I2 28 1 (s.1 0 9 0) (nI x2)) 28 1 l = I 28 1 l := ⟨xu_s, fun l hl => by rw [xu_nk hl, fe28_2]⟩
      refine x_aload_n dX6_readAsked_60 rfl ?_
      refine x_bipush dX6_readAsked_61 lb_9 ?_
      refine x_cvi (c_count' (d := d + 5) (so := 9) (n := (s.1 0 9 0)) (by rw [fe16_2_28]; exact hP.2.2.1.1 9 (by omega)) (by omega)) kX6_149 dX6_readAsked_63 rfl (Nat.le_of_ble_eq_true rfl) rfl rfl (Nat.le_of_ble_eq_true rfl) (fun ru Mu hq => ?_)
      obtain ⟨rfl, rfl⟩ := hq
      refine x_zret dX6_readAsked_66 rfl rfl ?_
      have mz := mw28.w (s := 16) (n := 9) (v := nI ((s.1 0 9 0) + 1)) (by decide) (by decide) (by decide)
      have e16 : ∀ q, q ≠ 16 → (xu (xu I2 28 1 (s.1 0 9 0) (nI x2)) 16 1 9 (nI ((s.1 0 9 0) + 1))) q = (xu I2 28 1 (s.1 0 9 0) (nI x2)) q := fun q h => by funext x y; rw [xu_ns h]
      have hb := XB.ask (I' := (xu (xu I2 28 1 (s.1 0 9 0) (nI x2)) 16 1 9 (nI ((s.1 0 9 0) + 1)))) (y0 := x1) (y1 := x2) hP.2.2.1 hP.2.2.2.1 xu_s (fun l hl => by rw [xu_nk hl, fe16_2_28]) (by rw [e16 27 (by decide)]; exact fw27_2_28.1) (fun l hl => by rw [e16 27 (by decide)]; exact fw27_2_28.2 l hl) (by rw [e16 28 (by decide)]; exact fw28_2.1) (fun l hl => by rw [e16 28 (by decide)]; exact fw28_2.2 l hl) (fun q h1 h2 n27 n28 => mz.2.2.2.2.2.2 q (by omega) (by omega) (by omega) (by omega) (by simp; omega))
      refine qR2_ok (s := (addV s.1 9 (s.1 0 9 0) [(15, x1), (16, x2)], s.2.1, (nx T e (nx T e s.2.2)))) ?_ ⟨mz.1, mz.2.1, hb.1, hb.2, mz.2.2.1⟩ mz.2.2.2.2.1 mz.2.2.2.2.2.1 mz.2.2.2.1.1 mz.2.2.2.1.2
      unfold rd_asked
      simp only [bnd, hx1, hx2]
    · obtain ⟨f, hf⟩ := pR_l h42
      refine x_iconst dX6_readAsked_45 li_0 ?_
      refine x_zret dX6_readAsked_46 rfl rfl ?_
      first
        | (refine qR2_no (f := f) ?_ (e2 f hf) (mw27.2.2.2.2.1.tr p2) (mw27.2.2.2.2.2.1.tr l2); unfold rd_asked; simp only [bnd, hx1, hf])
  · obtain ⟨f, hf⟩ := pR_l h17
    refine x_iconst dX6_readAsked_20 li_0 ?_
    refine x_zret dX6_readAsked_21 rfl rfl ?_
    first
      | (refine qR2_no (f := f) ?_ (e1 f hf) (m0.2.2.2.2.1.tr p1) (m0.2.2.2.2.2.1.tr l1); unfold rd_asked; simp only [bnd, hf])
end Tel7
