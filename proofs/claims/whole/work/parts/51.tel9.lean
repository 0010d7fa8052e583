section Tel9
variable {G : xG} {ad : Nat → Nat → Nat} {nb : Nat} {b r : Option Nat} {L : Nat → Nat → Nat → Int64} {V : sV} {I : Nat → Nat → Nat → Int32} {d : Nat}

theorem MID.x {T : Nat → Nat} {e a : Nat} {S : List Nat} {nm : List (Nat × Nat × Nat)} {I1 I2 : Nat → Nat → Nat → Int32} {L1 L2 : Nat → Nat → Nat → Int64} (h : MID T e S I L nm a I1 L1) (k1 : TK T e (nx T e a) I2 L2) (k2 : F7 I1 I2) (k3 : F7 L1 L2) : MID T e S I L nm (nx T e a) I2 L2 := by
  obtain ⟨h1, h2, h3, h4, h5, h6, h7⟩ := h
  exact ⟨(nx_le h1).2, k1, h3.sm (by rw [k2 6 (by decide)]) (k2 39 (by decide)) (k2 40 (by decide)) (k3 38 (by decide)), ⟨by rw [k2 6 (by decide)]; exact h4.1, by rw [k2 6 (by decide)]; exact h4.2⟩, h5.tr (fun q c hq => by rw [k2 q (by omega)]), h6.tr k3.fl, fun q q6 q7 q39 q40 qs => (k2 q q7).trans (h7 q q6 q7 q39 q40 qs)⟩
def rd_place (T : Nat → Nat) (e : Nat) (s : pS) : lR := bnd (pNew s.1 T e s.2.1 4 s.2.2) (fun x1 => bnd (pChoice T e 6 (nx T e s.2.2)) (fun _ => bnd (pKnown T e (s.2.1 ++ [(s.2.2, 4, x1)]) 1 (nx T e (nx T e s.2.2))) (fun x3 => if kd T e (nx T e (nx T e (nx T e s.2.2))) = 1 ∧ wiN 7 (vl T e (nx T e (nx T e (nx T e s.2.2)))) ≠ 0 then bnd (pKnown T e (s.2.1 ++ [(s.2.2, 4, x1)]) 3 (nx T e (nx T e (nx T e (nx T e s.2.2))))) (fun x4 => .inr (addV s.1 4 (s.1 0 4 0) [(5, x3), (6, x4 + 1)], s.2.1 ++ [(s.2.2, 4, x1)], (nx T e (nx T e (nx T e (nx T e (nx T e s.2.2))))))) else .inr (addV s.1 4 (s.1 0 4 0) [(5, x3), (6, 0)], s.2.1 ++ [(s.2.2, 4, x1)], (nx T e (nx T e (nx T e s.2.2)))))))

set_option maxRecDepth 100000 in
set_option maxHeartbeats 4000000 in
theorem c_read_place {T : Nat → Nat} {e : Nat} (hE : e ≤ 1100) (hT : ∀ i, i < e → I 14 0 i = nI (T i)) (hT2 : ∀ i, T i < 256) {s : pS} (hP : PSt T e s I L) (hW : PW s) (hr : s.1 0 4 0 < 6) : Mt G vX6_readPlace (d + 6) (0, 0) [.ref (ad 6 0)] (MM ad nb b r I L) (qR2 T e ad nb b r I L (rd_place T e s)) := by
  have hV := hW.1
  have v0 := hV.1
  have v1 := hV.2.1
  have v2 := hV.2.2.1
  have v3 := hV.2.2.2.1
  have v4 := hV.2.2.2.2.1
  have v7 := hV.2.2.2.2.2.2.2.1
  have v9 := hV.2.2.2.2.2.2.2.2.2.1
  have v10 := hV.2.2.2.2.2.2.2.2.2.2.1
  have m0 : MID T e [16, 21, 22] I L s.2.1 s.2.2 I L := MID.st hP
  have hln := hW.2.1
  have hkd := kd_le (T := T) (e := e) (a := (nx T e (nx T e (nx T e s.2.2))))
  obtain ⟨w1, w2⟩ := wiN_eq (k := 7) (v := vl T e (nx T e (nx T e (nx T e s.2.2)))) (by omega)
  refine x_start (by decide) (Nat.le_of_ble_eq_true rfl) ?_
  refine x_aload_n dX6_readPlace_0 rfl ?_
  refine g_Teller_draft fX6_12 dX6_readPlace_1 ?_
  refine g_Border_sizes fX6_72 dX6_readPlace_4 (by first | exact Nat.le_of_ble_eq_true rfl | assumption | omega) ?_
  refine x_iconst dX6_readPlace_7 li_4 ?_
  refine x_iald dX6_readPlace_8 rfl rfl (Nat.lt_of_lt_of_le (by first | assumption | omega | decide) (Nat.le_refl 2)) (by first | exact Nat.le_of_ble_eq_true rfl | assumption | omega) ?_
  rw [hP.2.2.1.1 4 (by omega)]
  refine x_istore_n dX6_readPlace_9 (by decide) rfl ?_
  refine x_aload_n dX6_readPlace_10 rfl ?_
  refine x_iconst dX6_readPlace_11 li_4 ?_
  refine x_cvi ((c_newName (d := d) (V := s.1) (so := 4) hE hT hT2 hP.1 hP.2.1 hP.2.2.1 hP.2.2.2.2 (by omega) (by omega) (by omega)).wk (fun _ _ h => h.un)) kX6_140 dX6_readPlace_12 rfl (Nat.le_of_ble_eq_true rfl) rfl rfl (Nat.le_of_ble_eq_true rfl) (fun ru Mu hq => ?_)
  obtain ⟨rfl, I1, L1, rfl, p1, l1, e1, g1⟩ := hq
  refine x_if_eq 35 dX6_readPlace_15 (by decide) (fun h15 => ?_) (fun h15 => ?_)
  · obtain ⟨f, hf⟩ := pR_l h15
    refine x_iconst dX6_readPlace_35 li_0 ?_
    refine x_zret dX6_readPlace_36 rfl rfl ?_
    first
      | (refine qR2_no (f := f) ?_ (e3 f hf) (m2.2.2.2.2.1.tr p3) (m2.2.2.2.2.2.1.tr l3); unfold rd_place; simp only [bnd, hx1, hx2, hf])
      | (refine qR2_no (f := f) ?_ (e2 f hf) (m1.2.2.2.2.1.tr p2) (m1.2.2.2.2.2.1.tr l2); unfold rd_place; simp only [bnd, hx1, hf])
      | (refine qR2_no (f := f) ?_ (e1 f hf) p1 l1; unfold rd_place; simp only [bnd, hf])
  · obtain ⟨x1, hx1⟩ := pR_r h15
    have m1 := m0.n p1 l1 (g1 x1 hx1)
    refine x_aload_n dX6_readPlace_18 rfl ?_
    refine x_ldcS (n := 6) dX6_readPlace_19 rfl ?_
    refine x_cvi ((c_choice (d := d) (k := 6) hE (m1.t hT (by decide)) hT2 m1.1 m1.2.1 (by omega)).wk (fun _ _ h => h.un)) kX6_130 dX6_readPlace_21 rfl (Nat.le_of_ble_eq_true rfl) rfl rfl (Nat.le_of_ble_eq_true rfl) (fun ru Mu hq => ?_)
    obtain ⟨rfl, I2, L2, rfl, p2, l2, e2, g2⟩ := hq
    refine x_if_eq 35 dX6_readPlace_24 (by decide) (fun h24 => ?_) (fun h24 => ?_)
    · obtain ⟨f, hf⟩ := pR_l h24
      refine x_iconst dX6_readPlace_35 li_0 ?_
      refine x_zret dX6_readPlace_36 rfl rfl ?_
      first
        | (refine qR2_no (f := f) ?_ (e3 f hf) (m2.2.2.2.2.1.tr p3) (m2.2.2.2.2.2.1.tr l3); unfold rd_place; simp only [bnd, hx1, hx2, hf])
        | (refine qR2_no (f := f) ?_ (e2 f hf) (m1.2.2.2.2.1.tr p2) (m1.2.2.2.2.2.1.tr l2); unfold rd_place; simp only [bnd, hx1, hf])
        | (refine qR2_no (f := f) ?_ (e1 f hf) p1 l1; unfold rd_place; simp only [bnd, hf])
    · obtain ⟨x2, hx2⟩ := pR_r h24
      have m2 := m1.u (g2 x2 hx2)
      refine x_aload_n dX6_readPlace_27 rfl ?_
      refine x_iconst dX6_readPlace_28 li_1 ?_
      refine x_cvi ((c_knownName (d := d) (so := 1) hE (m2.t hT (by decide)) hT2 m2.1 m2.2.1 m2.2.2.1 (by omega)).wk (fun _ _ h => h.un)) kX6_159 dX6_readPlace_29 rfl (Nat.le_of_ble_eq_true rfl) rfl rfl (Nat.le_of_ble_eq_true rfl) (fun ru Mu hq => ?_)
      obtain ⟨rfl, I3, L3, rfl, p3, l3, e3, g3⟩ := hq
      refine x_if_ne 37 dX6_readPlace_32 (by decide) (fun h32 => ?_) (fun h32 => ?_)
      · obtain ⟨x3, hx3⟩ := pR_r h32
        have m3 := m2.u (g3 x3 hx3)
        have f16 : I3 16 = I 16 := ((g3 x3 hx3).2.2.2.2.1 16 (by decide) (by decide)).trans (((g2 x2 hx2).2.2.2.2.1 16 (by decide) (by decide)).trans ((g1 x1 hx1).2.2.2.2.2.2 16 (by decide) (by decide) (by decide) (by decide)))
        have f21 : I3 21 = I 21 := ((g3 x3 hx3).2.2.2.2.1 21 (by decide) (by decide)).trans (((g2 x2 hx2).2.2.2.2.1 21 (by decide) (by decide)).trans ((g1 x1 hx1).2.2.2.2.2.2 21 (by decide) (by decide) (by decide) (by decide)))
        have f22 : I3 22 = I 22 := ((g3 x3 hx3).2.2.2.2.1 22 (by decide) (by decide)).trans (((g2 x2 hx2).2.2.2.2.1 22 (by decide) (by decide)).trans ((g1 x1 hx1).2.2.2.2.2.2 22 (by decide) (by decide) (by decide) (by decide)))
        refine x_aload_n dX6_readPlace_37 rfl ?_
        refine g_Teller_draft fX6_12 dX6_readPlace_38 ?_
        refine g_Border_placeLand fX6_172 dX6_readPlace_41 (by first | exact Nat.le_of_ble_eq_true rfl | assumption | omega) ?_
        refine x_iload_n dX6_readPlace_44 rfl ?_
        refine x_aload_n dX6_readPlace_45 rfl ?_
        refine g_Teller_found fX6_137 dX6_readPlace_46 ?_
        rw [(g3 x3 hx3).2.1]
        refine x_iast dX6_readPlace_49 rfl rfl (Nat.lt_of_lt_of_le (by first | assumption | omega | decide) (Nat.le_refl 2)) (by first | exact Nat.le_of_ble_eq_true rfl | assumption | omega) ?_
        refine x_aload_n dX6_readPlace_50 rfl ?_
        refine g_Teller_draft fX6_12 dX6_readPlace_51 ?_
        refine g_Border_placeNose fX6_175 dX6_readPlace_54 (by first | exact Nat.le_of_ble_eq_true rfl | assumption | omega) ?_
        refine x_iload_n dX6_readPlace_57 rfl ?_
        refine x_bipush dX6_readPlace_58 lb_m2 ?_
        refine x_iast dX6_readPlace_60 rfl rfl (Nat.lt_of_lt_of_le (by first | assumption | omega | decide) (Nat.le_refl 2)) (by first | exact Nat.le_of_ble_eq_true rfl | assumption | omega) ?_
        have mw2 := (m3.w (s := 21) (n := (s.1 0 4 0)) (v := nI x3) (by decide) (by decide) (by decide)).w (s := 22) (n := (s.1 0 4 0)) (v := -2) (by decide) (by decide) (by decide)
        refine x_aload_n dX6_readPlace_61 rfl ?_
        refine g_Teller_tokens fX6_34 dX6_readPlace_62 ?_
        refine x_ldcS (n := 7) dX6_readPlace_65 rfl ?_
        refine x_cvi (c_wordIn (d := d + 1) (i := 7) (by omega) (kn := kd T e (nx T e (nx T e (nx T e s.2.2)))) (v := vl T e (nx T e (nx T e (nx T e s.2.2)))) mw2.2.1.2.2.2.1 hkd mw2.2.1.2.2.2.2) kX6_77 dX6_readPlace_67 rfl (Nat.le_of_ble_eq_true rfl) rfl rfl (Nat.le_of_ble_eq_true rfl) (fun ru Mu hq => ?_)
        obtain ⟨rfl, rfl⟩ := hq
        refine x_iconst dX6_readPlace_70 li_m1 ?_
        refine x_ic_eq 104 dX6_readPlace_71 (by decide) (fun h71 => ?_) (fun h71 => ?_)
        · have hno : ¬ (kd T e (nx T e (nx T e (nx T e s.2.2))) = 1 ∧ wiN 7 (vl T e (nx T e (nx T e (nx T e s.2.2)))) ≠ 0) := by
            intro z
            rw [if_pos z.1, w1, nO_pos z.2] at h71
            exact nI_ne_m1 (by omega) h71
          have c16 : ∀ l, (xu (xu I3 21 1 (s.1 0 4 0) (nI x3)) 22 1 (s.1 0 4 0) (-2)) 16 1 l = I 16 1 l := fun l => by rw [xu_ns (by decide), xu_ns (by decide), f16]
          have a21 : (xu (xu I3 21 1 (s.1 0 4 0) (nI x3)) 22 1 (s.1 0 4 0) (-2)) 21 1 (s.1 0 4 0) = nI x3 := by rw [xu_ns (by decide), xu_s]
          have b21 : ∀ l, l ≠ (s.1 0 4 0) → (xu (xu I3 21 1 (s.1 0 4 0) (nI x3)) 22 1 (s.1 0 4 0) (-2)) 21 1 l = I 21 1 l := fun l hl => by rw [xu_ns (by decide), xu_nk hl, f21]
          have a22 : (xu (xu I3 21 1 (s.1 0 4 0) (nI x3)) 22 1 (s.1 0 4 0) (-2)) 22 1 (s.1 0 4 0) = nO (-2) 0 := xu_s
          have b22 : ∀ l, l ≠ (s.1 0 4 0) → (xu (xu I3 21 1 (s.1 0 4 0) (nI x3)) 22 1 (s.1 0 4 0) (-2)) 22 1 l = I 22 1 l := fun l hl => by rw [xu_nk hl, xu_ns (by decide), f22]
          refine x_aload_n dX6_readPlace_104 rfl ?_
          refine x_iconst dX6_readPlace_105 li_4 ?_
          refine x_cvi (c_count' (d := d + 5) (so := 4) (n := (s.1 0 4 0)) ((c16 4).trans (hP.2.2.1.1 4 (by omega))) (by omega)) kX6_149 dX6_readPlace_106 rfl (Nat.le_of_ble_eq_true rfl) rfl rfl (Nat.le_of_ble_eq_true rfl) (fun ru Mu hq => ?_)
          obtain ⟨rfl, rfl⟩ := hq
          refine x_zret dX6_readPlace_109 rfl rfl ?_
          by_cases hsel : kd T e (nx T e (nx T e (nx T e s.2.2))) = 1 ∧ wiN 7 (vl T e (nx T e (nx T e (nx T e s.2.2)))) ≠ 0
          · first
              | (exact absurd hsel hno)
              | (have mz := mw3.w (s := 16) (n := 4) (v := nI ((s.1 0 4 0) + 1)) (by decide) (by decide) (by decide)
                 have e16 : ∀ q, q ≠ 16 → (xu (xu I5 22 1 (s.1 0 4 0) (nI x4)) 16 1 4 (nI ((s.1 0 4 0) + 1))) q = (xu I5 22 1 (s.1 0 4 0) (nI x4)) q := fun q h => by funext x y; rw [xu_ns h]
                 have hb := XB.place (I' := (xu (xu I5 22 1 (s.1 0 4 0) (nI x4)) 16 1 4 (nI ((s.1 0 4 0) + 1)))) (y0 := x3) (y1 := x4 + 1) hP.2.2.1 hP.2.2.2.1 xu_s (fun l hl => by rw [xu_nk hl]; exact c16 l) (by rw [e16 21 (by decide)]; exact a21) (fun l hl => by rw [e16 21 (by decide)]; exact b21 l hl) (by rw [e16 22 (by decide)]; exact a22) (fun l hl => by rw [e16 22 (by decide)]; exact b22 l hl) (fun q h1 h2 n1 n2 => mz.2.2.2.2.2.2 q (by omega) (by omega) (by omega) (by omega) (by simp; omega))
                 refine qR2_ok (s := (addV s.1 4 (s.1 0 4 0) [(5, x3), (6, x4 + 1)], s.2.1 ++ [(s.2.2, 4, x1)], (nx T e (nx T e (nx T e (nx T e (nx T e s.2.2))))))) ?_ ⟨mz.1, mz.2.1, hb.1, hb.2, mz.2.2.1⟩ mz.2.2.2.2.1 mz.2.2.2.2.2.1 mz.2.2.2.1.1 mz.2.2.2.1.2
                 unfold rd_place
                 simp only [bnd, hx1, hx2, hx3, if_pos hyes, hx4])
          · first
              | (exact absurd hyes hsel)
              | (have mz := mw2.w (s := 16) (n := 4) (v := nI ((s.1 0 4 0) + 1)) (by decide) (by decide) (by decide)
                 have e16 : ∀ q, q ≠ 16 → (xu (xu (xu I3 21 1 (s.1 0 4 0) (nI x3)) 22 1 (s.1 0 4 0) (-2)) 16 1 4 (nI ((s.1 0 4 0) + 1))) q = (xu (xu I3 21 1 (s.1 0 4 0) (nI x3)) 22 1 (s.1 0 4 0) (-2)) q := fun q h => by funext x y; rw [xu_ns h]
                 have hb := XB.place (I' := (xu (xu (xu I3 21 1 (s.1 0 4 0) (nI x3)) 22 1 (s.1 0 4 0) (-2)) 16 1 4 (nI ((s.1 0 4 0) + 1)))) (y0 := x3) (y1 := 0) hP.2.2.1 hP.2.2.2.1 xu_s (fun l hl => by rw [xu_nk hl]; exact c16 l) (by rw [e16 21 (by decide)]; exact a21) (fun l hl => by rw [e16 21 (by decide)]; exact b21 l hl) (by rw [e16 22 (by decide)]; exact a22) (fun l hl => by rw [e16 22 (by decide)]; exact b22 l hl) (fun q h1 h2 n1 n2 => mz.2.2.2.2.2.2 q (by omega) (by omega) (by omega) (by omega) (by simp; omega))
                 refine qR2_ok (s := (addV s.1 4 (s.1 0 4 0) [(5, x3), (6, 0)], s.2.1 ++ [(s.2.2, 4, x1)], (nx T e (nx T e (nx T e s.2.2))))) ?_ ⟨mz.1, mz.2.1, hb.1, hb.2, mz.2.2.1⟩ mz.2.2.2.2.1 mz.2.2.2.2.2.1 mz.2.2.2.1.1 mz.2.2.2.1.2
                 unfold rd_place
                 simp only [bnd, hx1, hx2, hx3, if_neg hno])
        · have hyes : kd T e (nx T e (nx T e (nx T e s.2.2))) = 1 ∧ wiN 7 (vl T e (nx T e (nx T e (nx T e s.2.2)))) ≠ 0 := by
            refine Classical.byContradiction fun q => h71 ?_
            by_cases q1 : kd T e (nx T e (nx T e (nx T e s.2.2))) = 1
            · rw [if_pos q1, w1, show wiN 7 (vl T e (nx T e (nx T e (nx T e s.2.2)))) = 0 from Classical.byContradiction fun q2 => q ⟨q1, q2⟩]; rfl
            · rw [if_neg q1]
          refine x_aload_n dX6_readPlace_74 rfl ?_
          refine g_Teller_tokens fX6_34 dX6_readPlace_75 ?_
          refine x_cvv (c_next (d := d + 5) (a := (nx T e (nx T e (nx T e (nx T e s.2.2))))) hE (mw2.t hT (by decide)) hT2 (nx_le mw2.1).2 mw2.2.1.1 mw2.2.1.2.2.1) kX6_62 dX6_readPlace_78 rfl (Nat.le_of_ble_eq_true rfl) rfl rfl (Nat.le_of_ble_eq_true rfl) (fun Mu hq => ?_)
          obtain ⟨I4, L4, rfl, q1, q2, q3⟩ := hq
          have m4 := mw2.x q1 q2 q3
          refine x_aload_n dX6_readPlace_81 rfl ?_
          refine x_iconst dX6_readPlace_82 li_3 ?_
          refine x_cvi ((c_knownName (d := d) (so := 3) hE (m4.t hT (by decide)) hT2 m4.1 m4.2.1 m4.2.2.1 (by omega)).wk (fun _ _ h => h.un)) kX6_159 dX6_readPlace_83 rfl (Nat.le_of_ble_eq_true rfl) rfl rfl (Nat.le_of_ble_eq_true rfl) (fun ru Mu hq => ?_)
          obtain ⟨rfl, I5, L5, rfl, p5, l5, e5, g5⟩ := hq
          refine x_if_ne 91 dX6_readPlace_86 (by decide) (fun h86 => ?_) (fun h86 => ?_)
          · obtain ⟨x4, hx4⟩ := pR_r h86
            have m5 := m4.u (g5 x4 hx4)
            have i16 : I5 16 = (xu (xu I3 21 1 (s.1 0 4 0) (nI x3)) 22 1 (s.1 0 4 0) (-2)) 16 := ((g5 x4 hx4).2.2.2.2.1 16 (by decide) (by decide)).trans (q2 16 (by decide))
            have i21 : I5 21 = (xu (xu I3 21 1 (s.1 0 4 0) (nI x3)) 22 1 (s.1 0 4 0) (-2)) 21 := ((g5 x4 hx4).2.2.2.2.1 21 (by decide) (by decide)).trans (q2 21 (by decide))
            have i22 : I5 22 = (xu (xu I3 21 1 (s.1 0 4 0) (nI x3)) 22 1 (s.1 0 4 0) (-2)) 22 := ((g5 x4 hx4).2.2.2.2.1 22 (by decide) (by decide)).trans (q2 22 (by decide))
            refine x_aload_n dX6_readPlace_91 rfl ?_
            refine g_Teller_draft fX6_12 dX6_readPlace_92 ?_
            refine g_Border_placeNose fX6_175 dX6_readPlace_95 (by first | exact Nat.le_of_ble_eq_true rfl | assumption | omega) ?_
            refine x_iload_n dX6_readPlace_98 rfl ?_
            refine x_aload_n dX6_readPlace_99 rfl ?_
            refine g_Teller_found fX6_137 dX6_readPlace_100 ?_
            rw [(g5 x4 hx4).2.1]
            have mw3 := m5.w (s := 22) (n := (s.1 0 4 0)) (v := nI x4) (by decide) (by decide) (by decide)
            have c16 : ∀ l, (xu I5 22 1 (s.1 0 4 0) (nI x4)) 16 1 l = I 16 1 l := fun l => by rw [xu_ns (by decide), i16, xu_ns (by decide), xu_ns (by decide), f16]
            have a21 : (xu I5 22 1 (s.1 0 4 0) (nI x4)) 21 1 (s.1 0 4 0) = nI x3 := by rw [xu_ns (by decide), i21, xu_ns (by decide), xu_s]
            have b21 : ∀ l, l ≠ (s.1 0 4 0) → (xu I5 22 1 (s.1 0 4 0) (nI x4)) 21 1 l = I 21 1 l := fun l hl => by rw [xu_ns (by decide), i21, xu_ns (by decide), xu_nk hl, f21]
            have a22 : (xu I5 22 1 (s.1 0 4 0) (nI x4)) 22 1 (s.1 0 4 0) = nO (-2) (x4 + 1) := by rw [xu_s, nO_pos (by omega), Nat.add_sub_cancel]
            have b22 : ∀ l, l ≠ (s.1 0 4 0) → (xu I5 22 1 (s.1 0 4 0) (nI x4)) 22 1 l = I 22 1 l := fun l hl => by rw [xu_nk hl, i22, xu_nk hl, xu_ns (by decide), f22]
            refine x_iast dX6_readPlace_103 rfl rfl (Nat.lt_of_lt_of_le (by first | assumption | omega | decide) (Nat.le_refl 2)) (by first | exact Nat.le_of_ble_eq_true rfl | assumption | omega) ?_
            refine x_aload_n dX6_readPlace_104 rfl ?_
            refine x_iconst dX6_readPlace_105 li_4 ?_
            refine x_cvi (c_count' (d := d + 5) (so := 4) (n := (s.1 0 4 0)) ((c16 4).trans (hP.2.2.1.1 4 (by omega))) (by omega)) kX6_149 dX6_readPlace_106 rfl (Nat.le_of_ble_eq_true rfl) rfl rfl (Nat.le_of_ble_eq_true rfl) (fun ru Mu hq => ?_)
            obtain ⟨rfl, rfl⟩ := hq
            refine x_zret dX6_readPlace_109 rfl rfl ?_
            by_cases hsel : kd T e (nx T e (nx T e (nx T e s.2.2))) = 1 ∧ wiN 7 (vl T e (nx T e (nx T e (nx T e s.2.2)))) ≠ 0
            · first
                | (exact absurd hsel hno)
                | (have mz := mw3.w (s := 16) (n := 4) (v := nI ((s.1 0 4 0) + 1)) (by decide) (by decide) (by decide)
                   have e16 : ∀ q, q ≠ 16 → (xu (xu I5 22 1 (s.1 0 4 0) (nI x4)) 16 1 4 (nI ((s.1 0 4 0) + 1))) q = (xu I5 22 1 (s.1 0 4 0) (nI x4)) q := fun q h => by funext x y; rw [xu_ns h]
                   have hb := XB.place (I' := (xu (xu I5 22 1 (s.1 0 4 0) (nI x4)) 16 1 4 (nI ((s.1 0 4 0) + 1)))) (y0 := x3) (y1 := x4 + 1) hP.2.2.1 hP.2.2.2.1 xu_s (fun l hl => by rw [xu_nk hl]; exact c16 l) (by rw [e16 21 (by decide)]; exact a21) (fun l hl => by rw [e16 21 (by decide)]; exact b21 l hl) (by rw [e16 22 (by decide)]; exact a22) (fun l hl => by rw [e16 22 (by decide)]; exact b22 l hl) (fun q h1 h2 n1 n2 => mz.2.2.2.2.2.2 q (by omega) (by omega) (by omega) (by omega) (by simp; omega))
                   refine qR2_ok (s := (addV s.1 4 (s.1 0 4 0) [(5, x3), (6, x4 + 1)], s.2.1 ++ [(s.2.2, 4, x1)], (nx T e (nx T e (nx T e (nx T e (nx T e s.2.2))))))) ?_ ⟨mz.1, mz.2.1, hb.1, hb.2, mz.2.2.1⟩ mz.2.2.2.2.1 mz.2.2.2.2.2.1 mz.2.2.2.1.1 mz.2.2.2.1.2
                   unfold rd_place
                   simp only [bnd, hx1, hx2, hx3, if_pos hyes, hx4])
            · first
                | (exact absurd hyes hsel)
                | (have mz := mw2.w (s := 16) (n := 4) (v := nI ((s.1 0 4 0) + 1)) (by decide) (by decide) (by decide)
                   have e16 : ∀ q, q ≠ 16 → (xu (xu (xu I3 21 1 (s.1 0 4 0) (nI x3)) 22 1 (s.1 0 4 0) (-2)) 16 1 4 (nI ((s.1 0 4 0) + 1))) q = (xu (xu I3 21 1 (s.1 0 4 0) (nI x3)) 22 1 (s.1 0 4 0) (-2)) q := fun q h => by funext x y; rw [xu_ns h]
                   have hb := XB.place (I' := (xu (xu (xu I3 21 1 (s.1 0 4 0) (nI x3)) 22 1 (s.1 0 4 0) (-2)) 16 1 4 (nI ((s.1 0 4 0) + 1)))) (y0 := x3) (y1 := 0) hP.2.2.1 hP.2.2.2.1 xu_s (fun l hl => by rw [xu_nk hl]; exact c16 l) (by rw [e16 21 (by decide)]; exact a21) (fun l hl => by rw [e16 21 (by decide)]; exact b21 l hl) (by rw [e16 22 (by decide)]; exact a22) (fun l hl => by rw [e16 22 (by decide)]; exact b22 l hl) (fun q h1 h2 n1 n2 => mz.2.2.2.2.2.2 q (by omega) (by omega) (by omega) (by omega) (by simp; omega))
                   refine qR2_ok (s := (addV s.1 4 (s.1 0 4 0) [(5, x3), (6, 0)], s.2.1 ++ [(s.2.2, 4, x1)], (nx T e (nx T e (nx T e s.2.2))))) ?_ ⟨mz.1, mz.2.1, hb.1, hb.2, mz.2.2.1⟩ mz.2.2.2.2.1 mz.2.2.2.2.2.1 mz.2.2.2.1.1 mz.2.2.2.1.2
                   unfold rd_place
                   simp only [bnd, hx1, hx2, hx3, if_neg hno])
          · obtain ⟨f, hf⟩ := pR_l h86
            refine x_iconst dX6_readPlace_89 li_0 ?_
            refine x_zret dX6_readPlace_90 rfl rfl ?_
            refine qR2_no (f := f) ?_ (e5 f hf) (m4.2.2.2.2.1.tr p5) (m4.2.2.2.2.2.1.tr l5)
            unfold rd_place
            simp only [bnd, hx1, hx2, hx3, if_pos hyes, hf]
      · obtain ⟨f, hf⟩ := pR_l h32
        refine x_iconst dX6_readPlace_35 li_0 ?_
        refine x_zret dX6_readPlace_36 rfl rfl ?_
        first
          | (refine qR2_no (f := f) ?_ (e3 f hf) (m2.2.2.2.2.1.tr p3) (m2.2.2.2.2.2.1.tr l3); unfold rd_place; simp only [bnd, hx1, hx2, hf])
          | (refine qR2_no (f := f) ?_ (e2 f hf) (m1.2.2.2.2.1.tr p2) (m1.2.2.2.2.2.1.tr l2); unfold rd_place; simp only [bnd, hx1, hf])
          | (refine qR2_no (f := f) ?_ (e1 f hf) p1 l1; unfold rd_place; simp only [bnd, hf])
end Tel9
