section Tel6
variable {G : xG} {ad : Nat → Nat → Nat} {nb : Nat} {b r : Option Nat} {L : Nat → Nat → Nat → Int64} {V : sV} {I : Nat → Nat → Nat → Int32} {d : Nat}

/-- amid a line: what stands since its start (S: the segments of the draft that it writes) -/
def MID (T : Nat → Nat) (e : Nat) (S : List Nat) (I : Nat → Nat → Nat → Int32) (L : Nat → Nat → Nat → Int64) (nm : List (Nat × Nat × Nat)) (a : Nat) (I' : Nat → Nat → Nat → Int32) (L' : Nat → Nat → Nat → Int64) : Prop := a ≤ e ∧ TK T e a I' L' ∧ XNm T e nm I' L' ∧ (I' 6 0 1 = I 6 0 1 ∧ I' 6 0 2 = I 6 0 2) ∧ FP I I' ∧ FL L L' ∧ ∀ q, q ≠ 6 → q ≠ 7 → q ≠ 39 → q ≠ 40 → q ∉ S → I' q = I q
variable {T : Nat → Nat} {e a num so : Nat} {S : List Nat} {nm : List (Nat × Nat × Nat)} {I1 I2 : Nat → Nat → Nat → Int32} {L1 L2 : Nat → Nat → Nat → Int64}
theorem MID.u (h : MID T e S I L nm a I1 L1) (k : TK T e (nx T e a) I2 L2 ∧ I2 6 0 8 = nI num ∧ I2 6 0 9 = nI (tA T e a) ∧ (∀ k, k ≠ 8 → k ≠ 9 → I2 6 0 k = I1 6 0 k) ∧ F67 I1 I2 ∧ F7 L1 L2) : MID T e S I L nm (nx T e a) I2 L2 := by
  obtain ⟨h1, h2, h3, h4, h5, h6, h7⟩ := h
  obtain ⟨k1, k2, k3, k4, k5, k6⟩ := k
  refine ⟨(nx_le h1).2, k1, h3.sm (k4 7 (by decide) (by decide)) (k5 39 (by decide) (by decide)) (k5 40 (by decide) (by decide)) (k6 38 (by decide)), ⟨(k4 1 (by decide) (by decide)).trans h4.1, (k4 2 (by decide) (by decide)).trans h4.2⟩, h5.tr k5.fp, h6.tr k6.fl, fun q q6 q7 q39 q40 qs => (k5 q q6 q7).trans (h7 q q6 q7 q39 q40 qs)⟩
theorem MID.n (h : MID T e S I L nm a I1 L1) (hf : FP I1 I2) (hl : FL L1 L2) (k : TK T e (nx T e a) I2 L2 ∧ I2 6 0 8 = nI num ∧ I2 6 0 9 = nI (tA T e a) ∧ XNm T e (nm ++ [(a, so, num)]) I2 L2 ∧ I2 6 0 1 = I1 6 0 1 ∧ I2 6 0 2 = I1 6 0 2 ∧ F4 I1 I2) : MID T e S I L (nm ++ [(a, so, num)]) (nx T e a) I2 L2 := by
  obtain ⟨h1, h2, h3, h4, h5, h6, h7⟩ := h
  obtain ⟨k1, k2, k3, k4, k5, k6, k7⟩ := k
  exact ⟨(nx_le h1).2, k1, k4, ⟨k5.trans h4.1, k6.trans h4.2⟩, h5.tr hf, h6.tr hl, fun q q6 q7 q39 q40 qs => (k7 q q6 q7 q39 q40).trans (h7 q q6 q7 q39 q40 qs)⟩
theorem MID.w {s n : Nat} {v : Int32} (h : MID T e S I L nm a I1 L1) (hs : s ∈ S) (h16 : 16 ≤ s) (h29 : s ≤ 29) : MID T e S I L nm a (xu I1 s 1 n v) L1 := by
  obtain ⟨h1, h2, h3, h4, h5, h6, h7⟩ := h
  have eo : ∀ q, q ≠ s → xu I1 s 1 n v q = I1 q := fun q hq => by funext x y; rw [xu_ns hq]
  refine ⟨h1, h2.sm (eo 7 (by omega)) rfl, h3.sm (by rw [eo 6 (by omega)]) (eo 39 (by omega)) (eo 40 (by omega)) rfl, ⟨by rw [eo 6 (by omega)]; exact h4.1, by rw [eo 6 (by omega)]; exact h4.2⟩, h5.tr (fun q c hqc => ?_), h6, fun q q6 q7 q39 q40 qs => (eo q (fun z => qs (z ▸ hs))).trans (h7 q q6 q7 q39 q40 qs)⟩
  by_cases e0 : q = s
  · subst e0
    have hc : c ≠ 1 := fun z => hqc (by subst z; exact Or.inr (Or.inr (Or.inr (Or.inr (Or.inl ⟨h16, h29, rfl⟩)))))
    funext x; exact xu_ni hc
  · rw [eo q e0]
theorem MID.st {s : pS} (hP : PSt T e s I L) : MID T e S I L s.2.1 s.2.2 I L := ⟨hP.1, hP.2.1, hP.2.2.2.2, ⟨rfl, rfl⟩, fun _ _ _ => rfl, fun _ _ _ => rfl, fun _ _ _ _ _ _ => rfl⟩
theorem MID.t (h : MID T e S I L nm a I1 L1) (hT : ∀ i, i < e → I 14 0 i = nI (T i)) (h14 : 14 ∉ S) : ∀ i, i < e → I1 14 0 i = nI (T i) := fun i hi => by rw [h.2.2.2.2.2.2 14 (by decide) (by decide) (by decide) (by decide) h14]; exact hT i hi
def rdLand (T : Nat → Nat) (e so k lo hi f : Nat) (s : pS) : lR := bnd (pNew s.1 T e s.2.1 so s.2.2) (fun n => bnd (pChoice T e k (nx T e s.2.2)) (fun _ => bnd (pWhole T e lo hi (nx T e (nx T e s.2.2))) (fun x => .inr (addV s.1 so (s.1 0 so 0) [(f, x)], s.2.1 ++ [(s.2.2, so, n)], nx T e (nx T e (nx T e s.2.2))))))

set_option maxRecDepth 100000 in
set_option maxHeartbeats 4000000 in
theorem c_count' {so n : Nat} (hc : I 16 1 so = nI n) (hso : so < 12) : Mt G vX6_count (d) (0, 0) [.ref (ad 6 0), .int (nI (so))] (MM ad nb b r I L) (qE (nI 1) (MM ad nb b r (xu I 16 1 so (nI (n + 1))) L)) := by
  refine x_start (by decide) (Nat.le_of_ble_eq_true rfl) ?_
  refine x_aload_n dX6_count_0 rfl ?_
  refine g_Teller_draft fX6_12 dX6_count_1 ?_
  refine g_Border_sizes fX6_72 dX6_count_4 (by first | exact Nat.le_of_ble_eq_true rfl | assumption | omega) ?_
  refine x_iload_n dX6_count_7 rfl ?_
  refine x_dup2 dX6_count_8 rfl rfl ?_
  refine x_iald dX6_count_9 rfl rfl (Nat.lt_of_lt_of_le (by first | assumption | omega | decide) (Nat.le_refl 2)) (by first | exact Nat.le_of_ble_eq_true rfl | assumption | omega) ?_
  rw [hc]
  refine x_iconst dX6_count_10 li_1 ?_
  refine x_iaddN dX6_count_11 ?_
  refine x_iast dX6_count_12 rfl rfl (Nat.lt_of_lt_of_le (by first | assumption | omega | decide) (Nat.le_refl 2)) (by first | exact Nat.le_of_ble_eq_true rfl | assumption | omega) ?_
  refine x_iconst dX6_count_13 li_1 ?_
  refine x_zret dX6_count_14 rfl rfl ?_
  exact ⟨_, rfl, rfl, rfl⟩
set_option maxRecDepth 100000 in
set_option maxHeartbeats 4000000 in
theorem c_read_land {T : Nat → Nat} {e : Nat} (hE : e ≤ 1100) (hT : ∀ i, i < e → I 14 0 i = nI (T i)) (hT2 : ∀ i, T i < 256) {s : pS} (hP : PSt T e s I L) (hW : PW s) (hr : s.1 0 1 0 < 4) : Mt G vX6_readLand (d + 6) (0, 0) [.ref (ad 6 0)] (MM ad nb b r I L) (qR2 T e ad nb b r I L (rdLand T e 1 2 0 9 1 s)) := by
  have hV := hW.1
  have v0 := hV.1
  have v1 := hV.2.1
  have v2 := hV.2.2.1
  have v3 := hV.2.2.2.1
  have v4 := hV.2.2.2.2.1
  have v7 := hV.2.2.2.2.2.2.2.1
  have v9 := hV.2.2.2.2.2.2.2.2.2.1
  have v10 := hV.2.2.2.2.2.2.2.2.2.2.1
  have m0 : MID T e [16, 17] I L s.2.1 s.2.2 I L := MID.st hP
  have hln := hW.2.1
  refine x_start (by decide) (Nat.le_of_ble_eq_true rfl) ?_
  refine x_aload_n dX6_readLand_0 rfl ?_
  refine x_iconst dX6_readLand_1 li_1 ?_
  refine x_cvi ((c_newName (d := d) (V := s.1) (so := 1) hE hT hT2 hP.1 hP.2.1 hP.2.2.1 hP.2.2.2.2 (by omega) (by omega) (by omega)).wk (fun _ _ h => h.un)) kX6_140 dX6_readLand_2 rfl (Nat.le_of_ble_eq_true rfl) rfl rfl (Nat.le_of_ble_eq_true rfl) (fun ru Mu hq => ?_)
  obtain ⟨rfl, Ia, La, rfl, p1, p2, p3, p4⟩ := hq
  refine x_if_eq 27 dX6_readLand_5 (by decide) (fun h5 => ?_) (fun h5 => ?_)
  · obtain ⟨f, hf⟩ := pR_l h5
    refine x_iconst dX6_readLand_27 li_0 ?_
    refine x_zret dX6_readLand_28 rfl rfl ?_
    first
      | (refine qR2_no (f := f) ?_ (t3 f hf) ((p1.tr r1).tr t1) ((p2.tr r2).tr t2); unfold rdLand; rw [hx1]; unfold bnd; rw [hx2]; simp only []; rw [hf])
      | (refine qR2_no (f := f) ?_ (r3 f hf) (p1.tr r1) (p2.tr r2); unfold rdLand; rw [hx1]; unfold bnd; rw [hf])
      | (refine qR2_no (f := f) ?_ (p3 f hf) p1 p2; unfold rdLand; rw [hf]; rfl)
  · obtain ⟨x1, hx1⟩ := pR_r h5
    have m1 := m0.n p1 p2 (p4 x1 hx1)
    refine x_aload_n dX6_readLand_8 rfl ?_
    refine x_ldcS (n := 2) dX6_readLand_9 rfl ?_
    refine x_cvi ((c_choice (d := d) (k := 2) hE (m1.t hT (by decide)) hT2 m1.1 m1.2.1 (by omega)).wk (fun _ _ h => h.un)) kX6_130 dX6_readLand_11 rfl (Nat.le_of_ble_eq_true rfl) rfl rfl (Nat.le_of_ble_eq_true rfl) (fun ru Mu hq => ?_)
    obtain ⟨rfl, Ib, Lb, rfl, r1, r2, r3, r4⟩ := hq
    refine x_if_eq 27 dX6_readLand_14 (by decide) (fun h14 => ?_) (fun h14 => ?_)
    · obtain ⟨f, hf⟩ := pR_l h14
      refine x_iconst dX6_readLand_27 li_0 ?_
      refine x_zret dX6_readLand_28 rfl rfl ?_
      first
        | (refine qR2_no (f := f) ?_ (t3 f hf) ((p1.tr r1).tr t1) ((p2.tr r2).tr t2); unfold rdLand; rw [hx1]; unfold bnd; rw [hx2]; simp only []; rw [hf])
        | (refine qR2_no (f := f) ?_ (r3 f hf) (p1.tr r1) (p2.tr r2); unfold rdLand; rw [hx1]; unfold bnd; rw [hf])
        | (refine qR2_no (f := f) ?_ (p3 f hf) p1 p2; unfold rdLand; rw [hf]; rfl)
    · obtain ⟨x2, hx2⟩ := pR_r h14
      have m2 := m1.u (r4 x2 hx2)
      refine x_aload_n dX6_readLand_17 rfl ?_
      refine x_iconst dX6_readLand_18 li_0 ?_
      refine x_bipush dX6_readLand_19 lb_9 ?_
      refine x_cvi ((c_whole (d := d + 3) (lo := 0) (hi := 9) hE (m2.t hT (by decide)) hT2 m2.1 m2.2.1 (by omega) (by omega)).wk (fun _ _ h => h.un)) kX6_134 dX6_readLand_21 rfl (Nat.le_of_ble_eq_true rfl) rfl rfl (Nat.le_of_ble_eq_true rfl) (fun ru Mu hq => ?_)
      obtain ⟨rfl, Ic, Lc, rfl, t1, t2, t3, t4⟩ := hq
      refine x_if_ne 29 dX6_readLand_24 (by decide) (fun h24 => ?_) (fun h24 => ?_)
      · obtain ⟨x3, hx3⟩ := pR_r h24
        have m3 := m2.u (t4 x3 hx3)
        have i16 : Ic 16 = I 16 := ((t4 x3 hx3).2.2.2.2.1 16 (by decide) (by decide)).trans (((r4 x2 hx2).2.2.2.2.1 16 (by decide) (by decide)).trans ((p4 x1 hx1).2.2.2.2.2.2 16 (by decide) (by decide) (by decide) (by decide)))
        have i17 : Ic 17 = I 17 := ((t4 x3 hx3).2.2.2.2.1 17 (by decide) (by decide)).trans (((r4 x2 hx2).2.2.2.2.1 17 (by decide) (by decide)).trans ((p4 x1 hx1).2.2.2.2.2.2 17 (by decide) (by decide) (by decide) (by decide)))
        have ec : Ic 16 1 1 = nI (s.1 0 1 0) := by rw [i16]; exact hP.2.2.1.1 1 (by omega)
        refine x_aload_n dX6_readLand_29 rfl ?_
        refine g_Teller_draft fX6_12 dX6_readLand_30 ?_
        refine g_Border_landDuty fX6_146 dX6_readLand_33 (by first | exact Nat.le_of_ble_eq_true rfl | assumption | omega) ?_
        refine x_aload_n dX6_readLand_36 rfl ?_
        refine g_Teller_draft fX6_12 dX6_readLand_37 ?_
        refine g_Border_sizes fX6_72 dX6_readLand_40 (by first | exact Nat.le_of_ble_eq_true rfl | assumption | omega) ?_
        refine x_iconst dX6_readLand_43 li_1 ?_
        refine x_iald dX6_readLand_44 rfl rfl (Nat.lt_of_lt_of_le (by first | assumption | omega | decide) (Nat.le_refl 2)) (by first | exact Nat.le_of_ble_eq_true rfl | assumption | omega) ?_
        rw [ec]
        refine x_aload_n dX6_readLand_45 rfl ?_
        refine g_Teller_found fX6_137 dX6_readLand_46 ?_
        rw [(t4 x3 hx3).2.1]
        refine x_iast dX6_readLand_49 rfl rfl (Nat.lt_of_lt_of_le (by first | assumption | omega | decide) (Nat.le_refl 2)) (by first | exact Nat.le_of_ble_eq_true rfl | assumption | omega) ?_
        refine x_aload_n dX6_readLand_50 rfl ?_
        refine x_iconst dX6_readLand_51 li_1 ?_
        refine x_cvi (c_count' (d := d + 5) (so := 1) (n := (s.1 0 1 0)) (by rw [xu_ns (by decide)]; exact ec) (by omega)) kX6_149 dX6_readLand_52 rfl (Nat.le_of_ble_eq_true rfl) rfl rfl (Nat.le_of_ble_eq_true rfl) (fun ru Mu hq => ?_)
        obtain ⟨rfl, rfl⟩ := hq
        refine x_zret dX6_readLand_55 rfl rfl ?_
        have m4 := (m3.w (s := 17) (n := (s.1 0 1 0)) (v := nI x3) (by decide) (by decide) (by decide)).w (s := 16) (n := 1) (v := nI ((s.1 0 1 0) + 1)) (by decide) (by decide) (by decide)
        have hb := XB.land (y0 := x3) (I' := xu (xu Ic 17 1 (s.1 0 1 0) (nI x3)) 16 1 1 (nI ((s.1 0 1 0) + 1))) hP.2.2.1 hP.2.2.2.1 xu_s (fun l hl => by rw [xu_nk hl, xu_ns (by decide), i16]) (by rw [xu_ns (by decide), xu_s]) (fun l hl => by rw [xu_ns (by decide), xu_nk hl, i17]) (fun q h1 h2 h3 => m4.2.2.2.2.2.2 q (by omega) (by omega) (by omega) (by omega) (by simp; omega))
        refine qR2_ok (s := (addV s.1 1 (s.1 0 1 0) [(1, x3)], s.2.1 ++ [(s.2.2, 1, x1)], nx T e (nx T e (nx T e s.2.2)))) ?_ ⟨m4.1, m4.2.1, hb.1, hb.2, m4.2.2.1⟩ m4.2.2.2.2.1 m4.2.2.2.2.2.1 m4.2.2.2.1.1 m4.2.2.2.1.2
        unfold rdLand
        rw [hx1]
        unfold bnd
        rw [hx2]
        simp only []
        rw [hx3]
      · obtain ⟨f, hf⟩ := pR_l h24
        refine x_iconst dX6_readLand_27 li_0 ?_
        refine x_zret dX6_readLand_28 rfl rfl ?_
        first
          | (refine qR2_no (f := f) ?_ (t3 f hf) ((p1.tr r1).tr t1) ((p2.tr r2).tr t2); unfold rdLand; rw [hx1]; unfold bnd; rw [hx2]; simp only []; rw [hf])
          | (refine qR2_no (f := f) ?_ (r3 f hf) (p1.tr r1) (p2.tr r2); unfold rdLand; rw [hx1]; unfold bnd; rw [hf])
          | (refine qR2_no (f := f) ?_ (p3 f hf) p1 p2; unfold rdLand; rw [hf]; rfl)
set_option maxRecDepth 100000 in
set_option maxHeartbeats 4000000 in
theorem c_read_nose {T : Nat → Nat} {e : Nat} (hE : e ≤ 1100) (hT : ∀ i, i < e → I 14 0 i = nI (T i)) (hT2 : ∀ i, T i < 256) {s : pS} (hP : PSt T e s I L) (hW : PW s) (hr : s.1 0 3 0 < 4) : Mt G vX6_readNose (d + 6) (0, 0) [.ref (ad 6 0)] (MM ad nb b r I L) (qR2 T e ad nb b r I L (rdLand T e 3 5 1 60 4 s)) := by
  have hV := hW.1
  have v0 := hV.1
  have v1 := hV.2.1
  have v2 := hV.2.2.1
  have v3 := hV.2.2.2.1
  have v4 := hV.2.2.2.2.1
  have v7 := hV.2.2.2.2.2.2.2.1
  have v9 := hV.2.2.2.2.2.2.2.2.2.1
  have v10 := hV.2.2.2.2.2.2.2.2.2.2.1
  have m0 : MID T e [16, 20] I L s.2.1 s.2.2 I L := MID.st hP
  have hln := hW.2.1
  refine x_start (by decide) (Nat.le_of_ble_eq_true rfl) ?_
  refine x_aload_n dX6_readNose_0 rfl ?_
  refine x_iconst dX6_readNose_1 li_3 ?_
  refine x_cvi ((c_newName (d := d) (V := s.1) (so := 3) hE hT hT2 hP.1 hP.2.1 hP.2.2.1 hP.2.2.2.2 (by omega) (by omega) (by omega)).wk (fun _ _ h => h.un)) kX6_140 dX6_readNose_2 rfl (Nat.le_of_ble_eq_true rfl) rfl rfl (Nat.le_of_ble_eq_true rfl) (fun ru Mu hq => ?_)
  obtain ⟨rfl, Ia, La, rfl, p1, p2, p3, p4⟩ := hq
  refine x_if_eq 27 dX6_readNose_5 (by decide) (fun h5 => ?_) (fun h5 => ?_)
  · obtain ⟨f, hf⟩ := pR_l h5
    refine x_iconst dX6_readNose_27 li_0 ?_
    refine x_zret dX6_readNose_28 rfl rfl ?_
    first
      | (refine qR2_no (f := f) ?_ (t3 f hf) ((p1.tr r1).tr t1) ((p2.tr r2).tr t2); unfold rdLand; rw [hx1]; unfold bnd; rw [hx2]; simp only []; rw [hf])
      | (refine qR2_no (f := f) ?_ (r3 f hf) (p1.tr r1) (p2.tr r2); unfold rdLand; rw [hx1]; unfold bnd; rw [hf])
      | (refine qR2_no (f := f) ?_ (p3 f hf) p1 p2; unfold rdLand; rw [hf]; rfl)
  · obtain ⟨x1, hx1⟩ := pR_r h5
    have m1 := m0.n p1 p2 (p4 x1 hx1)
    refine x_aload_n dX6_readNose_8 rfl ?_
    refine x_ldcS (n := 5) dX6_readNose_9 rfl ?_
    refine x_cvi ((c_choice (d := d) (k := 5) hE (m1.t hT (by decide)) hT2 m1.1 m1.2.1 (by omega)).wk (fun _ _ h => h.un)) kX6_130 dX6_readNose_11 rfl (Nat.le_of_ble_eq_true rfl) rfl rfl (Nat.le_of_ble_eq_true rfl) (fun ru Mu hq => ?_)
    obtain ⟨rfl, Ib, Lb, rfl, r1, r2, r3, r4⟩ := hq
    refine x_if_eq 27 dX6_readNose_14 (by decide) (fun h14 => ?_) (fun h14 => ?_)
    · obtain ⟨f, hf⟩ := pR_l h14
      refine x_iconst dX6_readNose_27 li_0 ?_
      refine x_zret dX6_readNose_28 rfl rfl ?_
      first
        | (refine qR2_no (f := f) ?_ (t3 f hf) ((p1.tr r1).tr t1) ((p2.tr r2).tr t2); unfold rdLand; rw [hx1]; unfold bnd; rw [hx2]; simp only []; rw [hf])
        | (refine qR2_no (f := f) ?_ (r3 f hf) (p1.tr r1) (p2.tr r2); unfold rdLand; rw [hx1]; unfold bnd; rw [hf])
        | (refine qR2_no (f := f) ?_ (p3 f hf) p1 p2; unfold rdLand; rw [hf]; rfl)
    · obtain ⟨x2, hx2⟩ := pR_r h14
      have m2 := m1.u (r4 x2 hx2)
      refine x_aload_n dX6_readNose_17 rfl ?_
      refine x_iconst dX6_readNose_18 li_1 ?_
      refine x_bipush dX6_readNose_19 lb_60 ?_
      refine x_cvi ((c_whole (d := d + 3) (lo := 1) (hi := 60) hE (m2.t hT (by decide)) hT2 m2.1 m2.2.1 (by omega) (by omega)).wk (fun _ _ h => h.un)) kX6_134 dX6_readNose_21 rfl (Nat.le_of_ble_eq_true rfl) rfl rfl (Nat.le_of_ble_eq_true rfl) (fun ru Mu hq => ?_)
      obtain ⟨rfl, Ic, Lc, rfl, t1, t2, t3, t4⟩ := hq
      refine x_if_ne 29 dX6_readNose_24 (by decide) (fun h24 => ?_) (fun h24 => ?_)
      · obtain ⟨x3, hx3⟩ := pR_r h24
        have m3 := m2.u (t4 x3 hx3)
        have i16 : Ic 16 = I 16 := ((t4 x3 hx3).2.2.2.2.1 16 (by decide) (by decide)).trans (((r4 x2 hx2).2.2.2.2.1 16 (by decide) (by decide)).trans ((p4 x1 hx1).2.2.2.2.2.2 16 (by decide) (by decide) (by decide) (by decide)))
        have i17 : Ic 20 = I 20 := ((t4 x3 hx3).2.2.2.2.1 20 (by decide) (by decide)).trans (((r4 x2 hx2).2.2.2.2.1 20 (by decide) (by decide)).trans ((p4 x1 hx1).2.2.2.2.2.2 20 (by decide) (by decide) (by decide) (by decide)))
        have ec : Ic 16 1 3 = nI (s.1 0 3 0) := by rw [i16]; exact hP.2.2.1.1 3 (by omega)
        refine x_aload_n dX6_readNose_29 rfl ?_
        refine g_Teller_draft fX6_12 dX6_readNose_30 ?_
        refine g_Border_noseSkill fX6_167 dX6_readNose_33 (by first | exact Nat.le_of_ble_eq_true rfl | assumption | omega) ?_
        refine x_aload_n dX6_readNose_36 rfl ?_
        refine g_Teller_draft fX6_12 dX6_readNose_37 ?_
        refine g_Border_sizes fX6_72 dX6_readNose_40 (by first | exact Nat.le_of_ble_eq_true rfl | assumption | omega) ?_
        refine x_iconst dX6_readNose_43 li_3 ?_
        refine x_iald dX6_readNose_44 rfl rfl (Nat.lt_of_lt_of_le (by first | assumption | omega | decide) (Nat.le_refl 2)) (by first | exact Nat.le_of_ble_eq_true rfl | assumption | omega) ?_
        rw [ec]
        refine x_aload_n dX6_readNose_45 rfl ?_
        refine g_Teller_found fX6_137 dX6_readNose_46 ?_
        rw [(t4 x3 hx3).2.1]
        refine x_iast dX6_readNose_49 rfl rfl (Nat.lt_of_lt_of_le (by first | assumption | omega | decide) (Nat.le_refl 2)) (by first | exact Nat.le_of_ble_eq_true rfl | assumption | omega) ?_
        refine x_aload_n dX6_readNose_50 rfl ?_
        refine x_iconst dX6_readNose_51 li_3 ?_
        refine x_cvi (c_count' (d := d + 5) (so := 3) (n := (s.1 0 3 0)) (by rw [xu_ns (by decide)]; exact ec) (by omega)) kX6_149 dX6_readNose_52 rfl (Nat.le_of_ble_eq_true rfl) rfl rfl (Nat.le_of_ble_eq_true rfl) (fun ru Mu hq => ?_)
        obtain ⟨rfl, rfl⟩ := hq
        refine x_zret dX6_readNose_55 rfl rfl ?_
        have m4 := (m3.w (s := 20) (n := (s.1 0 3 0)) (v := nI x3) (by decide) (by decide) (by decide)).w (s := 16) (n := 3) (v := nI ((s.1 0 3 0) + 1)) (by decide) (by decide) (by decide)
        have hb := XB.nose (y0 := x3) (I' := xu (xu Ic 20 1 (s.1 0 3 0) (nI x3)) 16 1 3 (nI ((s.1 0 3 0) + 1))) hP.2.2.1 hP.2.2.2.1 xu_s (fun l hl => by rw [xu_nk hl, xu_ns (by decide), i16]) (by rw [xu_ns (by decide), xu_s]) (fun l hl => by rw [xu_ns (by decide), xu_nk hl, i17]) (fun q h1 h2 h3 => m4.2.2.2.2.2.2 q (by omega) (by omega) (by omega) (by omega) (by simp; omega))
        refine qR2_ok (s := (addV s.1 3 (s.1 0 3 0) [(4, x3)], s.2.1 ++ [(s.2.2, 3, x1)], nx T e (nx T e (nx T e s.2.2)))) ?_ ⟨m4.1, m4.2.1, hb.1, hb.2, m4.2.2.1⟩ m4.2.2.2.2.1 m4.2.2.2.2.2.1 m4.2.2.2.1.1 m4.2.2.2.1.2
        unfold rdLand
        rw [hx1]
        unfold bnd
        rw [hx2]
        simp only []
        rw [hx3]
      · obtain ⟨f, hf⟩ := pR_l h24
        refine x_iconst dX6_readNose_27 li_0 ?_
        refine x_zret dX6_readNose_28 rfl rfl ?_
        first
          | (refine qR2_no (f := f) ?_ (t3 f hf) ((p1.tr r1).tr t1) ((p2.tr r2).tr t2); unfold rdLand; rw [hx1]; unfold bnd; rw [hx2]; simp only []; rw [hf])
          | (refine qR2_no (f := f) ?_ (r3 f hf) (p1.tr r1) (p2.tr r2); unfold rdLand; rw [hx1]; unfold bnd; rw [hf])
          | (refine qR2_no (f := f) ?_ (p3 f hf) p1 p2; unfold rdLand; rw [hf]; rfl)
end Tel6
