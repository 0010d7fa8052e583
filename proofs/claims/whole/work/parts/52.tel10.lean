section Tel10
variable {G : xG} {ad : Nat → Nat → Nat} {nb : Nat} {b r : Option Nat} {L : Nat → Nat → Nat → Int64} {V : sV} {I : Nat → Nat → Nat → Int32} {d : Nat}

theorem MID.w2 {T : Nat → Nat} {e a : Nat} {S : List Nat} {nm : List (Nat × Nat × Nat)} {I1 : Nat → Nat → Nat → Int32} {L1 : Nat → Nat → Nat → Int64} {s c n : Nat} {v : Int32} (h : MID T e S I L nm a I1 L1) (hs : s ∈ S) (hd : db s c) : MID T e S I L nm a (xu I1 s c n v) L1 := by
  obtain ⟨h1, h2, h3, h4, h5, h6, h7⟩ := h
  have hr : 16 ≤ s ∧ s ≤ 37 := by unfold db at hd; omega
  have eo : ∀ q, q ≠ s → xu I1 s c n v q = I1 q := fun q hq => by funext x y; rw [xu_ns hq]
  refine ⟨h1, h2.sm (eo 7 (by omega)) rfl, h3.sm (by rw [eo 6 (by omega)]) (eo 39 (by omega)) (eo 40 (by omega)) rfl, ⟨by rw [eo 6 (by omega)]; exact h4.1, by rw [eo 6 (by omega)]; exact h4.2⟩, h5.tr (fun q c' hqc => ?_), h6, fun q q6 q7 q39 q40 qs => (eo q (fun z => qs (z ▸ hs))).trans (h7 q q6 q7 q39 q40 qs)⟩
  by_cases e0 : q = s
  · subst e0
    have hc : c' ≠ c := fun z => hqc (by subst z; exact Or.inr (Or.inr (Or.inr (Or.inr hd))))
    funext x; exact xu_ni hc
  · rw [eo q e0]

theorem XB.leaves {o q x : Nat} {I' : Nat → Nat → Nat → Int32} (h : XB V 1 I) (hw : ∀ i, i < 6 → I 29 1 i = nO (-1) (V 17 i 0)) (h16 : I' 16 1 6 = nI (V 0 6 0 + 1)) (k16 : ∀ l, l ≠ 6 → I' 16 1 l = I 16 1 l) (h29 : I' 33 (o + 6) q = nI (2 * x)) (k29 : ∀ c l, ¬ (c = o + 6 ∧ l = q) → I' 33 c l = I 33 c l) (ho : ∀ s, 17 ≤ s → s ≤ 37 → s ≠ 33 → I' s = I s) : XB (setV (setV V 8 o q (x)) 0 6 0 (V 0 6 0 + 1)) 1 I' ∧ ∀ i, i < 6 → I' 29 1 i = nO (-1) ((setV (setV V 8 o q (x)) 0 6 0 (V 0 6 0 + 1)) 17 i 0) := by
  obtain ⟨x0, x1, x2, x3, x4, x5, x6, x7, x8, x9, x10, x11⟩ := h
  generalize hV' : setV (setV V 8 o q (x)) 0 6 0 (V 0 6 0 + 1) = V'
  have vs : ∀ k, k ≠ 6 → V' 0 k 0 = V 0 k 0 := fun k hk => by rw [← hV']; unfold setV; rw [if_neg (fun z => hk z.2.1), if_neg (by omega)]
  have vz : V' 0 6 0 = V 0 6 0 + 1 := by rw [← hV']; exact if_pos ⟨rfl, rfl, rfl⟩
  have vo : ∀ k i j, k ≠ 0 → k ≠ 8 → V' k i j = V k i j := fun k i j h0 h1 => by rw [← hV']; unfold setV; rw [if_neg (fun z => h0 z.1), if_neg (fun z => h1 z.1)]
  have hf : ∀ i j, i < 6 → I' 33 (i + 6) j = nI (2 * V' 8 i j) ∨ ¬ (I 33 (i + 6) j = nI (2 * V 8 i j)) := by
    intro i j hi
    by_cases e0 : i = o ∧ j = q
    · obtain ⟨rfl, rfl⟩ := e0
      refine Or.inl ?_
      rw [h29, ← hV']
      unfold setV
      rw [if_neg (by omega), if_pos ⟨rfl, rfl, rfl⟩]
    · by_cases e1 : I 33 (i + 6) j = nI (2 * V 8 i j)
      · refine Or.inl ?_
        rw [k29 _ _ (fun z => e0 ⟨by omega, z.2⟩), e1, ← hV']
        unfold setV
        rw [if_neg (by omega), if_neg (fun z => e0 z.2)]
      · exact Or.inr e1
  have hw' : ∀ i, i < 6 → I' 29 1 i = nO (-1) (V' 17 i 0) := fun i hi => by rw [ho 29 (by decide) (by decide) (by decide), vo 17 i 0 (by decide) (by decide)]; exact hw i hi
  refine ⟨⟨fun k hk => ?_, ?_, ?_, ?_, ?_, ?_, ?_, ?_, fun s hs _ => hw' s hs, ?_, ?_, ?_⟩, hw'⟩
  · by_cases e0 : k = 6
    · subst e0; rw [vz]; exact h16
    · rw [k16 k e0, vs k e0]; exact x0 k hk
  · simp only [vs 1 (by decide), ho 17 (by decide) (by decide) (by decide), vo 1 _ _ (by decide) (by decide)]; exact x1
  · simp only [vs 2 (by decide), ho 18 (by decide) (by decide) (by decide), ho 19 (by decide) (by decide) (by decide), vo 2 _ _ (by decide) (by decide), vo 3 _ _ (by decide) (by decide)]; exact x2
  · simp only [vs 3 (by decide), ho 20 (by decide) (by decide) (by decide), vo 4 _ _ (by decide) (by decide)]; exact x3
  · simp only [vs 4 (by decide), ho 21 (by decide) (by decide) (by decide), ho 22 (by decide) (by decide) (by decide), vo 5 _ _ (by decide) (by decide), vo 6 _ _ (by decide) (by decide)]; exact x4
  · simp only [vs 7 (by decide), ho 23 (by decide) (by decide) (by decide), ho 24 (by decide) (by decide) (by decide), ho 25 (by decide) (by decide) (by decide), vo 9 _ _ (by decide) (by decide), vo 10 _ _ (by decide) (by decide), vo 11 _ _ (by decide) (by decide)]; exact x5
  · simp only [ho 26 (by decide) (by decide) (by decide), vo 13 _ _ (by decide) (by decide)]; exact x6
  · simp only [vs 9 (by decide), ho 27 (by decide) (by decide) (by decide), ho 28 (by decide) (by decide) (by decide), vo 15 _ _ (by decide) (by decide), vo 16 _ _ (by decide) (by decide)]; exact x7
  · intro i j hi hj
    refine ⟨by rw [ho 31 (by decide) (by decide) (by decide), vo 7 _ _ (by decide) (by decide)]; exact (x9 i j hi hj).1, ?_⟩
    rcases hf i j hi with z | z
    · exact z
    · exact absurd (x9 i j hi hj).2 z
  · simp only [ho 35 (by decide) (by decide) (by decide), vo 12 _ _ (by decide) (by decide)]; exact x10
  · simp only [ho 37 (by decide) (by decide) (by decide), vo 13 _ _ (by decide) (by decide), vo 14 _ _ (by decide) (by decide)]; exact x11
def rd_leaves (T : Nat → Nat) (e : Nat) (s : pS) : lR := bnd (pKnown T e s.2.1 4 s.2.2) (fun x1 => bnd (pKnown T e s.2.1 2 (nx T e s.2.2)) (fun x2 => if s.1 8 x1 x2 = 0 then bnd (pWhole T e 1 60 (nx T e (nx T e s.2.2))) (fun x3 => .inr (setV (setV s.1 8 x1 x2 x3) 0 6 0 (s.1 0 6 0 + 1), s.2.1, nx T e (nx T e (nx T e s.2.2)))) else .inl (3, tA T e (nx T e s.2.2))))
set_option maxRecDepth 100000 in
set_option maxHeartbeats 4000000 in
theorem c_read_leaves {T : Nat → Nat} {e : Nat} (hE : e ≤ 1100) (hT : ∀ i, i < e → I 14 0 i = nI (T i)) (hT2 : ∀ i, T i < 256) {s : pS} (hP : PSt T e s I L) (hW : PW s) : Mt G vX6_readHalves (d + 6) (0, 0) [.ref (ad 6 0), .int (nI (6)), .int (nI (4)), .ref (ad 32 1), .int (nI (60))] (MM ad nb b r I L) (qR2 T e ad nb b r I L (rd_leaves T e s)) := by
  have hV := hW.1
  have v0 := hV.1
  have v1 := hV.2.1
  have v2 := hV.2.2.1
  have v3 := hV.2.2.2.1
  have v4 := hV.2.2.2.2.1
  have v7 := hV.2.2.2.2.2.2.2.1
  have v9 := hV.2.2.2.2.2.2.2.2.2.1
  have v10 := hV.2.2.2.2.2.2.2.2.2.2.1
  have m0 : MID T e [16, 33] I L s.2.1 s.2.2 I L := MID.st hP
  have hta := (tA_le (T := T) (nx_le (T := T) hP.1).2).2
  refine x_start (by decide) (Nat.le_of_ble_eq_true rfl) ?_
  refine x_aload_n dX6_readHalves_0 rfl ?_
  refine x_iload_n dX6_readHalves_1 rfl ?_
  refine x_cvi ((c_knownName (d := d) (so := 4) hE (m0.t hT (by decide)) hT2 m0.1 m0.2.1 m0.2.2.1 (by omega)).wk (fun _ _ h => h.un)) kX6_159 dX6_readHalves_2 rfl (Nat.le_of_ble_eq_true rfl) rfl rfl (Nat.le_of_ble_eq_true rfl) (fun ru Mu hq => ?_)
  obtain ⟨rfl, I1, L1, rfl, p1, l1, e1, g1⟩ := hq
  refine x_if_ne 10 dX6_readHalves_5 (by decide) (fun h5 => ?_) (fun h5 => ?_)
  · obtain ⟨x1, hx1⟩ := pR_r h5
    have m1 := m0.u (g1 x1 hx1)
    have hb1 := pKnown_lt (V := s.1) hx1 hW.2.2
    refine x_aload_n dX6_readHalves_10 rfl ?_
    refine g_Teller_found fX6_137 dX6_readHalves_11 ?_
    rw [(g1 x1 hx1).2.1]
    refine x_istore dX6_readHalves_14 (by decide) rfl ?_
    refine x_aload_n dX6_readHalves_16 rfl ?_
    refine x_iconst dX6_readHalves_17 li_2 ?_
    refine x_cvi ((c_knownName (d := d) (so := 2) hE (m1.t hT (by decide)) hT2 m1.1 m1.2.1 m1.2.2.1 (by omega)).wk (fun _ _ h => h.un)) kX6_159 dX6_readHalves_18 rfl (Nat.le_of_ble_eq_true rfl) rfl rfl (Nat.le_of_ble_eq_true rfl) (fun ru Mu hq => ?_)
    obtain ⟨rfl, I2, L2, rfl, p2, l2, e2, g2⟩ := hq
    refine x_if_ne 26 dX6_readHalves_21 (by decide) (fun h21 => ?_) (fun h21 => ?_)
    · obtain ⟨x2, hx2⟩ := pR_r h21
      have m2 := m1.u (g2 x2 hx2)
      have hb2 := pKnown_lt (V := s.1) hx2 hW.2.2
      have j33 : I2 33 = I 33 := ((g2 x2 hx2).2.2.2.2.1 33 (by decide) (by decide)).trans ((g1 x1 hx1).2.2.2.2.1 33 (by decide) (by decide))
      have hbd := hV.2.2.2.2.2.2.2.2.2.2.2.2.2.2.2.2.2.1 x1 x2
      refine x_aload_n dX6_readHalves_26 rfl ?_
      refine g_Teller_found fX6_137 dX6_readHalves_27 ?_
      rw [(g2 x2 hx2).2.1]
      refine x_istore dX6_readHalves_30 (by decide) rfl ?_
      refine x_aload_n dX6_readHalves_32 rfl ?_
      refine x_iload dX6_readHalves_33 rfl ?_
      refine aa_Border_leaves1 dX6_readHalves_35 rfl (by first | exact Nat.le_of_ble_eq_true rfl | assumption | omega) ?_
      refine x_iload dX6_readHalves_36 rfl ?_
      refine x_iald dX6_readHalves_38 rfl rfl (Nat.lt_of_lt_of_le (show x1 + 6 < 12 by omega) (Nat.le_of_ble_eq_true rfl)) (by first | exact Nat.le_of_ble_eq_true rfl | assumption | omega) ?_
      have ecell : I2 33 (x1 + 6) x2 = nI (2 * s.1 8 x1 x2) := by rw [j33]; exact (hP.2.2.1.2.2.2.2.2.2.2.2.2.1 x1 x2 (by omega) (by omega)).2
      rw [ecell]
      refine x_ifN_le 52 dX6_readHalves_39 (by decide) (by omega) (fun h39 => ?_) (fun h39 => ?_)
      · refine x_aload_n dX6_readHalves_52 rfl ?_
        refine x_iconst dX6_readHalves_53 li_1 ?_
        refine x_iload dX6_readHalves_54 rfl ?_
        refine x_cvi ((c_whole (d := d + 3) (lo := 1) (hi := 60) hE (m2.t hT (by decide)) hT2 m2.1 m2.2.1 (by omega) (by omega)).wk (fun _ _ h => h.un)) kX6_134 dX6_readHalves_56 rfl (Nat.le_of_ble_eq_true rfl) rfl rfl (Nat.le_of_ble_eq_true rfl) (fun ru Mu hq => ?_)
        obtain ⟨rfl, I3, L3, rfl, p3, l3, e3, g3⟩ := hq
        refine x_if_ne 64 dX6_readHalves_59 (by decide) (fun h59 => ?_) (fun h59 => ?_)
        · obtain ⟨x3, hx3⟩ := pR_r h59
          have m3 := m2.u (g3 x3 hx3)
          have f16 : I3 16 = I 16 := ((g3 x3 hx3).2.2.2.2.1 16 (by decide) (by decide)).trans (((g2 x2 hx2).2.2.2.2.1 16 (by decide) (by decide)).trans ((g1 x1 hx1).2.2.2.2.1 16 (by decide) (by decide)))
          have f33 : I3 33 = I 33 := ((g3 x3 hx3).2.2.2.2.1 33 (by decide) (by decide)).trans j33
          refine x_aload_n dX6_readHalves_64 rfl ?_
          refine x_iload dX6_readHalves_65 rfl ?_
          refine aa_Border_leaves1 dX6_readHalves_67 rfl (by first | exact Nat.le_of_ble_eq_true rfl | assumption | omega) ?_
          refine x_iload dX6_readHalves_68 rfl ?_
          refine x_iconst dX6_readHalves_70 li_2 ?_
          refine x_aload_n dX6_readHalves_71 rfl ?_
          refine g_Teller_found fX6_137 dX6_readHalves_72 ?_
          rw [(g3 x3 hx3).2.1]
          refine x_imulN dX6_readHalves_75 ?_
          refine x_iast dX6_readHalves_76 rfl rfl (Nat.lt_of_lt_of_le (show x1 + 6 < 12 by omega) (Nat.le_of_ble_eq_true rfl)) (by first | exact Nat.le_of_ble_eq_true rfl | assumption | omega) ?_
          refine x_aload_n dX6_readHalves_77 rfl ?_
          refine x_iload_n dX6_readHalves_78 rfl ?_
          refine x_cvi (c_count' (d := d + 5) (so := 6) (n := s.1 0 6 0) (by rw [xu_ns (by decide), f16]; exact hP.2.2.1.1 6 (by omega)) (by omega)) kX6_149 dX6_readHalves_79 rfl (Nat.le_of_ble_eq_true rfl) rfl rfl (Nat.le_of_ble_eq_true rfl) (fun ru Mu hq => ?_)
          obtain ⟨rfl, rfl⟩ := hq
          refine x_zret dX6_readHalves_82 rfl rfl ?_
          have mz := (m3.w2 (s := 33) (c := x1 + 6) (n := x2) (v := nI (2 * x3)) (by decide) (by unfold db; omega)).w (s := 16) (n := 6) (v := nI (s.1 0 6 0 + 1)) (by decide) (by decide) (by decide)
          have hb := XB.leaves (o := x1) (q := x2) (x := x3) (I' := xu (xu I3 33 (x1 + 6) x2 (nI (2 * x3))) 16 1 6 (nI (s.1 0 6 0 + 1))) hP.2.2.1 hP.2.2.2.1 xu_s (fun l hl => by rw [xu_nk hl, xu_ns (by decide), f16]) (by rw [xu_ns (by decide), xu_s]) (fun c l hcl => by rw [xu_ns (by decide), ← f33]; unfold xu; rw [if_neg (fun z => hcl z.2)]) (fun q h1 h2 h3 => mz.2.2.2.2.2.2 q (by omega) (by omega) (by omega) (by omega) (by simp; omega))
          refine qR2_ok (s := (setV (setV s.1 8 x1 x2 x3) 0 6 0 (s.1 0 6 0 + 1), s.2.1, nx T e (nx T e (nx T e s.2.2)))) ?_ ⟨mz.1, mz.2.1, hb.1, hb.2, mz.2.2.1⟩ mz.2.2.2.2.1 mz.2.2.2.2.2.1 mz.2.2.2.1.1 mz.2.2.2.1.2
          unfold rd_leaves
          simp only [bnd, hx1, hx2, if_pos (show s.1 8 x1 x2 = 0 by omega), hx3]
        · obtain ⟨f, hf⟩ := pR_l h59
          refine x_iconst dX6_readHalves_62 li_0 ?_
          refine x_zret dX6_readHalves_63 rfl rfl ?_
          refine qR2_no (f := f) ?_ (e3 f hf) ((p1.tr p2).tr p3) ((l1.tr l2).tr l3)
          unfold rd_leaves
          simp only [bnd, hx1, hx2, if_pos (show s.1 8 x1 x2 = 0 by omega), hf]
      · refine x_aload_n dX6_readHalves_42 rfl ?_
        refine x_iconst dX6_readHalves_43 li_3 ?_
        refine x_aload_n dX6_readHalves_44 rfl ?_
        refine g_Teller_foundAt fX6_183 dX6_readHalves_45 ?_
        rw [(g2 x2 hx2).2.2.1]
        refine x_cvi (c_wrong (d := d + 5)) kX6_68 dX6_readHalves_48 rfl (Nat.le_of_ble_eq_true rfl) rfl rfl (Nat.le_of_ble_eq_true rfl) (fun ru Mu hq => ?_)
        obtain ⟨rfl, rfl⟩ := hq
        refine x_zret dX6_readHalves_51 rfl rfl ?_
        refine qR2_no (f := (3, tA T e (nx T e s.2.2))) ?_ ⟨by rw [xu_nk (by decide), xu_s], xu_s⟩ ((p1.tr p2).tr (fun a c hac => ?_)) (l1.tr l2)
        · unfold rd_leaves; simp only [bnd, hx1, hx2, if_neg (show ¬ s.1 8 x1 x2 = 0 by omega)]
        · funext x; rw [xu_ns (by omega), xu_ns (by omega)]
    · obtain ⟨f, hf⟩ := pR_l h21
      refine x_iconst dX6_readHalves_24 li_0 ?_
      refine x_zret dX6_readHalves_25 rfl rfl ?_
      refine qR2_no (f := f) ?_ (e2 f hf) (p1.tr p2) (l1.tr l2)
      unfold rd_leaves
      simp only [bnd, hx1, hf]
  · obtain ⟨f, hf⟩ := pR_l h5
    refine x_iconst dX6_readHalves_8 li_0 ?_
    refine x_zret dX6_readHalves_9 rfl rfl ?_
    refine qR2_no (f := f) ?_ (e1 f hf) p1 l1
    unfold rd_leaves
    simp only [bnd, hf]
theorem XB.on {o q x : Nat} {I' : Nat → Nat → Nat → Int32} (h : XB V 1 I) (hw : ∀ i, i < 6 → I 29 1 i = nO (-1) (V 17 i 0)) (h16 : I' 16 1 11 = nI (V 0 11 0 + 1)) (k16 : ∀ l, l ≠ 11 → I' 16 1 l = I 16 1 l) (h29 : I' 35 (o + 4) q = nI (2 * x)) (k29 : ∀ c l, ¬ (c = o + 4 ∧ l = q) → I' 35 c l = I 35 c l) (ho : ∀ s, 17 ≤ s → s ≤ 37 → s ≠ 35 → I' s = I s) : XB (setV (setV V 12 o q (x)) 0 11 0 (V 0 11 0 + 1)) 1 I' ∧ ∀ i, i < 6 → I' 29 1 i = nO (-1) ((setV (setV V 12 o q (x)) 0 11 0 (V 0 11 0 + 1)) 17 i 0) := by
  obtain ⟨x0, x1, x2, x3, x4, x5, x6, x7, x8, x9, x10, x11⟩ := h
  generalize hV' : setV (setV V 12 o q (x)) 0 11 0 (V 0 11 0 + 1) = V'
  have vs : ∀ k, k ≠ 11 → V' 0 k 0 = V 0 k 0 := fun k hk => by rw [← hV']; unfold setV; rw [if_neg (fun z => hk z.2.1), if_neg (by omega)]
  have vz : V' 0 11 0 = V 0 11 0 + 1 := by rw [← hV']; exact if_pos ⟨rfl, rfl, rfl⟩
  have vo : ∀ k i j, k ≠ 0 → k ≠ 12 → V' k i j = V k i j := fun k i j h0 h1 => by rw [← hV']; unfold setV; rw [if_neg (fun z => h0 z.1), if_neg (fun z => h1 z.1)]
  have hf : ∀ i j, i < 4 → I' 35 (i + 4) j = nI (2 * V' 12 i j) ∨ ¬ (I 35 (i + 4) j = nI (2 * V 12 i j)) := by
    intro i j hi
    by_cases e0 : i = o ∧ j = q
    · obtain ⟨rfl, rfl⟩ := e0
      refine Or.inl ?_
      rw [h29, ← hV']
      unfold setV
      rw [if_neg (by omega), if_pos ⟨rfl, rfl, rfl⟩]
    · by_cases e1 : I 35 (i + 4) j = nI (2 * V 12 i j)
      · refine Or.inl ?_
        rw [k29 _ _ (fun z => e0 ⟨by omega, z.2⟩), e1, ← hV']
        unfold setV
        rw [if_neg (by omega), if_neg (fun z => e0 z.2)]
      · exact Or.inr e1
  have hw' : ∀ i, i < 6 → I' 29 1 i = nO (-1) (V' 17 i 0) := fun i hi => by rw [ho 29 (by decide) (by decide) (by decide), vo 17 i 0 (by decide) (by decide)]; exact hw i hi
  refine ⟨⟨fun k hk => ?_, ?_, ?_, ?_, ?_, ?_, ?_, ?_, fun s hs _ => hw' s hs, ?_, ?_, ?_⟩, hw'⟩
  · by_cases e0 : k = 11
    · subst e0; rw [vz]; exact h16
    · rw [k16 k e0, vs k e0]; exact x0 k hk
  · simp only [vs 1 (by decide), ho 17 (by decide) (by decide) (by decide), vo 1 _ _ (by decide) (by decide)]; exact x1
  · simp only [vs 2 (by decide), ho 18 (by decide) (by decide) (by decide), ho 19 (by decide) (by decide) (by decide), vo 2 _ _ (by decide) (by decide), vo 3 _ _ (by decide) (by decide)]; exact x2
  · simp only [vs 3 (by decide), ho 20 (by decide) (by decide) (by decide), vo 4 _ _ (by decide) (by decide)]; exact x3
  · simp only [vs 4 (by decide), ho 21 (by decide) (by decide) (by decide), ho 22 (by decide) (by decide) (by decide), vo 5 _ _ (by decide) (by decide), vo 6 _ _ (by decide) (by decide)]; exact x4
  · simp only [vs 7 (by decide), ho 23 (by decide) (by decide) (by decide), ho 24 (by decide) (by decide) (by decide), ho 25 (by decide) (by decide) (by decide), vo 9 _ _ (by decide) (by decide), vo 10 _ _ (by decide) (by decide), vo 11 _ _ (by decide) (by decide)]; exact x5
  · simp only [ho 26 (by decide) (by decide) (by decide), vo 13 _ _ (by decide) (by decide)]; exact x6
  · simp only [vs 9 (by decide), ho 27 (by decide) (by decide) (by decide), ho 28 (by decide) (by decide) (by decide), vo 15 _ _ (by decide) (by decide), vo 16 _ _ (by decide) (by decide)]; exact x7
  · simp only [ho 31 (by decide) (by decide) (by decide), ho 33 (by decide) (by decide) (by decide), vo 7 _ _ (by decide) (by decide), vo 8 _ _ (by decide) (by decide)]; exact x9
  · intro i j hi hj
    rcases hf i j hi with z | z
    · exact z
    · exact absurd (x10 i j hi hj) z
  · simp only [ho 37 (by decide) (by decide) (by decide), vo 13 _ _ (by decide) (by decide), vo 14 _ _ (by decide) (by decide)]; exact x11
def rd_on (T : Nat → Nat) (e : Nat) (s : pS) : lR := bnd (pKnown T e s.2.1 7 s.2.2) (fun x1 => bnd (pKnown T e s.2.1 2 (nx T e s.2.2)) (fun x2 => if s.1 12 x1 x2 = 0 then bnd (pWhole T e 1 99 (nx T e (nx T e s.2.2))) (fun x3 => .inr (setV (setV s.1 12 x1 x2 x3) 0 11 0 (s.1 0 11 0 + 1), s.2.1, nx T e (nx T e (nx T e s.2.2)))) else .inl (3, tA T e (nx T e s.2.2))))
set_option maxRecDepth 100000 in
set_option maxHeartbeats 4000000 in
theorem c_read_on {T : Nat → Nat} {e : Nat} (hE : e ≤ 1100) (hT : ∀ i, i < e → I 14 0 i = nI (T i)) (hT2 : ∀ i, T i < 256) {s : pS} (hP : PSt T e s I L) (hW : PW s) : Mt G vX6_readHalves (d + 6) (0, 0) [.ref (ad 6 0), .int (nI (11)), .int (nI (7)), .ref (ad 34 1), .int (nI (99))] (MM ad nb b r I L) (qR2 T e ad nb b r I L (rd_on T e s)) := by
  have hV := hW.1
  have v0 := hV.1
  have v1 := hV.2.1
  have v2 := hV.2.2.1
  have v3 := hV.2.2.2.1
  have v4 := hV.2.2.2.2.1
  have v7 := hV.2.2.2.2.2.2.2.1
  have v9 := hV.2.2.2.2.2.2.2.2.2.1
  have v10 := hV.2.2.2.2.2.2.2.2.2.2.1
  have m0 : MID T e [16, 35] I L s.2.1 s.2.2 I L := MID.st hP
  have hta := (tA_le (T := T) (nx_le (T := T) hP.1).2).2
  refine x_start (by decide) (Nat.le_of_ble_eq_true rfl) ?_
  refine x_aload_n dX6_readHalves_0 rfl ?_
  refine x_iload_n dX6_readHalves_1 rfl ?_
  refine x_cvi ((c_knownName (d := d) (so := 7) hE (m0.t hT (by decide)) hT2 m0.1 m0.2.1 m0.2.2.1 (by omega)).wk (fun _ _ h => h.un)) kX6_159 dX6_readHalves_2 rfl (Nat.le_of_ble_eq_true rfl) rfl rfl (Nat.le_of_ble_eq_true rfl) (fun ru Mu hq => ?_)
  obtain ⟨rfl, I1, L1, rfl, p1, l1, e1, g1⟩ := hq
  refine x_if_ne 10 dX6_readHalves_5 (by decide) (fun h5 => ?_) (fun h5 => ?_)
  · obtain ⟨x1, hx1⟩ := pR_r h5
    have m1 := m0.u (g1 x1 hx1)
    have hb1 := pKnown_lt (V := s.1) hx1 hW.2.2
    refine x_aload_n dX6_readHalves_10 rfl ?_
    refine g_Teller_found fX6_137 dX6_readHalves_11 ?_
    rw [(g1 x1 hx1).2.1]
    refine x_istore dX6_readHalves_14 (by decide) rfl ?_
    refine x_aload_n dX6_readHalves_16 rfl ?_
    refine x_iconst dX6_readHalves_17 li_2 ?_
    refine x_cvi ((c_knownName (d := d) (so := 2) hE (m1.t hT (by decide)) hT2 m1.1 m1.2.1 m1.2.2.1 (by omega)).wk (fun _ _ h => h.un)) kX6_159 dX6_readHalves_18 rfl (Nat.le_of_ble_eq_true rfl) rfl rfl (Nat.le_of_ble_eq_true rfl) (fun ru Mu hq => ?_)
    obtain ⟨rfl, I2, L2, rfl, p2, l2, e2, g2⟩ := hq
    refine x_if_ne 26 dX6_readHalves_21 (by decide) (fun h21 => ?_) (fun h21 => ?_)
    · obtain ⟨x2, hx2⟩ := pR_r h21
      have m2 := m1.u (g2 x2 hx2)
      have hb2 := pKnown_lt (V := s.1) hx2 hW.2.2
      have j35 : I2 35 = I 35 := ((g2 x2 hx2).2.2.2.2.1 35 (by decide) (by decide)).trans ((g1 x1 hx1).2.2.2.2.1 35 (by decide) (by decide))
      have hbd := hV.2.2.2.2.2.2.2.2.2.2.2.2.2.2.2.2.2.2.2.1 x1 x2
      refine x_aload_n dX6_readHalves_26 rfl ?_
      refine g_Teller_found fX6_137 dX6_readHalves_27 ?_
      rw [(g2 x2 hx2).2.1]
      refine x_istore dX6_readHalves_30 (by decide) rfl ?_
      refine x_aload_n dX6_readHalves_32 rfl ?_
      refine x_iload dX6_readHalves_33 rfl ?_
      refine aa_Border_on1 dX6_readHalves_35 rfl (by first | exact Nat.le_of_ble_eq_true rfl | assumption | omega) ?_
      refine x_iload dX6_readHalves_36 rfl ?_
      refine x_iald dX6_readHalves_38 rfl rfl (Nat.lt_of_lt_of_le (show x1 + 4 < 8 by omega) (Nat.le_of_ble_eq_true rfl)) (by first | exact Nat.le_of_ble_eq_true rfl | assumption | omega) ?_
      have ecell : I2 35 (x1 + 4) x2 = nI (2 * s.1 12 x1 x2) := by rw [j35]; exact hP.2.2.1.2.2.2.2.2.2.2.2.2.2.1 x1 x2 (by omega) (by omega)
      rw [ecell]
      refine x_ifN_le 52 dX6_readHalves_39 (by decide) (by omega) (fun h39 => ?_) (fun h39 => ?_)
      · refine x_aload_n dX6_readHalves_52 rfl ?_
        refine x_iconst dX6_readHalves_53 li_1 ?_
        refine x_iload dX6_readHalves_54 rfl ?_
        refine x_cvi ((c_whole (d := d + 3) (lo := 1) (hi := 99) hE (m2.t hT (by decide)) hT2 m2.1 m2.2.1 (by omega) (by omega)).wk (fun _ _ h => h.un)) kX6_134 dX6_readHalves_56 rfl (Nat.le_of_ble_eq_true rfl) rfl rfl (Nat.le_of_ble_eq_true rfl) (fun ru Mu hq => ?_)
        obtain ⟨rfl, I3, L3, rfl, p3, l3, e3, g3⟩ := hq
        refine x_if_ne 64 dX6_readHalves_59 (by decide) (fun h59 => ?_) (fun h59 => ?_)
        · obtain ⟨x3, hx3⟩ := pR_r h59
          have m3 := m2.u (g3 x3 hx3)
          have f16 : I3 16 = I 16 := ((g3 x3 hx3).2.2.2.2.1 16 (by decide) (by decide)).trans (((g2 x2 hx2).2.2.2.2.1 16 (by decide) (by decide)).trans ((g1 x1 hx1).2.2.2.2.1 16 (by decide) (by decide)))
          have f35 : I3 35 = I 35 := ((g3 x3 hx3).2.2.2.2.1 35 (by decide) (by decide)).trans j35
          refine x_aload_n dX6_readHalves_64 rfl ?_
          refine x_iload dX6_readHalves_65 rfl ?_
          refine aa_Border_on1 dX6_readHalves_67 rfl (by first | exact Nat.le_of_ble_eq_true rfl | assumption | omega) ?_
          refine x_iload dX6_readHalves_68 rfl ?_
          refine x_iconst dX6_readHalves_70 li_2 ?_
          refine x_aload_n dX6_readHalves_71 rfl ?_
          refine g_Teller_found fX6_137 dX6_readHalves_72 ?_
          rw [(g3 x3 hx3).2.1]
          refine x_imulN dX6_readHalves_75 ?_
          refine x_iast dX6_readHalves_76 rfl rfl (Nat.lt_of_lt_of_le (show x1 + 4 < 8 by omega) (Nat.le_of_ble_eq_true rfl)) (by first | exact Nat.le_of_ble_eq_true rfl | assumption | omega) ?_
          refine x_aload_n dX6_readHalves_77 rfl ?_
          refine x_iload_n dX6_readHalves_78 rfl ?_
          refine x_cvi (c_count' (d := d + 5) (so := 11) (n := s.1 0 11 0) (by rw [xu_ns (by decide), f16]; exact hP.2.2.1.1 11 (by omega)) (by omega)) kX6_149 dX6_readHalves_79 rfl (Nat.le_of_ble_eq_true rfl) rfl rfl (Nat.le_of_ble_eq_true rfl) (fun ru Mu hq => ?_)
          obtain ⟨rfl, rfl⟩ := hq
          refine x_zret dX6_readHalves_82 rfl rfl ?_
          have mz := (m3.w2 (s := 35) (c := x1 + 4) (n := x2) (v := nI (2 * x3)) (by decide) (by unfold db; omega)).w (s := 16) (n := 11) (v := nI (s.1 0 11 0 + 1)) (by decide) (by decide) (by decide)
          have hb := XB.on (o := x1) (q := x2) (x := x3) (I' := xu (xu I3 35 (x1 + 4) x2 (nI (2 * x3))) 16 1 11 (nI (s.1 0 11 0 + 1))) hP.2.2.1 hP.2.2.2.1 xu_s (fun l hl => by rw [xu_nk hl, xu_ns (by decide), f16]) (by rw [xu_ns (by decide), xu_s]) (fun c l hcl => by rw [xu_ns (by decide), ← f35]; unfold xu; rw [if_neg (fun z => hcl z.2)]) (fun q h1 h2 h3 => mz.2.2.2.2.2.2 q (by omega) (by omega) (by omega) (by omega) (by simp; omega))
          refine qR2_ok (s := (setV (setV s.1 12 x1 x2 x3) 0 11 0 (s.1 0 11 0 + 1), s.2.1, nx T e (nx T e (nx T e s.2.2)))) ?_ ⟨mz.1, mz.2.1, hb.1, hb.2, mz.2.2.1⟩ mz.2.2.2.2.1 mz.2.2.2.2.2.1 mz.2.2.2.1.1 mz.2.2.2.1.2
          unfold rd_on
          simp only [bnd, hx1, hx2, if_pos (show s.1 12 x1 x2 = 0 by omega), hx3]
        · obtain ⟨f, hf⟩ := pR_l h59
          refine x_iconst dX6_readHalves_62 li_0 ?_
          refine x_zret dX6_readHalves_63 rfl rfl ?_
          refine qR2_no (f := f) ?_ (e3 f hf) ((p1.tr p2).tr p3) ((l1.tr l2).tr l3)
          unfold rd_on
          simp only [bnd, hx1, hx2, if_pos (show s.1 12 x1 x2 = 0 by omega), hf]
      · refine x_aload_n dX6_readHalves_42 rfl ?_
        refine x_iconst dX6_readHalves_43 li_3 ?_
        refine x_aload_n dX6_readHalves_44 rfl ?_
        refine g_Teller_foundAt fX6_183 dX6_readHalves_45 ?_
        rw [(g2 x2 hx2).2.2.1]
        refine x_cvi (c_wrong (d := d + 5)) kX6_68 dX6_readHalves_48 rfl (Nat.le_of_ble_eq_true rfl) rfl rfl (Nat.le_of_ble_eq_true rfl) (fun ru Mu hq => ?_)
        obtain ⟨rfl, rfl⟩ := hq
        refine x_zret dX6_readHalves_51 rfl rfl ?_
        refine qR2_no (f := (3, tA T e (nx T e s.2.2))) ?_ ⟨by rw [xu_nk (by decide), xu_s], xu_s⟩ ((p1.tr p2).tr (fun a c hac => ?_)) (l1.tr l2)
        · unfold rd_on; simp only [bnd, hx1, hx2, if_neg (show ¬ s.1 12 x1 x2 = 0 by omega)]
        · funext x; rw [xu_ns (by omega), xu_ns (by omega)]
    · obtain ⟨f, hf⟩ := pR_l h21
      refine x_iconst dX6_readHalves_24 li_0 ?_
      refine x_zret dX6_readHalves_25 rfl rfl ?_
      refine qR2_no (f := f) ?_ (e2 f hf) (p1.tr p2) (l1.tr l2)
      unfold rd_on
      simp only [bnd, hx1, hf]
  · obtain ⟨f, hf⟩ := pR_l h5
    refine x_iconst dX6_readHalves_8 li_0 ?_
    refine x_zret dX6_readHalves_9 rfl rfl ?_
    refine qR2_no (f := f) ?_ (e1 f hf) p1 l1
    unfold rd_on
    simp only [bnd, hf]
end Tel10
