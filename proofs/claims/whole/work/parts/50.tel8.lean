section Tel8
variable {G : xG} {ad : Nat → Nat → Nat} {nb : Nat} {b r : Option Nat} {L : Nat → Nat → Nat → Int64} {V : sV} {I : Nat → Nat → Nat → Int32} {d : Nat}

theorem pKnown_lt {T : Nat → Nat} {e so a n : Nat} {nm : List (Nat × Nat × Nat)} (h : pKnown T e nm so a = .inr n) (hq : ∀ q ∈ nm, q.2.2 < V 0 q.2.1 0) : n < V 0 so 0 := by
  unfold pKnown at h
  split at h
  · split at h
    · rename_i h1 h2
      cases h
      have hm : nm.getD (nmA T e nm a) (0, 0, 0) ∈ nm := by
        rw [List.getD_eq_getElem?_getD, List.getElem?_eq_getElem h2.1]
        exact List.getElem_mem h2.1
      have := hq _ hm
      rwa [h2.2] at this
    · cases h
  · cases h
theorem XB.whiff {w x : Nat} {I' : Nat → Nat → Nat → Int32} (h : XB V 1 I) (hw : ∀ i, i < 6 → I 29 1 i = nO (-1) (V 17 i 0)) (h16 : I' 16 1 10 = nI (V 0 10 0 + 1)) (k16 : ∀ l, l ≠ 10 → I' 16 1 l = I 16 1 l) (h29 : I' 29 1 w = nI x) (k29 : ∀ l, l ≠ w → I' 29 1 l = I 29 1 l) (ho : ∀ s, 17 ≤ s → s ≤ 37 → s ≠ 29 → I' s = I s) : XB (setV (setV V 17 w 0 (x + 1)) 0 10 0 (V 0 10 0 + 1)) 1 I' ∧ ∀ i, i < 6 → I' 29 1 i = nO (-1) (setV (setV V 17 w 0 (x + 1)) 0 10 0 (V 0 10 0 + 1) 17 i 0) := by
  obtain ⟨x0, x1, x2, x3, x4, x5, x6, x7, x8, x9, x10, x11⟩ := h
  generalize hV' : setV (setV V 17 w 0 (x + 1)) 0 10 0 (V 0 10 0 + 1) = V'
  have vs : ∀ k, k ≠ 10 → V' 0 k 0 = V 0 k 0 := fun k hk => by rw [← hV']; unfold setV; rw [if_neg (fun q => hk q.2.1), if_neg (by omega)]
  have vz : V' 0 10 0 = V 0 10 0 + 1 := by rw [← hV']; exact if_pos ⟨rfl, rfl, rfl⟩
  have vo : ∀ k i j, k ≠ 0 → k ≠ 17 → V' k i j = V k i j := fun k i j h0 h1 => by rw [← hV']; unfold setV; rw [if_neg (fun q => h0 q.1), if_neg (fun q => h1 q.1)]
  have hw' : ∀ i, i < 6 → I' 29 1 i = nO (-1) (V' 17 i 0) := by
    intro i hi
    by_cases e0 : i = w
    · subst e0
      rw [h29, ← hV']
      unfold setV
      rw [if_neg (by omega), if_pos ⟨rfl, rfl, rfl⟩, nO_pos (by omega), Nat.add_sub_cancel]
    · rw [k29 i e0, ← hV']
      unfold setV
      rw [if_neg (by omega), if_neg (fun q => e0 q.2.1)]
      exact hw i hi
  refine ⟨⟨fun k hk => ?_, ?_, ?_, ?_, ?_, ?_, ?_, ?_, fun s hs _ => hw' s hs, ?_, ?_, ?_⟩, hw'⟩
  · by_cases e0 : k = 10
    · subst e0; rw [vz]; exact h16
    · rw [k16 k e0, vs k e0]; exact x0 k hk
  · simp only [vs 1 (by decide), ho 17 (by decide) (by decide) (by decide), vo 1 _ _ (by decide) (by decide)]; exact x1
  · simp only [vs 2 (by decide), ho 18 (by decide) (by decide) (by decide), ho 19 (by decide) (by decide) (by decide), vo 2 _ _ (by decide) (by decide), vo 3 _ _ (by decide) (by decide)]; exact x2
  · simp only [vs 3 (by decide), ho 20 (by decide) (by decide) (by decide), vo 4 _ _ (by decide) (by decide)]; exact x3
  · simp only [vs 4 (by decide), ho 21 (by decide) (by decide) (by decide), ho 22 (by decide) (by decide) (by decide), vo 5 _ _ (by decide) (by decide), vo 6 _ _ (by decide) (by decide)]; exact x4
  · simp only [vs 7 (by decide), ho 23 (by decide) (by decide) (by decide), ho 24 (by decide) (by decide) (by decide), ho 25 (by decide) (by decide) (by decide), vo 9 _ _ (by decide) (by decide), vo 10 _ _ (by decide) (by decide), vo 11 _ _ (by decide) (by decide)]; exact x5
  · simp only [ho 26 (by decide) (by decide) (by decide), vo 13 _ _ (by decide) (by decide)]; exact x6
  · simp only [vs 9 (by decide), ho 27 (by decide) (by decide) (by decide), ho 28 (by decide) (by decide) (by decide), vo 15 _ _ (by decide) (by decide), vo 16 _ _ (by decide) (by decide)]; exact x7
  · simp only [ho 31 (by decide) (by decide) (by decide), ho 33 (by decide) (by decide) (by decide), vo 7 _ _ (by decide) (by decide), vo 8 _ _ (by decide) (by decide)]; exact x9
  · simp only [ho 35 (by decide) (by decide) (by decide), vo 12 _ _ (by decide) (by decide)]; exact x10
  · simp only [ho 37 (by decide) (by decide) (by decide), vo 13 _ _ (by decide) (by decide), vo 14 _ _ (by decide) (by decide)]; exact x11
def rd_whiff (T : Nat → Nat) (e : Nat) (s : pS) : lR := bnd (pKnown T e s.2.1 2 s.2.2) (fun x1 => if s.1 17 x1 0 = 0 then bnd (pWhole T e 0 60 (nx T e s.2.2)) (fun x2 => .inr (setV (setV s.1 17 x1 0 (x2 + 1)) 0 10 0 (s.1 0 10 0 + 1), s.2.1, nx T e (nx T e s.2.2))) else .inl (3, tA T e s.2.2))

set_option maxRecDepth 100000 in
set_option maxHeartbeats 4000000 in
theorem c_read_whiff {T : Nat → Nat} {e : Nat} (hE : e ≤ 1100) (hT : ∀ i, i < e → I 14 0 i = nI (T i)) (hT2 : ∀ i, T i < 256) {s : pS} (hP : PSt T e s I L) (hW : PW s) : Mt G vX6_readWhiff (d + 6) (0, 0) [.ref (ad 6 0)] (MM ad nb b r I L) (qR2 T e ad nb b r I L (rd_whiff T e s)) := by
  have hV := hW.1
  have v0 := hV.1
  have v1 := hV.2.1
  have v2 := hV.2.2.1
  have v3 := hV.2.2.2.1
  have v4 := hV.2.2.2.2.1
  have v7 := hV.2.2.2.2.2.2.2.1
  have v9 := hV.2.2.2.2.2.2.2.2.2.1
  have v10 := hV.2.2.2.2.2.2.2.2.2.2.1
  have m0 : MID T e [16, 29] I L s.2.1 s.2.2 I L := MID.st hP
  have v17 := hV.2.2.2.2.2.2.2.2.2.2.2.2.2.2.2.2.2.2.2.2.2.2.2
  have hta := (tA_le (T := T) hP.1).2
  refine x_start (by decide) (Nat.le_of_ble_eq_true rfl) ?_
  refine x_aload_n dX6_readWhiff_0 rfl ?_
  refine x_iconst dX6_readWhiff_1 li_2 ?_
  refine x_cvi ((c_knownName (d := d) (so := 2) hE hT hT2 m0.1 m0.2.1 m0.2.2.1 (by omega)).wk (fun _ _ h => h.un)) kX6_159 dX6_readWhiff_2 rfl (Nat.le_of_ble_eq_true rfl) rfl rfl (Nat.le_of_ble_eq_true rfl) (fun ru Mu hq => ?_)
  obtain ⟨rfl, I1, L1, rfl, p1, l1, e1, g1⟩ := hq
  refine x_if_ne 10 dX6_readWhiff_5 (by decide) (fun h5 => ?_) (fun h5 => ?_)
  · obtain ⟨x1, hx1⟩ := pR_r h5
    have m1 := m0.u (g1 x1 hx1)
    have hx6 := pKnown_lt (V := s.1) hx1 hW.2.2
    have w1 : I1 29 1 x1 = nO (-1) (s.1 17 x1 0) := by rw [(g1 x1 hx1).2.2.2.2.1 29 (by decide) (by decide)]; exact hP.2.2.2.1 x1 (by omega)
    have v17x := v17 x1
    refine x_aload_n dX6_readWhiff_10 rfl ?_
    refine g_Teller_found fX6_137 dX6_readWhiff_11 ?_
    rw [(g1 x1 hx1).2.1]
    refine x_istore_n dX6_readWhiff_14 (by decide) rfl ?_
    refine x_aload_n dX6_readWhiff_15 rfl ?_
    refine g_Teller_draft fX6_12 dX6_readWhiff_16 ?_
    refine g_Border_whiff fX6_212 dX6_readWhiff_19 (by first | exact Nat.le_of_ble_eq_true rfl | assumption | omega) ?_
    refine x_iload_n dX6_readWhiff_22 rfl ?_
    refine x_iald dX6_readWhiff_23 rfl rfl (Nat.lt_of_lt_of_le (by first | assumption | omega | decide) (Nat.le_refl 2)) (by first | exact Nat.le_of_ble_eq_true rfl | assumption | omega) ?_
    rw [w1]
    refine x_iconst dX6_readWhiff_24 li_m1 ?_
    refine x_ic_eq 38 dX6_readWhiff_25 (by decide) (fun h25 => ?_) (fun h25 => ?_)
    · have hz : s.1 17 x1 0 = 0 := (nO_m1 (by omega)).mp h25
      refine x_aload_n dX6_readWhiff_38 rfl ?_
      refine x_iconst dX6_readWhiff_39 li_0 ?_
      refine x_bipush dX6_readWhiff_40 lb_60 ?_
      refine x_cvi ((c_whole (d := d + 3) (lo := 0) (hi := 60) hE (m1.t hT (by decide)) hT2 m1.1 m1.2.1 (by omega) (by omega)).wk (fun _ _ h => h.un)) kX6_134 dX6_readWhiff_42 rfl (Nat.le_of_ble_eq_true rfl) rfl rfl (Nat.le_of_ble_eq_true rfl) (fun ru Mu hq => ?_)
      obtain ⟨rfl, I2, L2, rfl, p2, l2, e2, g2⟩ := hq
      refine x_if_ne 50 dX6_readWhiff_45 (by decide) (fun h45 => ?_) (fun h45 => ?_)
      · obtain ⟨x2, hx2⟩ := pR_r h45
        have m2 := m1.u (g2 x2 hx2)
        have f16 : I2 16 = I 16 := ((g2 x2 hx2).2.2.2.2.1 16 (by decide) (by decide)).trans ((g1 x1 hx1).2.2.2.2.1 16 (by decide) (by decide))
        have f29 : I2 29 = I 29 := ((g2 x2 hx2).2.2.2.2.1 29 (by decide) (by decide)).trans ((g1 x1 hx1).2.2.2.2.1 29 (by decide) (by decide))
        refine x_aload_n dX6_readWhiff_50 rfl ?_
        refine g_Teller_draft fX6_12 dX6_readWhiff_51 ?_
        refine g_Border_whiff fX6_212 dX6_readWhiff_54 (by first | exact Nat.le_of_ble_eq_true rfl | assumption | omega) ?_
        refine x_iload_n dX6_readWhiff_57 rfl ?_
        refine x_aload_n dX6_readWhiff_58 rfl ?_
        refine g_Teller_found fX6_137 dX6_readWhiff_59 ?_
        rw [(g2 x2 hx2).2.1]
        refine x_iast dX6_readWhiff_62 rfl rfl (Nat.lt_of_lt_of_le (by first | assumption | omega | decide) (Nat.le_refl 2)) (by first | exact Nat.le_of_ble_eq_true rfl | assumption | omega) ?_
        refine x_aload_n dX6_readWhiff_63 rfl ?_
        refine x_bipush dX6_readWhiff_64 lb_10 ?_
        refine x_cvi (c_count' (d := d + 5) (so := 10) (n := s.1 0 10 0) (by rw [xu_ns (by decide), f16]; exact hP.2.2.1.1 10 (by omega)) (by omega)) kX6_149 dX6_readWhiff_66 rfl (Nat.le_of_ble_eq_true rfl) rfl rfl (Nat.le_of_ble_eq_true rfl) (fun ru Mu hq => ?_)
        obtain ⟨rfl, rfl⟩ := hq
        refine x_zret dX6_readWhiff_69 rfl rfl ?_
        have mz := (m2.w (s := 29) (n := x1) (v := nI x2) (by decide) (by decide) (by decide)).w (s := 16) (n := 10) (v := nI (s.1 0 10 0 + 1)) (by decide) (by decide) (by decide)
        have hb := XB.whiff (w := x1) (x := x2) (I' := xu (xu I2 29 1 x1 (nI x2)) 16 1 10 (nI (s.1 0 10 0 + 1))) hP.2.2.1 hP.2.2.2.1 xu_s (fun l hl => by rw [xu_nk hl, xu_ns (by decide), f16]) (by rw [xu_ns (by decide), xu_s]) (fun l hl => by rw [xu_ns (by decide), xu_nk hl, f29]) (fun q h1 h2 h3 => mz.2.2.2.2.2.2 q (by omega) (by omega) (by omega) (by omega) (by simp; omega))
        refine qR2_ok (s := (setV (setV s.1 17 x1 0 (x2 + 1)) 0 10 0 (s.1 0 10 0 + 1), s.2.1, nx T e (nx T e s.2.2))) ?_ ⟨mz.1, mz.2.1, hb.1, hb.2, mz.2.2.1⟩ mz.2.2.2.2.1 mz.2.2.2.2.2.1 mz.2.2.2.1.1 mz.2.2.2.1.2
        unfold rd_whiff
        simp only [bnd, hx1, if_pos hz, hx2]
      · obtain ⟨f, hf⟩ := pR_l h45
        refine x_iconst dX6_readWhiff_48 li_0 ?_
        refine x_zret dX6_readWhiff_49 rfl rfl ?_
        refine qR2_no (f := f) ?_ (e2 f hf) (p1.tr p2) (l1.tr l2)
        unfold rd_whiff
        simp only [bnd, hx1, if_pos hz, hf]
    · have hz : ¬ s.1 17 x1 0 = 0 := fun z => h25 ((nO_m1 (by omega)).mpr z)
      refine x_aload_n dX6_readWhiff_28 rfl ?_
      refine x_iconst dX6_readWhiff_29 li_3 ?_
      refine x_aload_n dX6_readWhiff_30 rfl ?_
      refine g_Teller_foundAt fX6_183 dX6_readWhiff_31 ?_
      rw [(g1 x1 hx1).2.2.1]
      refine x_cvi (c_wrong (d := d + 5)) kX6_68 dX6_readWhiff_34 rfl (Nat.le_of_ble_eq_true rfl) rfl rfl (Nat.le_of_ble_eq_true rfl) (fun ru Mu hq => ?_)
      obtain ⟨rfl, rfl⟩ := hq
      refine x_zret dX6_readWhiff_37 rfl rfl ?_
      refine qR2_no (f := (3, tA T e s.2.2)) ?_ ⟨by rw [xu_nk (by decide), xu_s], xu_s⟩ (p1.tr (fun a c hac => ?_)) l1
      · unfold rd_whiff; simp only [bnd, hx1, if_neg hz]
      · funext x; rw [xu_ns (by omega), xu_ns (by omega)]
  · obtain ⟨f, hf⟩ := pR_l h5
    refine x_iconst dX6_readWhiff_8 li_0 ?_
    refine x_zret dX6_readWhiff_9 rfl rfl ?_
    refine qR2_no (f := f) ?_ (e1 f hf) p1 l1
    unfold rd_whiff
    simp only [bnd, hf]
end Tel8
