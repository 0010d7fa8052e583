section M5
variable {G : xG} {ad : Nat → Nat → Nat} {nb : Nat} {b r : Option Nat} {L : Nat → Nat → Nat → Int64} {V : sV} {I : Nat → Nat → Nat → Int32} {d : Nat}
theorem fd_pos : ∀ k, k < 5 → 1 ≤ fd k := by decide
theorem tol_le2 {g : Nat → Nat} {sort p skill : Nat} (hV : VW V) (hg : ∀ s, s < V 0 2 0 → g s ≤ 99) : tol V g sort p skill ≤ 10692 := by
  have h1 := tls_le2 (land := V 5 p 0) (skill := skill) hV hg (V 0 2 0) (Nat.le_refl _)
  have h2 := hV.2.2.1
  unfold tol
  repeat (first | omega | split)
theorem dgn_le {g : Nat → Nat} {sort p m : Nat} (hV : VW V) (hg : ∀ s, s < V 0 2 0 → g s ≤ 99) : dgn V g sort p m ≤ 10692 := by
  unfold dgn
  split
  · omega
  · exact tol_le2 hV hg
set_option maxRecDepth 100000 in
set_option maxHeartbeats 600000 in
theorem lp_mgone (hV : VW V) {bi : Nat} (hb : b = some bi) (hbn : bi < nb) {N : sN} (hW : NW V N) {t s : Nat} (ht : t < V 0 7 0) (hs : s < V 0 2 0) : ∀ (n : Nat) (k : Nat) (I1 : Nat → Nat → Nat → Int32), 200 - k < n → k ≤ 200 → k + fst (fun H => decide (str V (fun s => N t (3 + s)) H 0 s = 0)) k (200 - k) = fst (fun H => decide (str V (fun s => N t (3 + s)) H 0 s = 0)) 0 200 → MX (xu I 13 0 0 (nI 0)) I1 → YB V bi I1 → (∀ s, s < V 0 2 0 → I1 88 0 s = nI (xf V (ON N t) k s)) → X G vX13_gone (d + 2) (0, 0) 34 [(0, some (.ref (ad 13 0))), (1, some (.int (nI (t)))), (2, some (.int (nI (s)))), (3, some (.int (nI (k))))] [] (MM ad nb b r I1 L) (xT G (qM ad nb b r I L (a_gone V N (nI t) (nI s)))) := by
  have v0 := hV.1
  have v1 := hV.2.1
  have v2 := hV.2.2.1
  have v3 := hV.2.2.2.1
  have v4 := hV.2.2.2.2.1
  have v7 := hV.2.2.2.2.2.2.2.1
  have v9 := hV.2.2.2.2.2.2.2.2.2.1
  have v10 := hV.2.2.2.2.2.2.2.2.2.2.1
  have hk5 := fd_pos _ (hV.2.2.2.2.2.2.2.2.2.2.2.2.2.1 s hs).1
  have hf198 := (hW t ht).2 s (by omega)
  intro n
  induction n with
  | zero => intro k I1 h0; omega
  | succ n ih =>
    intro k I1 hn hk hf hm hB hx
    have hg : ∀ i, i < V 0 2 0 → xf V (ON N t) k i ≤ 198 := fun i hi => xf_le ((hW t ht).2 i (by omega))
    have hgs := hg s hs
    refine x_aload_n dX13_gone_34 rfl ?_
    refine g_M_x fX13_27 dX13_gone_35 ?_
    refine x_iload_n dX13_gone_38 rfl ?_
    refine x_iald dX13_gone_39 rfl rfl (Nat.le_of_ble_eq_true rfl) (by first | exact Nat.le_of_ble_eq_true rfl | assumption | omega) ?_
    refine x_top (hx _ (by first | assumption | omega)) ?_
    refine x_iconst dX13_gone_40 li_1 ?_
    refine x_icN_le 55 dX13_gone_41 (by decide) (by omega) (by omega) (fun h41 => ?_) (fun h41 => ?_)
    · have hz : str V (fun s => N t (3 + s)) k 0 s = 0 := by show xf V (ON N t) k s / 2 = 0; omega
      refine x_aload_n dX13_gone_55 rfl ?_
      refine x_iload_n dX13_gone_56 rfl ?_
      refine x_cvi (m_good (d := d + 1)) kX13_82 dX13_gone_57 rfl (Nat.le_of_ble_eq_true rfl) rfl rfl (Nat.le_of_ble_eq_true rfl) (fun ru Mu hq => ?_)
      obtain ⟨rfl, rfl⟩ := hq
      refine x_iret dX13_gone_60 rfl ?_
      refine qM_ok ?_ hm
      unfold a_gone
      rw [inr_nI (by omega) (by omega), inr_nI (by omega) (by omega), decide_eq_true ht, decide_eq_true hs, zN_nI (by omega), zN_nI (by omega)]
      simp only [Bool.and_self, if_true]
      rw [← hf, fst_t (P := (fun H => decide (str V (fun s => N t (3 + s)) H 0 s = 0))) (decide_eq_true hz)]
    · have hz : ¬ str V (fun s => N t (3 + s)) k 0 s = 0 := by show ¬ xf V (ON N t) k s / 2 = 0; omega
      have hk1 : k < 200 := by
        have h1 : 1 < N t (3 + s) - fd (V 2 s 0) * k := h41
        have h2 : 1 * k ≤ fd (V 2 s 0) * k := Nat.mul_le_mul_right k hk5
        omega
      refine x_aload_n dX13_gone_44 rfl ?_
      refine x_iconst dX13_gone_45 li_1 ?_
      refine x_cvv (m_fades (d := d) (H := 1) hV hb hbn hB (by omega) hx hg) kX13_431 dX13_gone_46 rfl (Nat.le_of_ble_eq_true rfl) rfl rfl (Nat.le_of_ble_eq_true rfl) (fun Mu hq => ?_)
      obtain ⟨I2, rfl, f1, f2, f3⟩ := hq
      refine x_iincN 1 dX13_gone_49 li_1 rfl (by decide) rfl ?_
      refine x_goto 34 dX13_gone_52 (by decide) ?_
      refine x_ls ?_ (ih (k + 1) I2 (by omega) (by omega) (by rw [fst_f (P := (fun H => decide (str V (fun s => N t (3 + s)) H 0 s = 0))) hk1 (decide_eq_false hz)]; exact hf) (hm.tr (MX.of f3 (by unfold msc; omega))) (hB.sm (fun q hq => f3 q (by omega))) (fun i hi => by rw [f1 i hi, xf_add]))
      exact ⟨rfl, rfl, rfl, rfl, trivial⟩
set_option maxRecDepth 100000 in
set_option maxHeartbeats 600000 in
theorem m_gone (hV : VW V) (hO : YO V nb b I) {N : sN} (hW : NW V N) (hN : YN V N I) {z1 z2 : Int32} : Mt G vX13_gone (d + 2) (0, 0) [.ref (ad 13 0), .int (z1), .int (z2)] (MM ad nb b r I L) (qM ad nb b r I L (a_gone V N z1 z2)) := by
  have v0 := hV.1
  have v1 := hV.2.1
  have v2 := hV.2.2.1
  have v3 := hV.2.2.2.1
  have v4 := hV.2.2.2.2.1
  have v7 := hV.2.2.2.2.2.2.2.1
  have v9 := hV.2.2.2.2.2.2.2.2.2.1
  have v10 := hV.2.2.2.2.2.2.2.2.2.2.1
  have hO := hO.sm (I' := (xu I 13 0 0 (nI 0))) (fun q hq => by funext x y; rw [xu_ns (by omega)])
  have hN := hN.sm (I' := (xu I 13 0 0 (nI 0))) (by funext x y; rw [xu_ns (by decide)])
  have hm := MX.rf (I := (xu I 13 0 0 (nI 0)))
  refine x_start (by decide) (Nat.le_of_ble_eq_true rfl) ?_
  refine x_aload_n dX13_gone_0 rfl ?_
  refine x_iconst dX13_gone_1 li_0 ?_
  refine p_M_thrown fX13_72 dX13_gone_2 ?_
  refine x_aload_n dX13_gone_5 rfl ?_
  refine x_iload_n dX13_gone_6 rfl ?_
  refine x_cvi (m_isTraveller' hV hO) kX13_425 dX13_gone_7 rfl (Nat.le_of_ble_eq_true rfl) rfl rfl (Nat.le_of_ble_eq_true rfl) (fun ru Mu hq => ?_)
  obtain ⟨rfl, rfl⟩ := hq
  refine x_if_eq 21 dX13_gone_10 (by decide) (fun h10 => ?_) (fun h10 => ?_)
  · refine x_aload_n dX13_gone_21 rfl ?_
    refine x_iconst dX13_gone_22 li_1 ?_
    refine x_cvi (m_refused) kX13_78 dX13_gone_23 rfl (Nat.le_of_ble_eq_true rfl) rfl rfl (Nat.le_of_ble_eq_true rfl) (fun ru Mu hq => ?_)
    obtain ⟨rfl, rfl⟩ := hq
    refine x_iret dX13_gone_26 rfl ?_
    refine qM_ok (show a_gone V N _ _ = (-1, 1) from if_neg (by first | simp [bI_eq.mp h10] | simp [bI_eq.mp h18])) hm
  · have qt := bI_ne.mp h10
    obtain ⟨t, ht, rfl⟩ := inr_of qt (by omega)
    obtain ⟨bi, hb, hbn, hB⟩ := hO.some (show V 0 7 0 ≠ 0 by omega) (by decide)
    refine x_aload_n dX13_gone_13 rfl ?_
    refine x_iload_n dX13_gone_14 rfl ?_
    refine x_cvi (m_isSmell' hV hO) kX13_419 dX13_gone_15 rfl (Nat.le_of_ble_eq_true rfl) rfl rfl (Nat.le_of_ble_eq_true rfl) (fun ru Mu hq => ?_)
    obtain ⟨rfl, rfl⟩ := hq
    refine x_if_ne 27 dX13_gone_18 (by decide) (fun h18 => ?_) (fun h18 => ?_)
    · have qs := bI_ne.mp h18
      obtain ⟨s, hs, rfl⟩ := inr_of qs (by omega)
      refine x_aload_n dX13_gone_27 rfl ?_
      refine x_iload_n dX13_gone_28 rfl ?_
      refine x_cvv (m_tries (d := d + 1) (t := t) (by omega)) kX13_428 dX13_gone_29 rfl (Nat.le_of_ble_eq_true rfl) rfl rfl (Nat.le_of_ble_eq_true rfl) (fun Mu hq => ?_)
      obtain ⟨I1, rfl, t1, t2⟩ := hq
      have m1 : MX (xu I 13 0 0 (nI 0)) I1 := MX.of t2 (by unfold msc; omega)
      have hx1 : ∀ s, s < V 0 2 0 → I1 88 0 s = nI (xf V (ON N t) 0 s) := fun s hs => by rw [t1 s (by omega), xf_0]; exact (hN t ht).1 s (by omega)
      refine x_iconst dX13_gone_32 li_0 ?_
      refine x_istore_n dX13_gone_33 (by decide) rfl ?_
      refine x_ls ?_ (lp_mgone hV hb hbn hW ht hs 201 0 I1 (by omega) (by omega) (by rw [Nat.zero_add, Nat.sub_zero]) m1 (hB.mx m1) hx1)
      exact ⟨rfl, rfl, rfl, rfl, trivial⟩
    · refine x_aload_n dX13_gone_21 rfl ?_
      refine x_iconst dX13_gone_22 li_1 ?_
      refine x_cvi (m_refused) kX13_78 dX13_gone_23 rfl (Nat.le_of_ble_eq_true rfl) rfl rfl (Nat.le_of_ble_eq_true rfl) (fun ru Mu hq => ?_)
      obtain ⟨rfl, rfl⟩ := hq
      refine x_iret dX13_gone_26 rfl ?_
      refine qM_ok (show a_gone V N _ _ = (-1, 1) from if_neg (by first | simp [bI_eq.mp h10] | simp [bI_eq.mp h18])) hm
set_option maxRecDepth 100000 in
set_option maxHeartbeats 600000 in
theorem lp_mwait (hV : VW V) {bi : Nat} (hb : b = some bi) (hbn : bi < nb) {N : sN} (hW : NW V N) {t q : Nat} (ht : t < V 0 7 0) (hq4 : q < V 0 4 0) : ∀ (n : Nat) (k : Nat) (I1 : Nat → Nat → Nat → Int32), 200 - k < n → k ≤ 200 → k + fst (fun H => decide (dbh V N t q H = 0)) k (200 - k) = fst (fun H => decide (dbh V N t q H = 0)) 0 200 → MX (xu I 13 0 0 (nI 0)) I1 → YB V bi I1 → (∀ s, s < V 0 2 0 → I1 88 0 s = nI (xf V (ON N t) k s)) → (∀ p, p < V 0 4 0 → I1 89 0 p = nO (-2) (V 6 p 0)) → X G vX13_mustWait (d + 4) (0, 0) 38 [(0, some (.ref (ad 13 0))), (1, some (.int (nI (t)))), (2, some (.int (nI (q)))), (3, some (.int (nI (k))))] [] (MM ad nb b r I1 L) (xT G (qM ad nb b r I L (a_mustWait V N (nI t) (nI q)))) := by
  have v0 := hV.1
  have v1 := hV.2.1
  have v2 := hV.2.2.1
  have v3 := hV.2.2.2.1
  have v4 := hV.2.2.2.2.1
  have v7 := hV.2.2.2.2.2.2.2.1
  have v9 := hV.2.2.2.2.2.2.2.2.2.1
  have v10 := hV.2.2.2.2.2.2.2.2.2.2.1
  intro n
  induction n with
  | zero => intro k I1 h0; omega
  | succ n ih =>
    intro k I1 hn hk hf hm hB hx hp
    have hg : ∀ i, i < V 0 2 0 → xf V (ON N t) k i ≤ 198 := fun i hi => xf_le ((hW t ht).2 i (by omega))
    refine x_iload_n dX13_mustWait_38 rfl ?_
    refine x_sipush dX13_mustWait_39 lS_200 ?_
    refine x_icN_ge 71 dX13_mustWait_42 (by decide) (by omega) (by omega) (fun h42 => ?_) (fun h42 => ?_)
    · refine x_aload_n dX13_mustWait_71 rfl ?_
      refine x_sipush dX13_mustWait_72 lS_200 ?_
      refine x_cvi (m_good (d := d + 3)) kX13_82 dX13_mustWait_75 rfl (Nat.le_of_ble_eq_true rfl) rfl rfl (Nat.le_of_ble_eq_true rfl) (fun ru Mu hq => ?_)
      obtain ⟨rfl, rfl⟩ := hq
      refine x_iret dX13_mustWait_78 rfl ?_
      refine qM_ok ?_ hm
      unfold a_mustWait
      rw [inr_nI (by omega) (by omega), inr_nI (by omega) (by omega), decide_eq_true ht, decide_eq_true hq4, zN_nI (by omega), zN_nI (by omega)]
      simp only [Bool.and_self, if_true]
      rw [← hf, show 200 - k = 0 by omega, fst_0, show k + 0 = 200 by omega]
    · refine x_aload_n dX13_mustWait_45 rfl ?_
      refine x_iload_n dX13_mustWait_46 rfl ?_
      refine x_iload_n dX13_mustWait_47 rfl ?_
      refine x_cvi (m_dutyAt (d := d) hV hb hbn hB hx hg (nz := (fun p => V 6 p 0)) hp (fun p hp => (hV.2.2.2.2.2.2.2.2.2.2.2.2.2.2.2.1 p hp).2) ht hq4) kX13_442 dX13_mustWait_48 rfl (Nat.le_of_ble_eq_true rfl) rfl rfl (Nat.le_of_ble_eq_true rfl) (fun ru Mu hq => ?_)
      obtain ⟨rfl, rfl⟩ := hq
      have hdl : dgn V (fun s => xf V (ON N t) k s / 2) (V 9 t 0) q (V 6 q 0) < 2 ^ 31 := by
        unfold dgn
        split
        · omega
        · exact Nat.lt_of_le_of_lt (tol_le2 hV (fun s hs => by have := hg s hs; show xf V (ON N t) k s / 2 ≤ 99; omega)) (by omega)
      refine x_ifN_ne 60 dX13_mustWait_51 (by decide) hdl (fun h51 => ?_) (fun h51 => ?_)
      · have hz : ¬ dbh V N t q k = 0 := by show ¬ dgn V (fun s => xf V (ON N t) k s / 2) (V 9 t 0) q (V 6 q 0) = 0; omega
        refine x_aload_n dX13_mustWait_60 rfl ?_
        refine x_iconst dX13_mustWait_61 li_1 ?_
        refine x_cvv (m_fades (d := d + 2) (H := 1) hV hb hbn hB (by omega) hx hg) kX13_431 dX13_mustWait_62 rfl (Nat.le_of_ble_eq_true rfl) rfl rfl (Nat.le_of_ble_eq_true rfl) (fun Mu hq => ?_)
        obtain ⟨I2, rfl, f1, f2, f3⟩ := hq
        refine x_iincN 1 dX13_mustWait_65 li_1 rfl (by decide) rfl ?_
        refine x_goto 38 dX13_mustWait_68 (by decide) ?_
        refine x_ls ?_ (ih (k + 1) I2 (by omega) (by omega) (by rw [fst_f (P := (fun H => decide (dbh V N t q H = 0))) h42 (decide_eq_false hz)]; exact hf) (hm.tr (MX.of f3 (by unfold msc; omega))) (hB.sm (fun q hq => f3 q (by omega))) (fun i hi => by rw [f1 i hi, xf_add]) (fun p hp4 => by rw [f3 89 (by decide)]; exact hp p hp4))
        exact ⟨rfl, rfl, rfl, rfl, trivial⟩
      · have hz : dbh V N t q k = 0 := by first | exact h51 | (show dgn V (fun s => xf V (ON N t) k s / 2) (V 9 t 0) q (V 6 q 0) = 0; omega)
        refine x_aload_n dX13_mustWait_54 rfl ?_
        refine x_iload_n dX13_mustWait_55 rfl ?_
        refine x_cvi (m_good (d := d + 3)) kX13_82 dX13_mustWait_56 rfl (Nat.le_of_ble_eq_true rfl) rfl rfl (Nat.le_of_ble_eq_true rfl) (fun ru Mu hq => ?_)
        obtain ⟨rfl, rfl⟩ := hq
        refine x_iret dX13_mustWait_59 rfl ?_
        refine qM_ok ?_ hm
        unfold a_mustWait
        rw [inr_nI (by omega) (by omega), inr_nI (by omega) (by omega), decide_eq_true ht, decide_eq_true hq4, zN_nI (by omega), zN_nI (by omega)]
        simp only [Bool.and_self, if_true]
        rw [← hf, fst_t (P := (fun H => decide (dbh V N t q H = 0))) (decide_eq_true hz)]
set_option maxRecDepth 100000 in
set_option maxHeartbeats 600000 in
theorem m_mustWait (hV : VW V) (hO : YO V nb b I) {N : sN} (hW : NW V N) (hN : YN V N I) {z1 z2 : Int32} : Mt G vX13_mustWait (d + 4) (0, 0) [.ref (ad 13 0), .int (z1), .int (z2)] (MM ad nb b r I L) (qM ad nb b r I L (a_mustWait V N z1 z2)) := by
  have v0 := hV.1
  have v1 := hV.2.1
  have v2 := hV.2.2.1
  have v3 := hV.2.2.2.1
  have v4 := hV.2.2.2.2.1
  have v7 := hV.2.2.2.2.2.2.2.1
  have v9 := hV.2.2.2.2.2.2.2.2.2.1
  have v10 := hV.2.2.2.2.2.2.2.2.2.2.1
  have hO := hO.sm (I' := (xu I 13 0 0 (nI 0))) (fun q hq => by funext x y; rw [xu_ns (by omega)])
  have hN := hN.sm (I' := (xu I 13 0 0 (nI 0))) (by funext x y; rw [xu_ns (by decide)])
  have hm := MX.rf (I := (xu I 13 0 0 (nI 0)))
  refine x_start (by decide) (Nat.le_of_ble_eq_true rfl) ?_
  refine x_aload_n dX13_mustWait_0 rfl ?_
  refine x_iconst dX13_mustWait_1 li_0 ?_
  refine p_M_thrown fX13_72 dX13_mustWait_2 ?_
  refine x_aload_n dX13_mustWait_5 rfl ?_
  refine x_iload_n dX13_mustWait_6 rfl ?_
  refine x_cvi (m_isTraveller' hV hO) kX13_425 dX13_mustWait_7 rfl (Nat.le_of_ble_eq_true rfl) rfl rfl (Nat.le_of_ble_eq_true rfl) (fun ru Mu hq => ?_)
  obtain ⟨rfl, rfl⟩ := hq
  refine x_if_eq 21 dX13_mustWait_10 (by decide) (fun h10 => ?_) (fun h10 => ?_)
  · refine x_aload_n dX13_mustWait_21 rfl ?_
    refine x_iconst dX13_mustWait_22 li_1 ?_
    refine x_cvi (m_refused) kX13_78 dX13_mustWait_23 rfl (Nat.le_of_ble_eq_true rfl) rfl rfl (Nat.le_of_ble_eq_true rfl) (fun ru Mu hq => ?_)
    obtain ⟨rfl, rfl⟩ := hq
    refine x_iret dX13_mustWait_26 rfl ?_
    refine qM_ok (show a_mustWait V N _ _ = (-1, 1) from if_neg (by first | simp [bI_eq.mp h10] | simp [bI_eq.mp h18])) hm
  · have qt := bI_ne.mp h10
    obtain ⟨t, ht, rfl⟩ := inr_of qt (by omega)
    obtain ⟨bi, hb, hbn, hB⟩ := hO.some (show V 0 7 0 ≠ 0 by omega) (by decide)
    refine x_aload_n dX13_mustWait_13 rfl ?_
    refine x_iload_n dX13_mustWait_14 rfl ?_
    refine x_cvi (m_isPlace' hV hO) kX13_422 dX13_mustWait_15 rfl (Nat.le_of_ble_eq_true rfl) rfl rfl (Nat.le_of_ble_eq_true rfl) (fun ru Mu hq => ?_)
    obtain ⟨rfl, rfl⟩ := hq
    refine x_if_ne 27 dX13_mustWait_18 (by decide) (fun h18 => ?_) (fun h18 => ?_)
    · have qq := bI_ne.mp h18
      obtain ⟨q, hq, rfl⟩ := inr_of qq (by omega)
      refine x_aload_n dX13_mustWait_27 rfl ?_
      refine x_iload_n dX13_mustWait_28 rfl ?_
      refine x_cvv (m_tries (d := d + 3) (t := t) (by omega)) kX13_428 dX13_mustWait_29 rfl (Nat.le_of_ble_eq_true rfl) rfl rfl (Nat.le_of_ble_eq_true rfl) (fun Mu hq => ?_)
      obtain ⟨I1, rfl, t1, t2⟩ := hq
      have m1 : MX (xu I 13 0 0 (nI 0)) I1 := MX.of t2 (by unfold msc; omega)
      have hx1 : ∀ s, s < V 0 2 0 → I1 88 0 s = nI (xf V (ON N t) 0 s) := fun s hs => by rw [t1 s (by omega), xf_0]; exact (hN t ht).1 s (by omega)
      refine x_aload_n dX13_mustWait_32 rfl ?_
      refine x_cvv (m_posted (d := d + 3) hV hb hbn (hB.mx m1)) kX13_433 dX13_mustWait_33 rfl (Nat.le_of_ble_eq_true rfl) rfl rfl (Nat.le_of_ble_eq_true rfl) (fun Mu hq => ?_)
      obtain ⟨I2, rfl, g1, g2⟩ := hq
      have m2 := m1.tr (MX.of g2 (by unfold msc; omega))
      refine x_iconst dX13_mustWait_36 li_0 ?_
      refine x_istore_n dX13_mustWait_37 (by decide) rfl ?_
      refine x_ls ?_ (lp_mwait hV hb hbn hW ht hq 201 0 I2 (by omega) (by omega) (by rw [Nat.zero_add, Nat.sub_zero]) m2 (hB.mx m2) (fun s hs => by rw [g2 88 (by decide)]; exact hx1 s hs) g1)
      exact ⟨rfl, rfl, rfl, rfl, trivial⟩
    · refine x_aload_n dX13_mustWait_21 rfl ?_
      refine x_iconst dX13_mustWait_22 li_1 ?_
      refine x_cvi (m_refused) kX13_78 dX13_mustWait_23 rfl (Nat.le_of_ble_eq_true rfl) rfl rfl (Nat.le_of_ble_eq_true rfl) (fun ru Mu hq => ?_)
      obtain ⟨rfl, rfl⟩ := hq
      refine x_iret dX13_mustWait_26 rfl ?_
      refine qM_ok (show a_mustWait V N _ _ = (-1, 1) from if_neg (by first | simp [bI_eq.mp h10] | simp [bI_eq.mp h18])) hm

/-- the first of the greatest -/
def am (c : Nat → Nat) : Nat → Nat
  | 0 => 0
  | k + 1 => if c (am c k) < c k then k else am c k
theorem am_lt {c : Nat → Nat} : ∀ n, 0 < n → am c n < n
  | 0, h => absurd h (Nat.lt_irrefl 0)
  | n + 1, _ => by
    unfold am
    split
    · omega
    · rcases Nat.eq_zero_or_pos n with e | e
      · subst e; exact Nat.zero_lt_one
      · have := am_lt (c := c) n e; omega
theorem am_le {c : Nat → Nat} : ∀ n l, l < n → c l ≤ c (am c n)
  | 0, l, h => absurd h (Nat.not_lt_zero l)
  | n + 1, l, h => by
    unfold am
    rcases (show l = n ∨ l < n by omega) with e | e
    · subst e; split <;> omega
    · have := am_le (c := c) n l e
      split <;> omega
theorem clF_am {g : Nat → Nat} : ∀ n, (clF V g n).1 = (if n = 0 then 0 else frl V g (am (fun l => frl V g l (V 0 2 0)) n) (V 0 2 0)) ∧
    (((0 < n ∧ 0 < frl V g (am (fun l => frl V g l (V 0 2 0)) n) (V 0 2 0) ∧ ∀ l, l < n → l ≠ am (fun l => frl V g l (V 0 2 0)) n → frl V g l (V 0 2 0) ≠ frl V g (am (fun l => frl V g l (V 0 2 0)) n) (V 0 2 0)) ∧ (clF V g n).2 = am (fun l => frl V g l (V 0 2 0)) n + 1) ∨
     (¬ (0 < n ∧ 0 < frl V g (am (fun l => frl V g l (V 0 2 0)) n) (V 0 2 0) ∧ ∀ l, l < n → l ≠ am (fun l => frl V g l (V 0 2 0)) n → frl V g l (V 0 2 0) ≠ frl V g (am (fun l => frl V g l (V 0 2 0)) n) (V 0 2 0)) ∧ (clF V g n).2 = 0)) := by
  generalize hc : (fun l => frl V g l (V 0 2 0)) = c
  have e : ∀ l, frl V g l (V 0 2 0) = c l := fun l => by rw [← hc]
  simp only [e]
  intro n
  induction n with
  | zero => exact ⟨rfl, Or.inr ⟨fun z => absurd z.1 (by decide), rfl⟩⟩
  | succ n ih =>
    obtain ⟨h1, h2⟩ := ih
    have hmx := am_le (c := c) n
    rw [if_neg (by omega)]
    unfold clF
    simp only [e]
    rcases Nat.eq_zero_or_pos n with z | z
    · subst z
      have h0 : (clF V g 0).1 = 0 := rfl
      have ha : am c (0 + 1) = 0 := by unfold am; split <;> rfl
      rw [h0, ha]
      by_cases q : 0 < c 0
      · rw [if_pos q]
        exact ⟨rfl, Or.inl ⟨⟨by omega, q, fun l hl hn => absurd hn (by omega)⟩, rfl⟩⟩
      · rw [if_neg q, if_pos (by omega)]
        exact ⟨by show 0 = c 0; omega, Or.inr ⟨fun y => q y.2.1, rfl⟩⟩
    · rw [if_neg (by omega)] at h1
      rw [h1]
      have hal := am_lt (c := c) n z
      by_cases q : c (am c n) < c n
      · have ha : am c (n + 1) = n := by conv => lhs; unfold am
                                         rw [if_pos q]
        rw [if_pos q, ha]
        exact ⟨rfl, Or.inl ⟨⟨by omega, by omega, fun l hl hn => by have := hmx l (by omega); omega⟩, rfl⟩⟩
      · have ha : am c (n + 1) = am c n := by conv => lhs; unfold am
                                              rw [if_neg q]
        rw [if_neg q, ha]
        by_cases q2 : c n = c (am c n)
        · rw [if_pos q2]
          exact ⟨rfl, Or.inr ⟨fun y => y.2.2 n (by omega) (by omega) q2, rfl⟩⟩
        · rw [if_neg q2]
          refine ⟨h1, ?_⟩
          rcases h2 with ⟨k1, k2⟩ | ⟨k1, k2⟩
          · exact Or.inl ⟨⟨by omega, k1.2.1, fun l hl hn => by
              rcases (show l = n ∨ l < n by omega) with y | y
              · rw [y]; exact q2
              · exact k1.2.2 l y hn⟩, k2⟩
          · exact Or.inr ⟨fun y => k1 ⟨by omega, y.2.1, fun l hl hn => y.2.2 l (by omega) hn⟩, k2⟩
theorem frl_le2 {g : Nat → Nat} {l : Nat} (hg : ∀ s, s < V 0 2 0 → g s ≤ 99) : ∀ n, n ≤ V 0 2 0 → frl V g l n ≤ 99 * n
  | 0, _ => Nat.le_refl 0
  | n + 1, h => by
    have h1 := frl_le2 (l := l) hg n (by omega)
    have h4 : unc V g n ≤ 99 := unc_le (hg n (by omega))
    unfold frl
    split <;> omega

end M5
