section M17
variable {G : xG} {ad : Nat → Nat → Nat} {nb : Nat} {b r : Option Nat} {L : Nat → Nat → Nat → Int64} {V : sV} {I : Nat → Nat → Nat → Int32} {d : Nat}

variable {to : Nat}
theorem pkF_pos {D H : Nat → Nat} {kd : Nat} (h : kd ≠ 2) : ∀ n, 0 < n → pkF D H kd n ≠ 0
  | 0, h0 => absurd h0 (Nat.lt_irrefl 0)
  | n + 1, _ => by
    unfold pkF
    by_cases z : pkF D H kd n = 0
    · rw [if_pos ⟨Or.inl h, Or.inl z⟩]; omega
    · split
      · omega
      · exact z
theorem pk_01 {f : Nat → Nat} {so : Nat} {W : List (List Nat)} (h : pk V f so W 0 ≠ 0) : pk V f so W 1 ≠ 0 := by
  have hl := pkw_le (V := V) (f := f) (so := so) (W := W) (kd := 0)
  exact pkF_pos (by decide) _ (by omega)

set_option maxRecDepth 100000 in
set_option maxHeartbeats 600000 in
theorem m_asksWays (hV : VW V) {bi : Nat} (hb : b = some bi) (hbn : bi < nb) {N : sN} (hW : NW V N) (hB : YB V bi I) (hN : YN V N I) {t : Nat} (ht : t < V 0 7 0) (hto : to < V 0 4 0) : Mt G vX13_asksWays (d + 6) (0, 0) [.ref (ad 13 0), .int (nI (t)), .int (nI (to))] (MM ad nb b r I L) (qV (fun M' => ∃ I', M' = MM ad nb b r I' L ∧ WR V (ON N t) (V 9 t 0) (wys V (N t 0) to) I' ∧ MX I I' ∧ ∀ p, p < V 0 4 0 → I' 89 0 p = nO (-2) (V 6 p 0))) := by
  refine x_start (by decide) (Nat.le_of_ble_eq_true rfl) ?_
  refine x_aload_n dX13_asksWays_0 rfl ?_
  refine x_cvv (m_posted (d := d + 5) hV hb hbn hB) kX13_433 dX13_asksWays_1 rfl (Nat.le_of_ble_eq_true rfl) rfl rfl (Nat.le_of_ble_eq_true rfl) (fun Mu hq => ?_)
  obtain ⟨I1, rfl, g1, g2⟩ := hq
  have m1 : MX I I1 := MX.of g2 (by unfold msc; omega)
  refine x_aload_n dX13_asksWays_4 rfl ?_
  refine x_iload_n dX13_asksWays_5 rfl ?_
  refine x_iload_n dX13_asksWays_6 rfl ?_
  refine x_cvv (m_walksAll (d := d) hV hb hbn hW ht (hB.mx m1) (hN.mx m1) g1 hto) kX13_463 dX13_asksWays_7 rfl (Nat.le_of_ble_eq_true rfl) rfl rfl (Nat.le_of_ble_eq_true rfl) (fun Mu hq => ?_)
  obtain ⟨I2, rfl, w2, f2⟩ := hq
  refine x_vret dX13_asksWays_10 rfl ?_
  exact ⟨rfl, _, rfl, w2, m1.tr f2.mx, fun p hp => by rw [f2.1 89 (by decide) (by decide) (by decide)]; exact g1 p hp⟩
set_option maxRecDepth 100000 in
set_option maxHeartbeats 600000 in
theorem m_quickest (hV : VW V) (hO : YO V nb b I) {N : sN} (hW : NW V N) (hN : YN V N I) {z1 z2 : Int32} : Mt G vX13_quickest (d + 7) (0, 0) [.ref (ad 13 0), .int (z1), .int (z2)] (MM ad nb b r I L) (qM ad nb b r I L (a_way V N 0 z1 z2)) := by
  have v0 := hV.1
  have v1 := hV.2.1
  have v2 := hV.2.2.1
  have v3 := hV.2.2.2.1
  have v4 := hV.2.2.2.2.1
  have v7 := hV.2.2.2.2.2.2.2.1
  have v9 := hV.2.2.2.2.2.2.2.2.2.1
  have v10 := hV.2.2.2.2.2.2.2.2.2.2.1
  have hO := hO.sm (I' := (xu I 13 0 0 (nI 0))) (fun q hq => by funext x y; rw [xu_ns (by omega)])
  have hN := hN.sm (I' := (xu I 13 0 0 (nI 0))) (by funext x y; rw [xu_ns (by decide)])
  have hm := MX.rf (I := (xu I 13 0 0 (nI 0)))
  refine x_start (by decide) (Nat.le_of_ble_eq_true rfl) ?_
  refine x_aload_n dX13_quickest_0 rfl ?_
  refine x_iconst dX13_quickest_1 li_0 ?_
  refine p_M_thrown fX13_72 dX13_quickest_2 ?_
  refine x_aload_n dX13_quickest_5 rfl ?_
  refine x_iload_n dX13_quickest_6 rfl ?_
  refine x_cvi (m_isTraveller' hV hO) kX13_425 dX13_quickest_7 rfl (Nat.le_of_ble_eq_true rfl) rfl rfl (Nat.le_of_ble_eq_true rfl) (fun ru Mu hq => ?_)
  obtain ⟨rfl, rfl⟩ := hq
  refine x_if_eq 21 dX13_quickest_10 (by decide) (fun h10 => ?_) (fun h10 => ?_)
  · refine x_aload_n dX13_quickest_21 rfl ?_
    refine x_iconst dX13_quickest_22 li_1 ?_
    refine x_cvi (m_refused) kX13_78 dX13_quickest_23 rfl (Nat.le_of_ble_eq_true rfl) rfl rfl (Nat.le_of_ble_eq_true rfl) (fun ru Mu hq => ?_)
    obtain ⟨rfl, rfl⟩ := hq
    refine x_iret dX13_quickest_26 rfl ?_
    refine qM_ok (show a_way V N 0 _ _ = (-1, 1) from if_neg (by first | simp [bI_eq.mp h10] | simp [bI_eq.mp h18])) hm
  · have qt := bI_ne.mp h10
    obtain ⟨t, ht, rfl⟩ := inr_of qt (by omega)
    obtain ⟨bi, hb, hbn, hB⟩ := hO.some (show V 0 7 0 ≠ 0 by omega) (by decide)
    refine x_aload_n dX13_quickest_13 rfl ?_
    refine x_iload_n dX13_quickest_14 rfl ?_
    refine x_cvi (m_isPlace' hV hO) kX13_422 dX13_quickest_15 rfl (Nat.le_of_ble_eq_true rfl) rfl rfl (Nat.le_of_ble_eq_true rfl) (fun ru Mu hq => ?_)
    obtain ⟨rfl, rfl⟩ := hq
    refine x_if_ne 27 dX13_quickest_18 (by decide) (fun h18 => ?_) (fun h18 => ?_)
    · have qz := bI_ne.mp h18
      obtain ⟨z, hz, rfl⟩ := inr_of qz (by omega)
      refine x_aload_n dX13_quickest_27 rfl ?_
      refine x_iload_n dX13_quickest_28 rfl ?_
      refine x_iload_n dX13_quickest_29 rfl ?_
      refine x_cvv (m_asksWays (d := d) hV hb hbn hW hB hN ht hz) kX13_466 dX13_quickest_30 rfl (Nat.le_of_ble_eq_true rfl) rfl rfl (Nat.le_of_ble_eq_true rfl) (fun Mu hq => ?_)
      obtain ⟨I1, rfl, w1, m1, p1⟩ := hq
      refine x_aload_n dX13_quickest_33 rfl ?_
      refine x_aload_n dX13_quickest_34 rfl ?_
      refine g_M_bestSize fX13_45 dX13_quickest_35 ?_
      refine x_iconst dX13_quickest_38 li_0 ?_
      refine x_iald dX13_quickest_39 rfl rfl (Nat.le_of_ble_eq_true rfl) (by first | exact Nat.le_of_ble_eq_true rfl | assumption | omega) ?_
      rw [(w1.2.2.2.1).1]
      have hb6 := bsz_6 (V := V) (f := (ON N t)) (so := (V 9 t 0)) (kd := 0) w1.2.1
      have hb0 := bsz_0 (V := V) (f := (ON N t)) (so := (V 9 t 0)) (kd := 0) w1.2.1
      refine x_ifN_ne 48 dX13_quickest_40 (by decide) (by omega) (fun h40 => ?_) (fun h40 => ?_)
      · refine x_aload_n dX13_quickest_48 rfl ?_
        refine g_M_bestHours fX13_48 dX13_quickest_49 ?_
        refine x_iconst dX13_quickest_52 li_0 ?_
        refine x_iald dX13_quickest_53 rfl rfl (Nat.le_of_ble_eq_true rfl) (by first | exact Nat.le_of_ble_eq_true rfl | assumption | omega) ?_
        refine x_cvi (m_good) kX13_82 dX13_quickest_54 rfl (Nat.le_of_ble_eq_true rfl) rfl rfl (Nat.le_of_ble_eq_true rfl) (fun ru Mu hq => ?_)
        obtain ⟨rfl, rfl⟩ := hq
        refine x_iret dX13_quickest_57 rfl ?_
        refine qM_ok ?_ m1
        unfold a_way
        rw [inr_nI (by omega) (by omega), inr_nI (by omega) (by omega), decide_eq_true ht, decide_eq_true hz, zN_nI (by omega), zN_nI (by omega)]
        simp only [Bool.and_self, if_true]
        first
          | (rw [if_pos (show wof V N t z 0 = 0 from hb0.mp h40)])
          | (rw [if_neg (show ¬ wof V N t z 0 = 0 from fun y => by have := hb0.mpr y; omega), ((w1.2.2.2.1).2 (fun y => by have := hb0.mpr y; omega)).1]; rfl)
      · refine x_bipush dX13_quickest_43 lb_m2 ?_
        refine x_goto 54 dX13_quickest_45 (by decide) ?_
        refine x_cvi (m_good) kX13_82 dX13_quickest_54 rfl (Nat.le_of_ble_eq_true rfl) rfl rfl (Nat.le_of_ble_eq_true rfl) (fun ru Mu hq => ?_)
        obtain ⟨rfl, rfl⟩ := hq
        refine x_iret dX13_quickest_57 rfl ?_
        refine qM_ok ?_ m1
        unfold a_way
        rw [inr_nI (by omega) (by omega), inr_nI (by omega) (by omega), decide_eq_true ht, decide_eq_true hz, zN_nI (by omega), zN_nI (by omega)]
        simp only [Bool.and_self, if_true]
        first
          | (rw [if_pos (show wof V N t z 0 = 0 from hb0.mp h40)])
          | (rw [if_neg (show ¬ wof V N t z 0 = 0 from fun y => by have := hb0.mpr y; omega), ((w1.2.2.2.1).2 (fun y => by have := hb0.mpr y; omega)).1]; rfl)
    · refine x_aload_n dX13_quickest_21 rfl ?_
      refine x_iconst dX13_quickest_22 li_1 ?_
      refine x_cvi (m_refused) kX13_78 dX13_quickest_23 rfl (Nat.le_of_ble_eq_true rfl) rfl rfl (Nat.le_of_ble_eq_true rfl) (fun ru Mu hq => ?_)
      obtain ⟨rfl, rfl⟩ := hq
      refine x_iret dX13_quickest_26 rfl ?_
      refine qM_ok (show a_way V N 0 _ _ = (-1, 1) from if_neg (by first | simp [bI_eq.mp h10] | simp [bI_eq.mp h18])) hm
set_option maxRecDepth 100000 in
set_option maxHeartbeats 600000 in
theorem m_cheapest (hV : VW V) (hO : YO V nb b I) {N : sN} (hW : NW V N) (hN : YN V N I) {z1 z2 : Int32} : Mt G vX13_cheapest (d + 7) (0, 0) [.ref (ad 13 0), .int (z1), .int (z2)] (MM ad nb b r I L) (qM ad nb b r I L (a_way V N 1 z1 z2)) := by
  have v0 := hV.1
  have v1 := hV.2.1
  have v2 := hV.2.2.1
  have v3 := hV.2.2.2.1
  have v4 := hV.2.2.2.2.1
  have v7 := hV.2.2.2.2.2.2.2.1
  have v9 := hV.2.2.2.2.2.2.2.2.2.1
  have v10 := hV.2.2.2.2.2.2.2.2.2.2.1
  have hO := hO.sm (I' := (xu I 13 0 0 (nI 0))) (fun q hq => by funext x y; rw [xu_ns (by omega)])
  have hN := hN.sm (I' := (xu I 13 0 0 (nI 0))) (by funext x y; rw [xu_ns (by decide)])
  have hm := MX.rf (I := (xu I 13 0 0 (nI 0)))
  refine x_start (by decide) (Nat.le_of_ble_eq_true rfl) ?_
  refine x_aload_n dX13_cheapest_0 rfl ?_
  refine x_iconst dX13_cheapest_1 li_0 ?_
  refine p_M_thrown fX13_72 dX13_cheapest_2 ?_
  refine x_aload_n dX13_cheapest_5 rfl ?_
  refine x_iload_n dX13_cheapest_6 rfl ?_
  refine x_cvi (m_isTraveller' hV hO) kX13_425 dX13_cheapest_7 rfl (Nat.le_of_ble_eq_true rfl) rfl rfl (Nat.le_of_ble_eq_true rfl) (fun ru Mu hq => ?_)
  obtain ⟨rfl, rfl⟩ := hq
  refine x_if_eq 21 dX13_cheapest_10 (by decide) (fun h10 => ?_) (fun h10 => ?_)
  · refine x_aload_n dX13_cheapest_21 rfl ?_
    refine x_iconst dX13_cheapest_22 li_1 ?_
    refine x_cvi (m_refused) kX13_78 dX13_cheapest_23 rfl (Nat.le_of_ble_eq_true rfl) rfl rfl (Nat.le_of_ble_eq_true rfl) (fun ru Mu hq => ?_)
    obtain ⟨rfl, rfl⟩ := hq
    refine x_iret dX13_cheapest_26 rfl ?_
    refine qM_ok (show a_way V N 1 _ _ = (-1, 1) from if_neg (by first | simp [bI_eq.mp h10] | simp [bI_eq.mp h18])) hm
  · have qt := bI_ne.mp h10
    obtain ⟨t, ht, rfl⟩ := inr_of qt (by omega)
    obtain ⟨bi, hb, hbn, hB⟩ := hO.some (show V 0 7 0 ≠ 0 by omega) (by decide)
    refine x_aload_n dX13_cheapest_13 rfl ?_
    refine x_iload_n dX13_cheapest_14 rfl ?_
    refine x_cvi (m_isPlace' hV hO) kX13_422 dX13_cheapest_15 rfl (Nat.le_of_ble_eq_true rfl) rfl rfl (Nat.le_of_ble_eq_true rfl) (fun ru Mu hq => ?_)
    obtain ⟨rfl, rfl⟩ := hq
    refine x_if_ne 27 dX13_cheapest_18 (by decide) (fun h18 => ?_) (fun h18 => ?_)
    · have qz := bI_ne.mp h18
      obtain ⟨z, hz, rfl⟩ := inr_of qz (by omega)
      refine x_aload_n dX13_cheapest_27 rfl ?_
      refine x_iload_n dX13_cheapest_28 rfl ?_
      refine x_iload_n dX13_cheapest_29 rfl ?_
      refine x_cvv (m_asksWays (d := d) hV hb hbn hW hB hN ht hz) kX13_466 dX13_cheapest_30 rfl (Nat.le_of_ble_eq_true rfl) rfl rfl (Nat.le_of_ble_eq_true rfl) (fun Mu hq => ?_)
      obtain ⟨I1, rfl, w1, m1, p1⟩ := hq
      refine x_aload_n dX13_cheapest_33 rfl ?_
      refine x_aload_n dX13_cheapest_34 rfl ?_
      refine g_M_bestSize fX13_45 dX13_cheapest_35 ?_
      refine x_iconst dX13_cheapest_38 li_1 ?_
      refine x_iald dX13_cheapest_39 rfl rfl (Nat.le_of_ble_eq_true rfl) (by first | exact Nat.le_of_ble_eq_true rfl | assumption | omega) ?_
      rw [(w1.2.2.2.2.1).1]
      have hb6 := bsz_6 (V := V) (f := (ON N t)) (so := (V 9 t 0)) (kd := 1) w1.2.1
      have hb0 := bsz_0 (V := V) (f := (ON N t)) (so := (V 9 t 0)) (kd := 1) w1.2.1
      refine x_ifN_ne 48 dX13_cheapest_40 (by decide) (by omega) (fun h40 => ?_) (fun h40 => ?_)
      · refine x_aload_n dX13_cheapest_48 rfl ?_
        refine g_M_bestDuty fX13_51 dX13_cheapest_49 ?_
        refine x_iconst dX13_cheapest_52 li_1 ?_
        refine x_iald dX13_cheapest_53 rfl rfl (Nat.le_of_ble_eq_true rfl) (by first | exact Nat.le_of_ble_eq_true rfl | assumption | omega) ?_
        refine x_cvi (m_good) kX13_82 dX13_cheapest_54 rfl (Nat.le_of_ble_eq_true rfl) rfl rfl (Nat.le_of_ble_eq_true rfl) (fun ru Mu hq => ?_)
        obtain ⟨rfl, rfl⟩ := hq
        refine x_iret dX13_cheapest_57 rfl ?_
        refine qM_ok ?_ m1
        unfold a_way
        rw [inr_nI (by omega) (by omega), inr_nI (by omega) (by omega), decide_eq_true ht, decide_eq_true hz, zN_nI (by omega), zN_nI (by omega)]
        simp only [Bool.and_self, if_true]
        first
          | (rw [if_pos (show wof V N t z 1 = 0 from hb0.mp h40)])
          | (rw [if_neg (show ¬ wof V N t z 1 = 0 from fun y => by have := hb0.mpr y; omega), ((w1.2.2.2.2.1).2 (fun y => by have := hb0.mpr y; omega)).2.1]; rfl)
      · refine x_bipush dX13_cheapest_43 lb_m2 ?_
        refine x_goto 54 dX13_cheapest_45 (by decide) ?_
        refine x_cvi (m_good) kX13_82 dX13_cheapest_54 rfl (Nat.le_of_ble_eq_true rfl) rfl rfl (Nat.le_of_ble_eq_true rfl) (fun ru Mu hq => ?_)
        obtain ⟨rfl, rfl⟩ := hq
        refine x_iret dX13_cheapest_57 rfl ?_
        refine qM_ok ?_ m1
        unfold a_way
        rw [inr_nI (by omega) (by omega), inr_nI (by omega) (by omega), decide_eq_true ht, decide_eq_true hz, zN_nI (by omega), zN_nI (by omega)]
        simp only [Bool.and_self, if_true]
        first
          | (rw [if_pos (show wof V N t z 1 = 0 from hb0.mp h40)])
          | (rw [if_neg (show ¬ wof V N t z 1 = 0 from fun y => by have := hb0.mpr y; omega), ((w1.2.2.2.2.1).2 (fun y => by have := hb0.mpr y; omega)).2.1]; rfl)
    · refine x_aload_n dX13_cheapest_21 rfl ?_
      refine x_iconst dX13_cheapest_22 li_1 ?_
      refine x_cvi (m_refused) kX13_78 dX13_cheapest_23 rfl (Nat.le_of_ble_eq_true rfl) rfl rfl (Nat.le_of_ble_eq_true rfl) (fun ru Mu hq => ?_)
      obtain ⟨rfl, rfl⟩ := hq
      refine x_iret dX13_cheapest_26 rfl ?_
      refine qM_ok (show a_way V N 1 _ _ = (-1, 1) from if_neg (by first | simp [bI_eq.mp h10] | simp [bI_eq.mp h18])) hm
set_option maxRecDepth 100000 in
set_option maxHeartbeats 600000 in
theorem m_secret (hV : VW V) (hO : YO V nb b I) {N : sN} (hW : NW V N) (hN : YN V N I) {z1 z2 : Int32} : Mt G vX13_secret (d + 7) (0, 0) [.ref (ad 13 0), .int (z1), .int (z2)] (MM ad nb b r I L) (qM ad nb b r I L (a_way V N 2 z1 z2)) := by
  have v0 := hV.1
  have v1 := hV.2.1
  have v2 := hV.2.2.1
  have v3 := hV.2.2.2.1
  have v4 := hV.2.2.2.2.1
  have v7 := hV.2.2.2.2.2.2.2.1
  have v9 := hV.2.2.2.2.2.2.2.2.2.1
  have v10 := hV.2.2.2.2.2.2.2.2.2.2.1
  have hO := hO.sm (I' := (xu I 13 0 0 (nI 0))) (fun q hq => by funext x y; rw [xu_ns (by omega)])
  have hN := hN.sm (I' := (xu I 13 0 0 (nI 0))) (by funext x y; rw [xu_ns (by decide)])
  have hm := MX.rf (I := (xu I 13 0 0 (nI 0)))
  refine x_start (by decide) (Nat.le_of_ble_eq_true rfl) ?_
  refine x_aload_n dX13_secret_0 rfl ?_
  refine x_iconst dX13_secret_1 li_0 ?_
  refine p_M_thrown fX13_72 dX13_secret_2 ?_
  refine x_aload_n dX13_secret_5 rfl ?_
  refine x_iload_n dX13_secret_6 rfl ?_
  refine x_cvi (m_isTraveller' hV hO) kX13_425 dX13_secret_7 rfl (Nat.le_of_ble_eq_true rfl) rfl rfl (Nat.le_of_ble_eq_true rfl) (fun ru Mu hq => ?_)
  obtain ⟨rfl, rfl⟩ := hq
  refine x_if_eq 21 dX13_secret_10 (by decide) (fun h10 => ?_) (fun h10 => ?_)
  · refine x_aload_n dX13_secret_21 rfl ?_
    refine x_iconst dX13_secret_22 li_1 ?_
    refine x_cvi (m_refused) kX13_78 dX13_secret_23 rfl (Nat.le_of_ble_eq_true rfl) rfl rfl (Nat.le_of_ble_eq_true rfl) (fun ru Mu hq => ?_)
    obtain ⟨rfl, rfl⟩ := hq
    refine x_iret dX13_secret_26 rfl ?_
    refine qM_ok (show a_way V N 2 _ _ = (-1, 1) from if_neg (by first | simp [bI_eq.mp h10] | simp [bI_eq.mp h18])) hm
  · have qt := bI_ne.mp h10
    obtain ⟨t, ht, rfl⟩ := inr_of qt (by omega)
    obtain ⟨bi, hb, hbn, hB⟩ := hO.some (show V 0 7 0 ≠ 0 by omega) (by decide)
    refine x_aload_n dX13_secret_13 rfl ?_
    refine x_iload_n dX13_secret_14 rfl ?_
    refine x_cvi (m_isPlace' hV hO) kX13_422 dX13_secret_15 rfl (Nat.le_of_ble_eq_true rfl) rfl rfl (Nat.le_of_ble_eq_true rfl) (fun ru Mu hq => ?_)
    obtain ⟨rfl, rfl⟩ := hq
    refine x_if_ne 27 dX13_secret_18 (by decide) (fun h18 => ?_) (fun h18 => ?_)
    · have qz := bI_ne.mp h18
      obtain ⟨z, hz, rfl⟩ := inr_of qz (by omega)
      refine x_aload_n dX13_secret_27 rfl ?_
      refine x_iload_n dX13_secret_28 rfl ?_
      refine x_iload_n dX13_secret_29 rfl ?_
      refine x_cvv (m_asksWays (d := d) hV hb hbn hW hB hN ht hz) kX13_466 dX13_secret_30 rfl (Nat.le_of_ble_eq_true rfl) rfl rfl (Nat.le_of_ble_eq_true rfl) (fun Mu hq => ?_)
      obtain ⟨I1, rfl, w1, m1, p1⟩ := hq
      refine x_aload_n dX13_secret_33 rfl ?_
      refine x_aload_n dX13_secret_34 rfl ?_
      refine g_M_bestSize fX13_45 dX13_secret_35 ?_
      refine x_iconst dX13_secret_38 li_2 ?_
      refine x_iald dX13_secret_39 rfl rfl (Nat.le_of_ble_eq_true rfl) (by first | exact Nat.le_of_ble_eq_true rfl | assumption | omega) ?_
      rw [(w1.2.2.2.2.2).1]
      have hb6 := bsz_6 (V := V) (f := (ON N t)) (so := (V 9 t 0)) (kd := 2) w1.2.1
      have hb0 := bsz_0 (V := V) (f := (ON N t)) (so := (V 9 t 0)) (kd := 2) w1.2.1
      refine x_ifN_ne 48 dX13_secret_40 (by decide) (by omega) (fun h40 => ?_) (fun h40 => ?_)
      · refine x_aload_n dX13_secret_48 rfl ?_
        refine g_M_bestHours fX13_48 dX13_secret_49 ?_
        refine x_iconst dX13_secret_52 li_2 ?_
        refine x_iald dX13_secret_53 rfl rfl (Nat.le_of_ble_eq_true rfl) (by first | exact Nat.le_of_ble_eq_true rfl | assumption | omega) ?_
        refine x_cvi (m_good) kX13_82 dX13_secret_54 rfl (Nat.le_of_ble_eq_true rfl) rfl rfl (Nat.le_of_ble_eq_true rfl) (fun ru Mu hq => ?_)
        obtain ⟨rfl, rfl⟩ := hq
        refine x_iret dX13_secret_57 rfl ?_
        refine qM_ok ?_ m1
        unfold a_way
        rw [inr_nI (by omega) (by omega), inr_nI (by omega) (by omega), decide_eq_true ht, decide_eq_true hz, zN_nI (by omega), zN_nI (by omega)]
        simp only [Bool.and_self, if_true]
        first
          | (rw [if_pos (show wof V N t z 2 = 0 from hb0.mp h40)])
          | (rw [if_neg (show ¬ wof V N t z 2 = 0 from fun y => by have := hb0.mpr y; omega), ((w1.2.2.2.2.2).2 (fun y => by have := hb0.mpr y; omega)).1]; rfl)
      · refine x_bipush dX13_secret_43 lb_m2 ?_
        refine x_goto 54 dX13_secret_45 (by decide) ?_
        refine x_cvi (m_good) kX13_82 dX13_secret_54 rfl (Nat.le_of_ble_eq_true rfl) rfl rfl (Nat.le_of_ble_eq_true rfl) (fun ru Mu hq => ?_)
        obtain ⟨rfl, rfl⟩ := hq
        refine x_iret dX13_secret_57 rfl ?_
        refine qM_ok ?_ m1
        unfold a_way
        rw [inr_nI (by omega) (by omega), inr_nI (by omega) (by omega), decide_eq_true ht, decide_eq_true hz, zN_nI (by omega), zN_nI (by omega)]
        simp only [Bool.and_self, if_true]
        first
          | (rw [if_pos (show wof V N t z 2 = 0 from hb0.mp h40)])
          | (rw [if_neg (show ¬ wof V N t z 2 = 0 from fun y => by have := hb0.mpr y; omega), ((w1.2.2.2.2.2).2 (fun y => by have := hb0.mpr y; omega)).1]; rfl)
    · refine x_aload_n dX13_secret_21 rfl ?_
      refine x_iconst dX13_secret_22 li_1 ?_
      refine x_cvi (m_refused) kX13_78 dX13_secret_23 rfl (Nat.le_of_ble_eq_true rfl) rfl rfl (Nat.le_of_ble_eq_true rfl) (fun ru Mu hq => ?_)
      obtain ⟨rfl, rfl⟩ := hq
      refine x_iret dX13_secret_26 rfl ?_
      refine qM_ok (show a_way V N 2 _ _ = (-1, 1) from if_neg (by first | simp [bI_eq.mp h10] | simp [bI_eq.mp h18])) hm
set_option maxRecDepth 100000 in
set_option maxHeartbeats 600000 in
theorem m_wayAt (hV : VW V) (hO : YO V nb b I) {N : sN} (hW : NW V N) (hN : YN V N I) {z1 z2 z3 z4 : Int32} : Mt G vX13_wayAt (d + 7) (0, 0) [.ref (ad 13 0), .int (z1), .int (z2), .int (z3), .int (z4)] (MM ad nb b r I L) (qM ad nb b r I L (a_wayAt V N z1 z2 z3 z4)) := by
  have v0 := hV.1
  have v1 := hV.2.1
  have v2 := hV.2.2.1
  have v3 := hV.2.2.2.1
  have v4 := hV.2.2.2.2.1
  have v7 := hV.2.2.2.2.2.2.2.1
  have v9 := hV.2.2.2.2.2.2.2.2.2.1
  have v10 := hV.2.2.2.2.2.2.2.2.2.2.1
  have hO := hO.sm (I' := (xu I 13 0 0 (nI 0))) (fun q hq => by funext x y; rw [xu_ns (by omega)])
  have hN := hN.sm (I' := (xu I 13 0 0 (nI 0))) (by funext x y; rw [xu_ns (by decide)])
  have hm := MX.rf (I := (xu I 13 0 0 (nI 0)))
  refine x_start (by decide) (Nat.le_of_ble_eq_true rfl) ?_
  refine x_aload_n dX13_wayAt_0 rfl ?_
  refine x_iconst dX13_wayAt_1 li_0 ?_
  refine p_M_thrown fX13_72 dX13_wayAt_2 ?_
  refine x_iload_n dX13_wayAt_5 rfl ?_
  refine x_iconst dX13_wayAt_6 li_0 ?_
  refine x_iconst dX13_wayAt_7 li_2 ?_
  refine x_csi (m_in) kX13_150 dX13_wayAt_8 rfl rfl (Nat.le_of_ble_eq_true rfl) (fun ru Mu hq => ?_)
  obtain ⟨rfl, rfl⟩ := hq
  refine x_if_eq 30 dX13_wayAt_11 (by decide) (fun h11 => ?_) (fun h11 => ?_)
  · refine x_aload_n dX13_wayAt_30 rfl ?_
    refine x_iconst dX13_wayAt_31 li_1 ?_
    refine x_cvi (m_refused) kX13_78 dX13_wayAt_32 rfl (Nat.le_of_ble_eq_true rfl) rfl rfl (Nat.le_of_ble_eq_true rfl) (fun ru Mu hq => ?_)
    obtain ⟨rfl, rfl⟩ := hq
    refine x_iret dX13_wayAt_35 rfl ?_
    refine qM_ok (show a_wayAt V N _ _ _ _ = (-1, 1) from if_neg (by first | simp [bI_eq.mp h11] | simp [bI_eq.mp h19] | simp [bI_eq.mp h27])) hm
  · have qk := bI_ne.mp h11
    obtain ⟨kd, _, hkd, rfl⟩ := wth_of qk (by omega) (by omega)
    refine x_aload_n dX13_wayAt_14 rfl ?_
    refine x_iload_n dX13_wayAt_15 rfl ?_
    refine x_cvi (m_isTraveller' hV hO) kX13_425 dX13_wayAt_16 rfl (Nat.le_of_ble_eq_true rfl) rfl rfl (Nat.le_of_ble_eq_true rfl) (fun ru Mu hq => ?_)
    obtain ⟨rfl, rfl⟩ := hq
    refine x_if_eq 30 dX13_wayAt_19 (by decide) (fun h19 => ?_) (fun h19 => ?_)
    · refine x_aload_n dX13_wayAt_30 rfl ?_
      refine x_iconst dX13_wayAt_31 li_1 ?_
      refine x_cvi (m_refused) kX13_78 dX13_wayAt_32 rfl (Nat.le_of_ble_eq_true rfl) rfl rfl (Nat.le_of_ble_eq_true rfl) (fun ru Mu hq => ?_)
      obtain ⟨rfl, rfl⟩ := hq
      refine x_iret dX13_wayAt_35 rfl ?_
      refine qM_ok (show a_wayAt V N _ _ _ _ = (-1, 1) from if_neg (by first | simp [bI_eq.mp h11] | simp [bI_eq.mp h19] | simp [bI_eq.mp h27])) hm
    · have qt := bI_ne.mp h19
      obtain ⟨t, ht, rfl⟩ := inr_of qt (by omega)
      obtain ⟨bi, hb, hbn, hB⟩ := hO.some (show V 0 7 0 ≠ 0 by omega) (by decide)
      refine x_aload_n dX13_wayAt_22 rfl ?_
      refine x_iload_n dX13_wayAt_23 rfl ?_
      refine x_cvi (m_isPlace' hV hO) kX13_422 dX13_wayAt_24 rfl (Nat.le_of_ble_eq_true rfl) rfl rfl (Nat.le_of_ble_eq_true rfl) (fun ru Mu hq => ?_)
      obtain ⟨rfl, rfl⟩ := hq
      refine x_if_ne 36 dX13_wayAt_27 (by decide) (fun h27 => ?_) (fun h27 => ?_)
      · have qz := bI_ne.mp h27
        obtain ⟨z, hz, rfl⟩ := inr_of qz (by omega)
        refine x_aload_n dX13_wayAt_36 rfl ?_
        refine x_iload_n dX13_wayAt_37 rfl ?_
        refine x_iload_n dX13_wayAt_38 rfl ?_
        refine x_cvv (m_asksWays (d := d) hV hb hbn hW hB hN ht hz) kX13_466 dX13_wayAt_39 rfl (Nat.le_of_ble_eq_true rfl) rfl rfl (Nat.le_of_ble_eq_true rfl) (fun Mu hq => ?_)
        obtain ⟨I1, rfl, w1, m1, p1⟩ := hq
        have hba : BA V (ON N t) (V 9 t 0) (wys V (N t 0) z) kd I1 := by
          rcases (show kd = 0 ∨ kd = 1 ∨ kd = 2 by omega) with rfl | rfl | rfl
          · exact w1.2.2.2.1
          · exact w1.2.2.2.2.1
          · exact w1.2.2.2.2.2
        have hb6 := bsz_6 (V := V) (f := (ON N t)) (so := (V 9 t 0)) (kd := kd) w1.2.1
        have hb0 := bsz_0 (V := V) (f := (ON N t)) (so := (V 9 t 0)) (kd := kd) w1.2.1
        refine x_iload dX13_wayAt_42 rfl ?_
        refine x_if_lt 77 dX13_wayAt_44 (by decide) (fun h44 => ?_) (fun h44 => ?_)
        · have qi : inr z4 (bsz V (ON N t) (V 9 t 0) (wys V (N t 0) z) kd) = false := decide_eq_false (fun k => k.1 h44)
          refine x_aload_n dX13_wayAt_77 rfl ?_
          refine x_iconst dX13_wayAt_78 li_1 ?_
          refine x_cvi (m_refused) kX13_78 dX13_wayAt_79 rfl (Nat.le_of_ble_eq_true rfl) rfl rfl (Nat.le_of_ble_eq_true rfl) (fun ru Mu hq => ?_)
          obtain ⟨rfl, rfl⟩ := hq
          refine x_iret dX13_wayAt_82 rfl ?_
          first
            | (refine qM_ok (show a_wayAt V N _ _ _ _ = _ from ?_) m1; unfold a_wayAt; rw [if_pos (by rw [qk, qt, qz]; rfl), zN_nI (by omega), zN_nI (by omega), zN_nI (by omega), zN_nI (by omega), if_neg hpk, ← elen, if_pos qi]; rfl)
            | (refine qM_ok (show a_wayAt V N _ _ _ _ = (-1, 1) from ?_) m1; unfold a_wayAt; rw [if_pos (by rw [qk, qt, qz]; rfl), zN_nI (by omega), zN_nI (by omega), zN_nI (by omega)]; by_cases y : wof V N t z kd = 0; exact if_pos y; rw [if_neg y, if_neg (by rw [show ((wys V (N t 0) z).getD (wof V N t z kd - 1) []).length = bsz V (ON N t) (V 9 t 0) (wys V (N t 0) z) kd from (if_neg y).symm, qi]; decide)])
        · refine x_iload dX13_wayAt_47 rfl ?_
          refine x_aload_n dX13_wayAt_49 rfl ?_
          refine g_M_bestSize fX13_45 dX13_wayAt_50 ?_
          refine x_iload_n dX13_wayAt_53 rfl ?_
          refine x_iald dX13_wayAt_54 rfl rfl (Nat.le_of_ble_eq_true rfl) (by first | exact Nat.le_of_ble_eq_true rfl | assumption | omega) ?_
          rw [hba.1]
          refine x_ic_ge 77 dX13_wayAt_55 (by decide) (fun h55 => ?_) (fun h55 => ?_)
          · have qi : inr z4 (bsz V (ON N t) (V 9 t 0) (wys V (N t 0) z) kd) = false := decide_eq_false (fun k => k.2 h55)
            refine x_aload_n dX13_wayAt_77 rfl ?_
            refine x_iconst dX13_wayAt_78 li_1 ?_
            refine x_cvi (m_refused) kX13_78 dX13_wayAt_79 rfl (Nat.le_of_ble_eq_true rfl) rfl rfl (Nat.le_of_ble_eq_true rfl) (fun ru Mu hq => ?_)
            obtain ⟨rfl, rfl⟩ := hq
            refine x_iret dX13_wayAt_82 rfl ?_
            first
              | (refine qM_ok (show a_wayAt V N _ _ _ _ = _ from ?_) m1; unfold a_wayAt; rw [if_pos (by rw [qk, qt, qz]; rfl), zN_nI (by omega), zN_nI (by omega), zN_nI (by omega), zN_nI (by omega), if_neg hpk, ← elen, if_pos qi]; rfl)
              | (refine qM_ok (show a_wayAt V N _ _ _ _ = (-1, 1) from ?_) m1; unfold a_wayAt; rw [if_pos (by rw [qk, qt, qz]; rfl), zN_nI (by omega), zN_nI (by omega), zN_nI (by omega)]; by_cases y : wof V N t z kd = 0; exact if_pos y; rw [if_neg y, if_neg (by rw [show ((wys V (N t 0) z).getD (wof V N t z kd - 1) []).length = bsz V (ON N t) (V 9 t 0) (wys V (N t 0) z) kd from (if_neg y).symm, qi]; decide)])
          · have qi : inr z4 (bsz V (ON N t) (V 9 t 0) (wys V (N t 0) z) kd) = true := decide_eq_true ⟨h44, h55⟩
            obtain ⟨i, hi, rfl⟩ := inr_of qi (by omega)
            have hpk : wof V N t z kd ≠ 0 := fun y => by have := hb0.mpr y; omega
            have elen : bsz V (ON N t) (V 9 t 0) (wys V (N t 0) z) kd = ((wys V (N t 0) z).getD (wof V N t z kd - 1) []).length := if_neg hpk
            refine x_aload_n dX13_wayAt_58 rfl ?_
            refine x_aload_n dX13_wayAt_59 rfl ?_
            refine g_M_best fX13_42 dX13_wayAt_60 ?_
            refine x_bipush dX13_wayAt_63 lb_6 ?_
            refine x_iload_n dX13_wayAt_65 rfl ?_
            refine x_imulN dX13_wayAt_66 ?_
            refine x_iload dX13_wayAt_67 rfl ?_
            refine x_iaddN dX13_wayAt_69 ?_
            refine x_iald dX13_wayAt_70 rfl rfl (Nat.le_of_ble_eq_true rfl) (by first | exact Nat.le_of_ble_eq_true rfl | assumption | omega) ?_
            rw [(hba.2 hpk).2.2 i (by rw [show pk V (ON N t) (V 9 t 0) (wys V (N t 0) z) kd = wof V N t z kd from rfl, ← elen]; exact hi)]
            refine x_cvi (m_good) kX13_82 dX13_wayAt_71 rfl (Nat.le_of_ble_eq_true rfl) rfl rfl (Nat.le_of_ble_eq_true rfl) (fun ru Mu hq => ?_)
            obtain ⟨rfl, rfl⟩ := hq
            refine x_goto 82 dX13_wayAt_74 (by decide) ?_
            refine x_iret dX13_wayAt_82 rfl ?_
            first
              | (refine qM_ok (show a_wayAt V N _ _ _ _ = _ from ?_) m1; unfold a_wayAt; rw [if_pos (by rw [qk, qt, qz]; rfl), zN_nI (by omega), zN_nI (by omega), zN_nI (by omega), zN_nI (by omega), if_neg hpk, ← elen, if_pos qi]; rfl)
              | (refine qM_ok (show a_wayAt V N _ _ _ _ = (-1, 1) from ?_) m1; unfold a_wayAt; rw [if_pos (by rw [qk, qt, qz]; rfl), zN_nI (by omega), zN_nI (by omega), zN_nI (by omega)]; by_cases y : wof V N t z kd = 0; exact if_pos y; rw [if_neg y, if_neg (by rw [show ((wys V (N t 0) z).getD (wof V N t z kd - 1) []).length = bsz V (ON N t) (V 9 t 0) (wys V (N t 0) z) kd from (if_neg y).symm, qi]; decide)])
      · refine x_aload_n dX13_wayAt_30 rfl ?_
        refine x_iconst dX13_wayAt_31 li_1 ?_
        refine x_cvi (m_refused) kX13_78 dX13_wayAt_32 rfl (Nat.le_of_ble_eq_true rfl) rfl rfl (Nat.le_of_ble_eq_true rfl) (fun ru Mu hq => ?_)
        obtain ⟨rfl, rfl⟩ := hq
        refine x_iret dX13_wayAt_35 rfl ?_
        refine qM_ok (show a_wayAt V N _ _ _ _ = (-1, 1) from if_neg (by first | simp [bI_eq.mp h11] | simp [bI_eq.mp h19] | simp [bI_eq.mp h27])) hm

set_option maxRecDepth 100000 in
set_option maxHeartbeats 600000 in
theorem lp_mrin (hV : VW V) {bi : Nat} (hb : b = some bi) (hbn : bi < nb) {N : sN} (hW : NW V N) (hB : YB V bi (xu I 13 0 0 (nI 0))) (h0 : 0 < V 0 0 0) (hN : YN V N (xu I 13 0 0 (nI 0))) {t : Nat} (ht : t < V 0 7 0) (kc : ∀ I2, MX (xu I 13 0 0 (nI 0)) I2 → X G vX13_rounds (d + 7) (0, 0) 90 [(0, some (.ref (ad 13 0))), (1, some (.int (nI (sm (fun t => cnt (rnd V N t) (V 0 4 0)) t + cnt (rnd V N t) (V 0 4 0))))), (2, some (.int (nI (t))))] [] (MM ad nb b r I2 L) (xT G (qM ad nb b r I L (a_rounds V N)))) : ∀ (n : Nat) (z : Nat) (Ia : Nat → Nat → Nat → Int32), V 0 4 0 - z < n → z ≤ V 0 4 0 → MX (xu I 13 0 0 (nI 0)) Ia → X G vX13_rounds (d + 7) (0, 0) 35 [(0, some (.ref (ad 13 0))), (1, some (.int (nI (sm (fun t => cnt (rnd V N t) (V 0 4 0)) t + cnt (rnd V N t) z)))), (2, some (.int (nI (t)))), (3, some (.int (nI (z))))] [] (MM ad nb b r Ia L) (xT G (qM ad nb b r I L (a_rounds V N))) := by
  have v0 := hV.1
  have v1 := hV.2.1
  have v2 := hV.2.2.1
  have v3 := hV.2.2.2.1
  have v4 := hV.2.2.2.2.1
  have v7 := hV.2.2.2.2.2.2.2.1
  have v9 := hV.2.2.2.2.2.2.2.2.2.1
  have v10 := hV.2.2.2.2.2.2.2.2.2.2.1
  intro n
  induction n with
  | zero => intro z Ia h0; omega
  | succ n ih =>
    intro z Ia hn hz4 hm
    have hB1 := hB.mx hm
    refine x_iload_n dX13_rounds_35 rfl ?_
    refine x_aload_n dX13_rounds_36 rfl ?_
    refine g_M_border hb fX13_397 dX13_rounds_37 ?_
    refine g_MB_places fX13_230 dX13_rounds_40 hbn ?_
    refine x_top (y12_4 hB1) ?_
    refine x_icN_ge 90 dX13_rounds_43 (by decide) (by omega) (by omega) (fun h43 => ?_) (fun h43 => ?_)
    · obtain rfl : z = V 0 4 0 := by omega
      refine x_ls ?_ (kc Ia hm)
      exact ⟨rfl, rfl, rfl, trivial⟩
    · refine x_aload_n dX13_rounds_46 rfl ?_
      refine x_iload_n dX13_rounds_47 rfl ?_
      refine x_iload_n dX13_rounds_48 rfl ?_
      refine x_cvv (m_asksWays (d := d) hV hb hbn hW hB1 (hN.mx hm) ht h43) kX13_466 dX13_rounds_49 rfl (Nat.le_of_ble_eq_true rfl) rfl rfl (Nat.le_of_ble_eq_true rfl) (fun Mu hq => ?_)
      obtain ⟨I1, rfl, w1, m1, p1⟩ := hq
      have b0 := w1.2.2.2.1
      have b1 := w1.2.2.2.2.1
      have hl0 := pkw_le (V := V) (f := (ON N t)) (so := (V 9 t 0)) (W := (wys V (N t 0) z)) (kd := 0)
      have hl1 := pkw_le (V := V) (f := (ON N t)) (so := (V 9 t 0)) (W := (wys V (N t 0) z)) (kd := 1)
      have hb6 := bsz_6 (V := V) (f := (ON N t)) (so := (V 9 t 0)) (kd := 0) w1.2.1
      have hb0 := bsz_0 (V := V) (f := (ON N t)) (so := (V 9 t 0)) (kd := 0) w1.2.1
      refine x_iload_n dX13_rounds_52 rfl ?_
      refine x_aload_n dX13_rounds_53 rfl ?_
      refine g_M_bestSize fX13_45 dX13_rounds_54 ?_
      refine x_iconst dX13_rounds_57 li_0 ?_
      refine x_iald dX13_rounds_58 rfl rfl (Nat.le_of_ble_eq_true rfl) (by first | exact Nat.le_of_ble_eq_true rfl | assumption | omega) ?_
      rw [b0.1]
      refine x_ifN_le 81 dX13_rounds_59 (by decide) (by omega) (fun h59 => ?_) (fun h59 => ?_)
      · have ec : some (Value.int (nI (sm (fun t => cnt (rnd V N t) (V 0 4 0)) t + cnt (rnd V N t) z + 0))) = some (Value.int (nI (sm (fun t => cnt (rnd V N t) (V 0 4 0)) t + cnt (rnd V N t) (z + 1)))) := by rw [show cnt (rnd V N t) (z + 1) = cnt (rnd V N t) z + 0 by show _ + _ = _; rw [if_neg (by unfold rnd; rw [decide_eq_false (show ¬ wof V N t z 0 ≠ 0 from fun y => y (hb0.mp (by omega)))]; simp)]]; rfl
        refine x_iconst dX13_rounds_81 li_0 ?_
        refine x_iaddN dX13_rounds_82 ?_
        refine x_istore_n dX13_rounds_83 (by decide) rfl ?_
        refine x_iincN 1 dX13_rounds_84 li_1 rfl (by decide) rfl ?_
        refine x_goto 35 dX13_rounds_87 (by decide) ?_
        refine x_ls ?_ (ih (z + 1) I1 (by omega) (by omega) (hm.tr m1))
        exact ⟨rfl, ec, rfl, rfl, trivial⟩
      · refine x_aload_n dX13_rounds_62 rfl ?_
        refine g_M_bestDuty fX13_51 dX13_rounds_63 ?_
        refine x_iconst dX13_rounds_66 li_1 ?_
        refine x_iald dX13_rounds_67 rfl rfl (Nat.le_of_ble_eq_true rfl) (by first | exact Nat.le_of_ble_eq_true rfl | assumption | omega) ?_
        have hp0 : pk V (ON N t) (V 9 t 0) (wys V (N t 0) z) 0 ≠ 0 := fun y => by have := hb0.mpr y; omega
        have hp1 := pk_01 hp0
        have d0 := dW_le (f := ON N t) (so := (V 9 t 0)) hV (fun s hs => (hW t ht).2 s hs) w1.2.1 (k := pk V (ON N t) (V 9 t 0) (wys V (N t 0) z) 0 - 1) (by omega)
        have d1 := dW_le (f := ON N t) (so := (V 9 t 0)) hV (fun s hs => (hW t ht).2 s hs) w1.2.1 (k := pk V (ON N t) (V 9 t 0) (wys V (N t 0) z) 1 - 1) (by omega)
        rw [(b1.2 hp1).2.1]
        refine x_aload_n dX13_rounds_68 rfl ?_
        refine g_M_bestDuty fX13_51 dX13_rounds_69 ?_
        refine x_iconst dX13_rounds_72 li_0 ?_
        refine x_iald dX13_rounds_73 rfl rfl (Nat.le_of_ble_eq_true rfl) (by first | exact Nat.le_of_ble_eq_true rfl | assumption | omega) ?_
        rw [(b0.2 hp0).2.1]
        refine x_icN_ge 81 dX13_rounds_74 (by decide) (by omega) (by omega) (fun h74 => ?_) (fun h74 => ?_)
        · have ec : some (Value.int (nI (sm (fun t => cnt (rnd V N t) (V 0 4 0)) t + cnt (rnd V N t) z + 0))) = some (Value.int (nI (sm (fun t => cnt (rnd V N t) (V 0 4 0)) t + cnt (rnd V N t) (z + 1)))) := by rw [show cnt (rnd V N t) (z + 1) = cnt (rnd V N t) z + 0 by show _ + _ = _; rw [if_neg (by unfold rnd; rw [decide_eq_false (show ¬ dW V (fun s => N t (3 + s)) (V 9 t 0) (wys V (N t 0) z) (wof V N t z 1 - 1) < dW V (fun s => N t (3 + s)) (V 9 t 0) (wys V (N t 0) z) (wof V N t z 0 - 1) from Nat.not_lt.mpr h74)]; simp)]]; rfl
          refine x_iconst dX13_rounds_81 li_0 ?_
          refine x_iaddN dX13_rounds_82 ?_
          refine x_istore_n dX13_rounds_83 (by decide) rfl ?_
          refine x_iincN 1 dX13_rounds_84 li_1 rfl (by decide) rfl ?_
          refine x_goto 35 dX13_rounds_87 (by decide) ?_
          refine x_ls ?_ (ih (z + 1) I1 (by omega) (by omega) (hm.tr m1))
          exact ⟨rfl, ec, rfl, rfl, trivial⟩
        · have ec : some (Value.int (nI (sm (fun t => cnt (rnd V N t) (V 0 4 0)) t + cnt (rnd V N t) z + 1))) = some (Value.int (nI (sm (fun t => cnt (rnd V N t) (V 0 4 0)) t + cnt (rnd V N t) (z + 1)))) := by rw [show cnt (rnd V N t) (z + 1) = cnt (rnd V N t) z + 1 by show _ + _ = _; rw [if_pos (by unfold rnd; rw [decide_eq_true (show wof V N t z 0 ≠ 0 from hp0), decide_eq_true (show wof V N t z 1 ≠ 0 from hp1), decide_eq_true (show dW V (fun s => N t (3 + s)) (V 9 t 0) (wys V (N t 0) z) (wof V N t z 1 - 1) < dW V (fun s => N t (3 + s)) (V 9 t 0) (wys V (N t 0) z) (wof V N t z 0 - 1) from h74)]; rfl)]]; rfl
          refine x_iconst dX13_rounds_77 li_1 ?_
          refine x_goto 82 dX13_rounds_78 (by decide) ?_
          refine x_iaddN dX13_rounds_82 ?_
          refine x_istore_n dX13_rounds_83 (by decide) rfl ?_
          refine x_iincN 1 dX13_rounds_84 li_1 rfl (by decide) rfl ?_
          refine x_goto 35 dX13_rounds_87 (by decide) ?_
          refine x_ls ?_ (ih (z + 1) I1 (by omega) (by omega) (hm.tr m1))
          exact ⟨rfl, ec, rfl, rfl, trivial⟩
set_option maxRecDepth 100000 in
set_option maxHeartbeats 600000 in
theorem m_rounds0 (hn : b = none) (hz : ∀ k, k < 12 → V 0 k 0 = 0) {N : sN} : Mt G vX13_rounds (d + 7) (0, 0) [.ref (ad 13 0)] (MM ad nb b r I L) (qM ad nb b r I L (a_rounds V N)) := by
  have hm := MX.rf (I := (xu I 13 0 0 (nI 0)))
  refine x_start (by decide) (Nat.le_of_ble_eq_true rfl) ?_
  refine x_aload_n dX13_rounds_0 rfl ?_
  refine x_iconst dX13_rounds_1 li_0 ?_
  refine p_M_thrown fX13_72 dX13_rounds_2 ?_
  refine x_aload_n dX13_rounds_5 rfl ?_
  refine g_M_borderN hn fX13_397 dX13_rounds_6 ?_
  refine x_ifnonnullN dX13_rounds_9 ?_
  refine x_aload_n dX13_rounds_12 rfl ?_
  refine x_iconst dX13_rounds_13 li_1 ?_
  refine x_cvi (m_refused) kX13_78 dX13_rounds_14 rfl (Nat.le_of_ble_eq_true rfl) rfl rfl (Nat.le_of_ble_eq_true rfl) (fun ru Mu hq => ?_)
  obtain ⟨rfl, rfl⟩ := hq
  refine x_iret dX13_rounds_17 rfl ?_
  refine qM_ok (show a_rounds V N = (-1, 1) from if_neg (by rw [hz 0 (by decide)]; decide)) hm
set_option maxRecDepth 100000 in
set_option maxHeartbeats 600000 in
theorem m_rounds1 (hV : VW V) {bi : Nat} (hb : b = some bi) (hbn : bi < nb) {N : sN} (hW : NW V N) (hB : YB V bi I) (h0 : 0 < V 0 0 0) (hN : YN V N I) : Mt G vX13_rounds (d + 7) (0, 0) [.ref (ad 13 0)] (MM ad nb b r I L) (qM ad nb b r I L (a_rounds V N)) := by
  have v0 := hV.1
  have v1 := hV.2.1
  have v2 := hV.2.2.1
  have v3 := hV.2.2.2.1
  have v4 := hV.2.2.2.2.1
  have v7 := hV.2.2.2.2.2.2.2.1
  have v9 := hV.2.2.2.2.2.2.2.2.2.1
  have v10 := hV.2.2.2.2.2.2.2.2.2.2.1
  have hB := hB.sm (I' := (xu I 13 0 0 (nI 0))) (fun q hq => by funext x y; rw [xu_ns (by omega)])
  have hN := hN.sm (I' := (xu I 13 0 0 (nI 0))) (by funext x y; rw [xu_ns (by decide)])
  have hm := MX.rf (I := (xu I 13 0 0 (nI 0)))
  have loop22 : ∀ (n : Nat) (t : Nat) (Ia : Nat → Nat → Nat → Int32), V 0 7 0 - t < n → t ≤ V 0 7 0 → MX (xu I 13 0 0 (nI 0)) Ia → X G vX13_rounds (d + 7) (0, 0) 22 [(0, some (.ref (ad 13 0))), (1, some (.int (nI (sm (fun t => cnt (rnd V N t) (V 0 4 0)) t)))), (2, some (.int (nI (t))))] [] (MM ad nb b r Ia L) (xT G (qM ad nb b r I L (a_rounds V N))) := by
    intro n
    induction n with
    | zero => intro t Ia h0; omega
    | succ n ih =>
      intro t Ia hn ht7 hm
      have hB1 := hB.mx hm
      refine x_iload_n dX13_rounds_22 rfl ?_
      refine x_aload_n dX13_rounds_23 rfl ?_
      refine g_M_border hb fX13_397 dX13_rounds_24 ?_
      refine g_MB_travellers fX13_343 dX13_rounds_27 hbn ?_
      refine x_top (y12_7 hB1) ?_
      refine x_icN_ge 96 dX13_rounds_30 (by decide) (by omega) (by omega) (fun h30 => ?_) (fun h30 => ?_)
      · refine x_aload_n dX13_rounds_96 rfl ?_
        refine x_iload_n dX13_rounds_97 rfl ?_
        refine x_cvi (m_good) kX13_82 dX13_rounds_98 rfl (Nat.le_of_ble_eq_true rfl) rfl rfl (Nat.le_of_ble_eq_true rfl) (fun ru Mu hq => ?_)
        obtain ⟨rfl, rfl⟩ := hq
        refine x_iret dX13_rounds_101 rfl ?_
        obtain rfl : t = V 0 7 0 := by omega
        refine qM_ok (show a_rounds V N = _ from ?_) hm
        unfold a_rounds
        rw [if_pos h0]
      · refine x_iconst dX13_rounds_33 li_0 ?_
        refine x_istore_n dX13_rounds_34 (by decide) rfl ?_
        refine x_ls ?_ (lp_mrin hV hb hbn hW hB h0 hN h30 (fun I2 m2 => ?_) (V 0 4 0 + 1) 0 Ia (by omega) (by omega) hm)
        · exact ⟨rfl, rfl, rfl, rfl, trivial⟩
        · refine x_iincN 1 dX13_rounds_90 li_1 rfl (by decide) rfl ?_
          refine x_goto 22 dX13_rounds_93 (by decide) ?_
          refine x_ls ?_ (ih (t + 1) I2 (by omega) (by omega) m2)
          exact ⟨rfl, rfl, rfl, trivial⟩
  refine x_start (by decide) (Nat.le_of_ble_eq_true rfl) ?_
  refine x_aload_n dX13_rounds_0 rfl ?_
  refine x_iconst dX13_rounds_1 li_0 ?_
  refine p_M_thrown fX13_72 dX13_rounds_2 ?_
  refine x_aload_n dX13_rounds_5 rfl ?_
  refine g_M_border hb fX13_397 dX13_rounds_6 ?_
  refine x_ifnonnull 18 dX13_rounds_9 (by decide) ?_
  refine x_iconst dX13_rounds_18 li_0 ?_
  refine x_istore_n dX13_rounds_19 (by decide) rfl ?_
  refine x_iconst dX13_rounds_20 li_0 ?_
  refine x_istore_n dX13_rounds_21 (by decide) rfl ?_
  refine x_ls ?_ (loop22 (V 0 7 0 + 1) 0 _ (by omega) (by omega) hm)
  exact ⟨rfl, rfl, rfl, trivial⟩
theorem m_rounds (hV : VW V) (hO : YO V nb b I) {N : sN} (hW : NW V N) (hN : YN V N I) : Mt G vX13_rounds (d + 7) (0, 0) [.ref (ad 13 0)] (MM ad nb b r I L) (qM ad nb b r I L (a_rounds V N)) := by
  rcases hO with ⟨hn, hz⟩ | ⟨bi, hb, hbn, hB, h0⟩
  · exact m_rounds0 hn hz
  · exact m_rounds1 hV hb hbn hW hB h0 hN
end M17
