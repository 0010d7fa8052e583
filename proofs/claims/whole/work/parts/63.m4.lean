section M4
variable {G : xG} {ad : Nat → Nat → Nat} {nb : Nat} {b r : Option Nat} {L : Nat → Nat → Nat → Int64} {V : sV} {I : Nat → Nat → Nat → Int32} {d : Nat}

/-- half units on one behind hours -/
def xf (V : sV) (f : Nat → Nat) (H : Nat) : Nat → Nat := fun s => f s - fd (V 2 s 0) * H
theorem xf_add {f : Nat → Nat} {H H2 s : Nat} : xf V f H s - fd (V 2 s 0) * H2 = xf V f (H + H2) s := by unfold xf; rw [Nat.sub_sub, ← Nat.mul_add]
theorem xf_le {f : Nat → Nat} {H s : Nat} (h : f s ≤ 198) : xf V f H s ≤ 198 := by unfold xf; omega
theorem xf_0 {f : Nat → Nat} : xf V f 0 = f := by funext s; unfold xf; rw [Nat.mul_zero]; rfl
def ON (N : sN) (t : Nat) : Nat → Nat := fun s => N t (3 + s)
theorem nI_inj {a c : Nat} (ha : a < 2 ^ 31) (hc : c < 2 ^ 31) (h : nI a = nI c) : a = c := (nI_eq ha hc).mp h
def qAs (V : sV) (N : sN) (ad : Nat → Nat → Nat) (nb : Nat) (b r : Option Nat) (I : Nat → Nat → Nat → Int32) (L : Nat → Nat → Nat → Int64) (c : Nat) (zt zH : Int32) : Option Value → xM → Prop := qI (fun rr M' => ∃ w I1, rr = nI w ∧ M' = MM ad nb b r I1 L ∧ MX I I1 ∧ w = (if c = 1 then (if wth zH 0 99 = true then 0 else 2) else 1) ∧ (w = 0 → (∀ s, s < V 0 2 0 → I1 88 0 s = nI (xf V (ON N (zN zt)) (zN zH) s)) ∧ (∀ p, p < V 0 4 0 → I1 89 0 p = nO (-2) (V 6 p 0)) ∧ wth zH 0 99 = true))

set_option maxRecDepth 100000 in
set_option maxHeartbeats 600000 in
theorem m_asks (hV : VW V) {N : sN} (hW : NW V N) (hN : YN V N I) {c : Nat} (hc1 : c ≤ 1) {zt zH : Int32} (hc : c = 1 → ∃ t bi, zt = nI t ∧ t < V 0 7 0 ∧ b = some bi ∧ bi < nb ∧ YB V bi I) : Mt G vX13_asks (d + 2) (0, 0) [.ref (ad 13 0), .int (nI (c)), .int (zt), .int (zH)] (MM ad nb b r I L) (qAs V N ad nb b r I L c zt zH) := by
  have v0 := hV.1
  have v1 := hV.2.1
  have v2 := hV.2.2.1
  have v3 := hV.2.2.2.1
  have v4 := hV.2.2.2.2.1
  have v7 := hV.2.2.2.2.2.2.2.1
  have v9 := hV.2.2.2.2.2.2.2.2.2.1
  have v10 := hV.2.2.2.2.2.2.2.2.2.2.1
  refine x_start (by decide) (Nat.le_of_ble_eq_true rfl) ?_
  refine x_iload_n dX13_asks_0 rfl ?_
  refine x_ifN_ne 6 dX13_asks_1 (by decide) (by omega) (fun h1 => ?_) (fun h1 => ?_)
  · refine x_iload_n dX13_asks_6 rfl ?_
    refine x_iconst dX13_asks_7 li_0 ?_
    refine x_bipush dX13_asks_8 lb_99 ?_
    refine x_csi (m_in (d := d + 1)) kX13_150 dX13_asks_10 rfl rfl (Nat.le_of_ble_eq_true rfl) (fun ru Mu hq => ?_)
    obtain ⟨rfl, rfl⟩ := hq
    refine x_if_ne 18 dX13_asks_13 (by decide) (fun h13 => ?_) (fun h13 => ?_)
    · have qw := bI_ne.mp h13
      obtain ⟨H, hlH, hH, rfl⟩ := wth_of qw (by omega) (by omega)
      obtain ⟨t, bi, rfl, ht, hb, hbn, hB⟩ := hc (by omega)
      refine x_aload_n dX13_asks_18 rfl ?_
      refine x_iload_n dX13_asks_19 rfl ?_
      refine x_cvv (m_tries (d := d + 1) (t := t) (by omega)) kX13_428 dX13_asks_20 rfl (Nat.le_of_ble_eq_true rfl) rfl rfl (Nat.le_of_ble_eq_true rfl) (fun Mu hq => ?_)
      obtain ⟨I1, rfl, t1, t2⟩ := hq
      have m1 : MX I I1 := MX.of t2 (by unfold msc; omega)
      have hx1 : ∀ s, s < V 0 2 0 → I1 88 0 s = nI (ON N t s) := fun s hs => by rw [t1 s (by omega)]; exact (hN t ht).1 s (by omega)
      have hg1 : ∀ s, s < V 0 2 0 → ON N t s ≤ 198 := fun s hs => (hW t ht).2 s (by omega)
      refine x_aload_n dX13_asks_23 rfl ?_
      refine x_iload_n dX13_asks_24 rfl ?_
      refine x_cvv (m_fades (d := d) (H := H) hV hb hbn (hB.mx m1) (by omega) hx1 hg1) kX13_431 dX13_asks_25 rfl (Nat.le_of_ble_eq_true rfl) rfl rfl (Nat.le_of_ble_eq_true rfl) (fun Mu hq => ?_)
      obtain ⟨I2, rfl, f1, f2, f3⟩ := hq
      have m2 := m1.tr (MX.of f3 (by unfold msc; omega))
      refine x_aload_n dX13_asks_28 rfl ?_
      refine x_cvv (m_posted (d := d + 1) hV hb hbn (hB.mx m2)) kX13_433 dX13_asks_29 rfl (Nat.le_of_ble_eq_true rfl) rfl rfl (Nat.le_of_ble_eq_true rfl) (fun Mu hq => ?_)
      obtain ⟨I3, rfl, g1, g2⟩ := hq
      have m3 := m2.tr (MX.of g2 (by unfold msc; omega))
      refine x_iconst dX13_asks_32 li_0 ?_
      refine x_iret dX13_asks_33 rfl ?_
      refine ⟨_, rfl, 0, _, rfl, rfl, m3, by rw [if_pos (by omega), if_pos qw], fun _ => ⟨fun s hs => ?_, g1, qw⟩⟩
      rw [g2 88 (by decide), zN_nI (by omega), zN_nI (by omega)]
      exact f1 s hs
    · have qw := bI_eq.mp h13
      refine x_iconst dX13_asks_16 li_2 ?_
      refine x_iret dX13_asks_17 rfl ?_
      exact ⟨_, rfl, 2, _, rfl, rfl, MX.rf, by rw [if_pos (by omega), if_neg (by rw [qw]; decide)], fun z => absurd z (by decide)⟩
  · refine x_iconst dX13_asks_4 li_1 ?_
    refine x_iret dX13_asks_5 rfl ?_
    exact ⟨_, rfl, 1, _, rfl, rfl, MX.rf, by rw [if_neg (by omega)], fun z => absurd z (by decide)⟩
set_option maxRecDepth 100000 in
set_option maxHeartbeats 600000 in
theorem m_strength (hV : VW V) (hO : YO V nb b I) {N : sN} (hW : NW V N) (hN : YN V N I) {z1 z2 z3 : Int32} : Mt G vX13_strength (d + 3) (0, 0) [.ref (ad 13 0), .int (z1), .int (z2), .int (z3)] (MM ad nb b r I L) (qM ad nb b r I L (a_strength V N z1 z2 z3)) := by
  have v0 := hV.1
  have v1 := hV.2.1
  have v2 := hV.2.2.1
  have v3 := hV.2.2.2.1
  have v4 := hV.2.2.2.2.1
  have v7 := hV.2.2.2.2.2.2.2.1
  have v9 := hV.2.2.2.2.2.2.2.2.2.1
  have v10 := hV.2.2.2.2.2.2.2.2.2.2.1
  have hO := hO.sm (I' := (xu I 13 0 0 (nI 0))) (fun q hq => by funext x y; rw [xu_ns (by omega)])
  have hN := hN.sm (I' := (xu I 13 0 0 (nI 0))) (by funext x y; rw [xu_ns (by decide)])
  have hm := MX.rf (I := (xu I 13 0 0 (nI 0)))
  refine x_start (by decide) (Nat.le_of_ble_eq_true rfl) ?_
  refine x_aload_n dX13_strength_0 rfl ?_
  refine x_iconst dX13_strength_1 li_0 ?_
  refine p_M_thrown fX13_72 dX13_strength_2 ?_
  refine x_aload_n dX13_strength_5 rfl ?_
  refine x_aload_n dX13_strength_6 rfl ?_
  refine x_iload_n dX13_strength_7 rfl ?_
  refine x_cvi (m_isTraveller' hV hO) kX13_425 dX13_strength_8 rfl (Nat.le_of_ble_eq_true rfl) rfl rfl (Nat.le_of_ble_eq_true rfl) (fun ru Mu hq => ?_)
  obtain ⟨rfl, rfl⟩ := hq
  refine x_if_eq 26 dX13_strength_11 (by decide) (fun h11 => ?_) (fun h11 => ?_)
  · have hcc : (inr z1 (V 0 7 0) && inr z2 (V 0 2 0)) = false := by rw [bI_eq.mp h11]; rfl
    have hk0 : 0 = 1 → ∃ t bi, z1 = nI t ∧ t < V 0 7 0 ∧ b = some bi ∧ bi < nb ∧ YB V bi (xu I 13 0 0 (nI 0)) := fun z => absurd z (by decide)
    have hc1 : 0 = (if (inr z1 (V 0 7 0) && inr z2 (V 0 2 0)) = true then 1 else 0) := by rw [hcc]; rfl
    refine x_iconst dX13_strength_26 li_0 ?_
    refine x_iload_n dX13_strength_27 rfl ?_
    refine x_iload_n dX13_strength_28 rfl ?_
    refine x_cvi (m_asks (d := d) hV hW hN (by omega) hk0) kX13_436 dX13_strength_29 rfl (Nat.le_of_ble_eq_true rfl) rfl rfl (Nat.le_of_ble_eq_true rfl) (fun ru Mu hq => ?_)
    obtain ⟨w, I1, rfl, rfl, hm, hw, hx0⟩ := hq
    have ew : w = wnb V z1 2 z2 z3 := by
      rw [hw]
      unfold wnb
      rw [hcc]
      simp
    have hwb : w ≤ 2 := by rw [hw]; split <;> (try split) <;> omega
    have hB0 : w = 0 → ∃ t s bi H, z1 = nI t ∧ t < V 0 7 0 ∧ z2 = nI s ∧ s < V 0 2 0 ∧ b = some bi ∧ bi < nb ∧ YB V bi I1 ∧ z3 = nI H ∧ H ≤ 99 := fun z => by
      have hcT : (inr z1 (V 0 7 0) && inr z2 (V 0 2 0)) = true := by
        cases hq : (inr z1 (V 0 7 0) && inr z2 (V 0 2 0)) with
        | true => rfl
        | false => rw [hq] at hcc; rw [z] at ew; unfold wnb at ew; rw [hq] at ew; simp at ew
      obtain ⟨k1, k2⟩ := Bool.and_eq_true_iff.mp hcT
      obtain ⟨t, ht, et⟩ := inr_of k1 (by omega)
      obtain ⟨s, hs, es⟩ := inr_of k2 (by omega)
      obtain ⟨bi, hb, hbn, hB⟩ := (hO.mx hm).some (show V 0 7 0 ≠ 0 by omega) (by decide)
      obtain ⟨H, _, hH, eH⟩ := wth_of (hx0 z).2.2 (by omega) (by omega)
      exact ⟨t, s, bi, H, et, ht, es, hs, hb, hbn, hB, eH, hH⟩
    refine x_istore dX13_strength_32 (by decide) rfl ?_
    refine x_iload dX13_strength_34 rfl ?_
    refine x_ifN_le 48 dX13_strength_36 (by decide) (by omega) (fun h36 => ?_) (fun h36 => ?_)
    · obtain ⟨t, s, bi, H, rfl, ht, rfl, hs, hb, hbn, hB, rfl, hH⟩ := hB0 (by omega)
      obtain ⟨hx, hp, -⟩ := hx0 (by omega)
      rw [zN_nI (by omega), zN_nI (by omega)] at hx
      have hg : ∀ i, i < V 0 2 0 → xf V (ON N t) H i ≤ 198 := fun i hi => xf_le ((hW t ht).2 i (by omega))
      have hw0 : wnb V (nI t) 2 (nI s) (nI H) = 0 := by omega
      have hgs := hg s hs
      refine x_aload_n dX13_strength_48 rfl ?_
      refine x_aload_n dX13_strength_49 rfl ?_
      refine g_M_x fX13_27 dX13_strength_50 ?_
      refine x_iload_n dX13_strength_53 rfl ?_
      refine x_iald dX13_strength_54 rfl rfl (Nat.le_of_ble_eq_true rfl) (by first | exact Nat.le_of_ble_eq_true rfl | assumption | omega) ?_
      refine x_top (hx _ (by first | assumption | omega)) ?_
      refine x_iconst dX13_strength_55 li_2 ?_
      refine x_idivN dX13_strength_56 (by omega) (by omega) (by omega) ?_
      refine x_cvi (m_good) kX13_82 dX13_strength_57 rfl (Nat.le_of_ble_eq_true rfl) rfl rfl (Nat.le_of_ble_eq_true rfl) (fun ru Mu hq => ?_)
      obtain ⟨rfl, rfl⟩ := hq
      refine x_iret dX13_strength_60 rfl ?_
      first
        | (rw [ew]; refine qM_ok (show a_strength V N _ _ _ = (-1, wnb V z1 2 z2 z3) from if_neg hwn) hm)
        | (refine qM_ok (show a_strength V N _ _ _ = _ from ?_) hm; unfold a_strength a_bh; rw [if_pos hw0, zN_nI (by omega), zN_nI (by omega), zN_nI (by omega)]; rfl)
    · have hwn : wnb V z1 2 z2 z3 ≠ 0 := by omega
      refine x_aload_n dX13_strength_39 rfl ?_
      refine x_iload dX13_strength_40 rfl ?_
      refine x_cvi (m_refused) kX13_78 dX13_strength_42 rfl (Nat.le_of_ble_eq_true rfl) rfl rfl (Nat.le_of_ble_eq_true rfl) (fun ru Mu hq => ?_)
      obtain ⟨rfl, rfl⟩ := hq
      refine x_goto 60 dX13_strength_45 (by decide) ?_
      refine x_iret dX13_strength_60 rfl ?_
      first
        | (rw [ew]; refine qM_ok (show a_strength V N _ _ _ = (-1, wnb V z1 2 z2 z3) from if_neg hwn) hm)
        | (refine qM_ok (show a_strength V N _ _ _ = _ from ?_) hm; unfold a_strength a_bh; rw [if_pos hw0, zN_nI (by omega), zN_nI (by omega), zN_nI (by omega)]; rfl)
  · refine x_aload_n dX13_strength_14 rfl ?_
    refine x_iload_n dX13_strength_15 rfl ?_
    refine x_cvi (m_isSmell' hV hO) kX13_419 dX13_strength_16 rfl (Nat.le_of_ble_eq_true rfl) rfl rfl (Nat.le_of_ble_eq_true rfl) (fun ru Mu hq => ?_)
    obtain ⟨rfl, rfl⟩ := hq
    refine x_if_eq 26 dX13_strength_19 (by decide) (fun h19 => ?_) (fun h19 => ?_)
    · have hcc : (inr z1 (V 0 7 0) && inr z2 (V 0 2 0)) = false := by rw [bI_eq.mp h19, Bool.and_false]
      have hk0 : 0 = 1 → ∃ t bi, z1 = nI t ∧ t < V 0 7 0 ∧ b = some bi ∧ bi < nb ∧ YB V bi (xu I 13 0 0 (nI 0)) := fun z => absurd z (by decide)
      have hc1 : 0 = (if (inr z1 (V 0 7 0) && inr z2 (V 0 2 0)) = true then 1 else 0) := by rw [hcc]; rfl
      refine x_iconst dX13_strength_26 li_0 ?_
      refine x_iload_n dX13_strength_27 rfl ?_
      refine x_iload_n dX13_strength_28 rfl ?_
      refine x_cvi (m_asks (d := d) hV hW hN (by omega) hk0) kX13_436 dX13_strength_29 rfl (Nat.le_of_ble_eq_true rfl) rfl rfl (Nat.le_of_ble_eq_true rfl) (fun ru Mu hq => ?_)
      obtain ⟨w, I1, rfl, rfl, hm, hw, hx0⟩ := hq
      have ew : w = wnb V z1 2 z2 z3 := by
        rw [hw]
        unfold wnb
        rw [hcc]
        simp
      have hwb : w ≤ 2 := by rw [hw]; split <;> (try split) <;> omega
      have hB0 : w = 0 → ∃ t s bi H, z1 = nI t ∧ t < V 0 7 0 ∧ z2 = nI s ∧ s < V 0 2 0 ∧ b = some bi ∧ bi < nb ∧ YB V bi I1 ∧ z3 = nI H ∧ H ≤ 99 := fun z => by
        have hcT : (inr z1 (V 0 7 0) && inr z2 (V 0 2 0)) = true := by
          cases hq : (inr z1 (V 0 7 0) && inr z2 (V 0 2 0)) with
          | true => rfl
          | false => rw [hq] at hcc; rw [z] at ew; unfold wnb at ew; rw [hq] at ew; simp at ew
        obtain ⟨k1, k2⟩ := Bool.and_eq_true_iff.mp hcT
        obtain ⟨t, ht, et⟩ := inr_of k1 (by omega)
        obtain ⟨s, hs, es⟩ := inr_of k2 (by omega)
        obtain ⟨bi, hb, hbn, hB⟩ := (hO.mx hm).some (show V 0 7 0 ≠ 0 by omega) (by decide)
        obtain ⟨H, _, hH, eH⟩ := wth_of (hx0 z).2.2 (by omega) (by omega)
        exact ⟨t, s, bi, H, et, ht, es, hs, hb, hbn, hB, eH, hH⟩
      refine x_istore dX13_strength_32 (by decide) rfl ?_
      refine x_iload dX13_strength_34 rfl ?_
      refine x_ifN_le 48 dX13_strength_36 (by decide) (by omega) (fun h36 => ?_) (fun h36 => ?_)
      · obtain ⟨t, s, bi, H, rfl, ht, rfl, hs, hb, hbn, hB, rfl, hH⟩ := hB0 (by omega)
        obtain ⟨hx, hp, -⟩ := hx0 (by omega)
        rw [zN_nI (by omega), zN_nI (by omega)] at hx
        have hg : ∀ i, i < V 0 2 0 → xf V (ON N t) H i ≤ 198 := fun i hi => xf_le ((hW t ht).2 i (by omega))
        have hw0 : wnb V (nI t) 2 (nI s) (nI H) = 0 := by omega
        have hgs := hg s hs
        refine x_aload_n dX13_strength_48 rfl ?_
        refine x_aload_n dX13_strength_49 rfl ?_
        refine g_M_x fX13_27 dX13_strength_50 ?_
        refine x_iload_n dX13_strength_53 rfl ?_
        refine x_iald dX13_strength_54 rfl rfl (Nat.le_of_ble_eq_true rfl) (by first | exact Nat.le_of_ble_eq_true rfl | assumption | omega) ?_
        refine x_top (hx _ (by first | assumption | omega)) ?_
        refine x_iconst dX13_strength_55 li_2 ?_
        refine x_idivN dX13_strength_56 (by omega) (by omega) (by omega) ?_
        refine x_cvi (m_good) kX13_82 dX13_strength_57 rfl (Nat.le_of_ble_eq_true rfl) rfl rfl (Nat.le_of_ble_eq_true rfl) (fun ru Mu hq => ?_)
        obtain ⟨rfl, rfl⟩ := hq
        refine x_iret dX13_strength_60 rfl ?_
        first
          | (rw [ew]; refine qM_ok (show a_strength V N _ _ _ = (-1, wnb V z1 2 z2 z3) from if_neg hwn) hm)
          | (refine qM_ok (show a_strength V N _ _ _ = _ from ?_) hm; unfold a_strength a_bh; rw [if_pos hw0, zN_nI (by omega), zN_nI (by omega), zN_nI (by omega)]; rfl)
      · have hwn : wnb V z1 2 z2 z3 ≠ 0 := by omega
        refine x_aload_n dX13_strength_39 rfl ?_
        refine x_iload dX13_strength_40 rfl ?_
        refine x_cvi (m_refused) kX13_78 dX13_strength_42 rfl (Nat.le_of_ble_eq_true rfl) rfl rfl (Nat.le_of_ble_eq_true rfl) (fun ru Mu hq => ?_)
        obtain ⟨rfl, rfl⟩ := hq
        refine x_goto 60 dX13_strength_45 (by decide) ?_
        refine x_iret dX13_strength_60 rfl ?_
        first
          | (rw [ew]; refine qM_ok (show a_strength V N _ _ _ = (-1, wnb V z1 2 z2 z3) from if_neg hwn) hm)
          | (refine qM_ok (show a_strength V N _ _ _ = _ from ?_) hm; unfold a_strength a_bh; rw [if_pos hw0, zN_nI (by omega), zN_nI (by omega), zN_nI (by omega)]; rfl)
    · have hcc : (inr z1 (V 0 7 0) && inr z2 (V 0 2 0)) = true := by rw [bI_ne.mp h11, bI_ne.mp h19]; rfl
      have hk0 : 1 = 1 → ∃ t bi, z1 = nI t ∧ t < V 0 7 0 ∧ b = some bi ∧ bi < nb ∧ YB V bi (xu I 13 0 0 (nI 0)) := fun _ => by
        obtain ⟨t, ht, et⟩ := inr_of (bI_ne.mp h11) (by omega)
        obtain ⟨bi, hb, hbn, hB⟩ := hO.some (show V 0 7 0 ≠ 0 by omega) (by decide)
        exact ⟨t, bi, et, ht, hb, hbn, hB⟩
      have hc1 : 1 = (if (inr z1 (V 0 7 0) && inr z2 (V 0 2 0)) = true then 1 else 0) := by rw [hcc]; rfl
      refine x_iconst dX13_strength_22 li_1 ?_
      refine x_goto 27 dX13_strength_23 (by decide) ?_
      refine x_iload_n dX13_strength_27 rfl ?_
      refine x_iload_n dX13_strength_28 rfl ?_
      refine x_cvi (m_asks (d := d) hV hW hN (by omega) hk0) kX13_436 dX13_strength_29 rfl (Nat.le_of_ble_eq_true rfl) rfl rfl (Nat.le_of_ble_eq_true rfl) (fun ru Mu hq => ?_)
      obtain ⟨w, I1, rfl, rfl, hm, hw, hx0⟩ := hq
      have ew : w = wnb V z1 2 z2 z3 := by
        rw [hw]
        unfold wnb
        rw [hcc]
        simp
      have hwb : w ≤ 2 := by rw [hw]; split <;> (try split) <;> omega
      have hB0 : w = 0 → ∃ t s bi H, z1 = nI t ∧ t < V 0 7 0 ∧ z2 = nI s ∧ s < V 0 2 0 ∧ b = some bi ∧ bi < nb ∧ YB V bi I1 ∧ z3 = nI H ∧ H ≤ 99 := fun z => by
        have hcT : (inr z1 (V 0 7 0) && inr z2 (V 0 2 0)) = true := by
          cases hq : (inr z1 (V 0 7 0) && inr z2 (V 0 2 0)) with
          | true => rfl
          | false => rw [hq] at hcc; rw [z] at ew; unfold wnb at ew; rw [hq] at ew; simp at ew
        obtain ⟨k1, k2⟩ := Bool.and_eq_true_iff.mp hcT
        obtain ⟨t, ht, et⟩ := inr_of k1 (by omega)
        obtain ⟨s, hs, es⟩ := inr_of k2 (by omega)
        obtain ⟨bi, hb, hbn, hB⟩ := (hO.mx hm).some (show V 0 7 0 ≠ 0 by omega) (by decide)
        obtain ⟨H, _, hH, eH⟩ := wth_of (hx0 z).2.2 (by omega) (by omega)
        exact ⟨t, s, bi, H, et, ht, es, hs, hb, hbn, hB, eH, hH⟩
      refine x_istore dX13_strength_32 (by decide) rfl ?_
      refine x_iload dX13_strength_34 rfl ?_
      refine x_ifN_le 48 dX13_strength_36 (by decide) (by omega) (fun h36 => ?_) (fun h36 => ?_)
      · obtain ⟨t, s, bi, H, rfl, ht, rfl, hs, hb, hbn, hB, rfl, hH⟩ := hB0 (by omega)
        obtain ⟨hx, hp, -⟩ := hx0 (by omega)
        rw [zN_nI (by omega), zN_nI (by omega)] at hx
        have hg : ∀ i, i < V 0 2 0 → xf V (ON N t) H i ≤ 198 := fun i hi => xf_le ((hW t ht).2 i (by omega))
        have hw0 : wnb V (nI t) 2 (nI s) (nI H) = 0 := by omega
        have hgs := hg s hs
        refine x_aload_n dX13_strength_48 rfl ?_
        refine x_aload_n dX13_strength_49 rfl ?_
        refine g_M_x fX13_27 dX13_strength_50 ?_
        refine x_iload_n dX13_strength_53 rfl ?_
        refine x_iald dX13_strength_54 rfl rfl (Nat.le_of_ble_eq_true rfl) (by first | exact Nat.le_of_ble_eq_true rfl | assumption | omega) ?_
        refine x_top (hx _ (by first | assumption | omega)) ?_
        refine x_iconst dX13_strength_55 li_2 ?_
        refine x_idivN dX13_strength_56 (by omega) (by omega) (by omega) ?_
        refine x_cvi (m_good) kX13_82 dX13_strength_57 rfl (Nat.le_of_ble_eq_true rfl) rfl rfl (Nat.le_of_ble_eq_true rfl) (fun ru Mu hq => ?_)
        obtain ⟨rfl, rfl⟩ := hq
        refine x_iret dX13_strength_60 rfl ?_
        first
          | (rw [ew]; refine qM_ok (show a_strength V N _ _ _ = (-1, wnb V z1 2 z2 z3) from if_neg hwn) hm)
          | (refine qM_ok (show a_strength V N _ _ _ = _ from ?_) hm; unfold a_strength a_bh; rw [if_pos hw0, zN_nI (by omega), zN_nI (by omega), zN_nI (by omega)]; rfl)
      · have hwn : wnb V z1 2 z2 z3 ≠ 0 := by omega
        refine x_aload_n dX13_strength_39 rfl ?_
        refine x_iload dX13_strength_40 rfl ?_
        refine x_cvi (m_refused) kX13_78 dX13_strength_42 rfl (Nat.le_of_ble_eq_true rfl) rfl rfl (Nat.le_of_ble_eq_true rfl) (fun ru Mu hq => ?_)
        obtain ⟨rfl, rfl⟩ := hq
        refine x_goto 60 dX13_strength_45 (by decide) ?_
        refine x_iret dX13_strength_60 rfl ?_
        first
          | (rw [ew]; refine qM_ok (show a_strength V N _ _ _ = (-1, wnb V z1 2 z2 z3) from if_neg hwn) hm)
          | (refine qM_ok (show a_strength V N _ _ _ = _ from ?_) hm; unfold a_strength a_bh; rw [if_pos hw0, zN_nI (by omega), zN_nI (by omega), zN_nI (by omega)]; rfl)
set_option maxRecDepth 100000 in
set_option maxHeartbeats 600000 in
theorem m_covered (hV : VW V) (hO : YO V nb b I) {N : sN} (hW : NW V N) (hN : YN V N I) {z1 z2 z3 : Int32} : Mt G vX13_covered (d + 3) (0, 0) [.ref (ad 13 0), .int (z1), .int (z2), .int (z3)] (MM ad nb b r I L) (qM ad nb b r I L (a_covered V N z1 z2 z3)) := by
  have v0 := hV.1
  have v1 := hV.2.1
  have v2 := hV.2.2.1
  have v3 := hV.2.2.2.1
  have v4 := hV.2.2.2.2.1
  have v7 := hV.2.2.2.2.2.2.2.1
  have v9 := hV.2.2.2.2.2.2.2.2.2.1
  have v10 := hV.2.2.2.2.2.2.2.2.2.2.1
  have hO := hO.sm (I' := (xu I 13 0 0 (nI 0))) (fun q hq => by funext x y; rw [xu_ns (by omega)])
  have hN := hN.sm (I' := (xu I 13 0 0 (nI 0))) (by funext x y; rw [xu_ns (by decide)])
  have hm := MX.rf (I := (xu I 13 0 0 (nI 0)))
  refine x_start (by decide) (Nat.le_of_ble_eq_true rfl) ?_
  refine x_aload_n dX13_covered_0 rfl ?_
  refine x_iconst dX13_covered_1 li_0 ?_
  refine p_M_thrown fX13_72 dX13_covered_2 ?_
  refine x_aload_n dX13_covered_5 rfl ?_
  refine x_aload_n dX13_covered_6 rfl ?_
  refine x_iload_n dX13_covered_7 rfl ?_
  refine x_cvi (m_isTraveller' hV hO) kX13_425 dX13_covered_8 rfl (Nat.le_of_ble_eq_true rfl) rfl rfl (Nat.le_of_ble_eq_true rfl) (fun ru Mu hq => ?_)
  obtain ⟨rfl, rfl⟩ := hq
  refine x_if_eq 26 dX13_covered_11 (by decide) (fun h11 => ?_) (fun h11 => ?_)
  · have hcc : (inr z1 (V 0 7 0) && inr z2 (V 0 2 0)) = false := by rw [bI_eq.mp h11]; rfl
    have hk0 : 0 = 1 → ∃ t bi, z1 = nI t ∧ t < V 0 7 0 ∧ b = some bi ∧ bi < nb ∧ YB V bi (xu I 13 0 0 (nI 0)) := fun z => absurd z (by decide)
    have hc1 : 0 = (if (inr z1 (V 0 7 0) && inr z2 (V 0 2 0)) = true then 1 else 0) := by rw [hcc]; rfl
    refine x_iconst dX13_covered_26 li_0 ?_
    refine x_iload_n dX13_covered_27 rfl ?_
    refine x_iload_n dX13_covered_28 rfl ?_
    refine x_cvi (m_asks (d := d) hV hW hN (by omega) hk0) kX13_436 dX13_covered_29 rfl (Nat.le_of_ble_eq_true rfl) rfl rfl (Nat.le_of_ble_eq_true rfl) (fun ru Mu hq => ?_)
    obtain ⟨w, I1, rfl, rfl, hm, hw, hx0⟩ := hq
    have ew : w = wnb V z1 2 z2 z3 := by
      rw [hw]
      unfold wnb
      rw [hcc]
      simp
    have hwb : w ≤ 2 := by rw [hw]; split <;> (try split) <;> omega
    have hB0 : w = 0 → ∃ t s bi H, z1 = nI t ∧ t < V 0 7 0 ∧ z2 = nI s ∧ s < V 0 2 0 ∧ b = some bi ∧ bi < nb ∧ YB V bi I1 ∧ z3 = nI H ∧ H ≤ 99 := fun z => by
      have hcT : (inr z1 (V 0 7 0) && inr z2 (V 0 2 0)) = true := by
        cases hq : (inr z1 (V 0 7 0) && inr z2 (V 0 2 0)) with
        | true => rfl
        | false => rw [hq] at hcc; rw [z] at ew; unfold wnb at ew; rw [hq] at ew; simp at ew
      obtain ⟨k1, k2⟩ := Bool.and_eq_true_iff.mp hcT
      obtain ⟨t, ht, et⟩ := inr_of k1 (by omega)
      obtain ⟨s, hs, es⟩ := inr_of k2 (by omega)
      obtain ⟨bi, hb, hbn, hB⟩ := (hO.mx hm).some (show V 0 7 0 ≠ 0 by omega) (by decide)
      obtain ⟨H, _, hH, eH⟩ := wth_of (hx0 z).2.2 (by omega) (by omega)
      exact ⟨t, s, bi, H, et, ht, es, hs, hb, hbn, hB, eH, hH⟩
    refine x_istore dX13_covered_32 (by decide) rfl ?_
    refine x_iload dX13_covered_34 rfl ?_
    refine x_ifN_le 48 dX13_covered_36 (by decide) (by omega) (fun h36 => ?_) (fun h36 => ?_)
    · obtain ⟨t, s, bi, H, rfl, ht, rfl, hs, hb, hbn, hB, rfl, hH⟩ := hB0 (by omega)
      obtain ⟨hx, hp, -⟩ := hx0 (by omega)
      rw [zN_nI (by omega), zN_nI (by omega)] at hx
      have hg : ∀ i, i < V 0 2 0 → xf V (ON N t) H i ≤ 198 := fun i hi => xf_le ((hW t ht).2 i (by omega))
      have hw0 : wnb V (nI t) 2 (nI s) (nI H) = 0 := by omega
      refine x_aload_n dX13_covered_48 rfl ?_
      refine x_aload_n dX13_covered_49 rfl ?_
      refine x_iload_n dX13_covered_50 rfl ?_
      refine x_cvi (m_coveredOf hV hb hbn hB hx hg hs) kX13_408 dX13_covered_51 rfl (Nat.le_of_ble_eq_true rfl) rfl rfl (Nat.le_of_ble_eq_true rfl) (fun ru Mu hq => ?_)
      obtain ⟨rfl, rfl⟩ := hq
      refine x_cvi (m_good) kX13_82 dX13_covered_54 rfl (Nat.le_of_ble_eq_true rfl) rfl rfl (Nat.le_of_ble_eq_true rfl) (fun ru Mu hq => ?_)
      obtain ⟨rfl, rfl⟩ := hq
      refine x_iret dX13_covered_57 rfl ?_
      first
        | (rw [ew]; refine qM_ok (show a_covered V N _ _ _ = (-1, wnb V z1 2 z2 z3) from if_neg hwn) hm)
        | (refine qM_ok (show a_covered V N _ _ _ = _ from ?_) hm; unfold a_covered a_bh; rw [if_pos hw0, zN_nI (by omega), zN_nI (by omega), zN_nI (by omega)]; rfl)
    · have hwn : wnb V z1 2 z2 z3 ≠ 0 := by omega
      refine x_aload_n dX13_covered_39 rfl ?_
      refine x_iload dX13_covered_40 rfl ?_
      refine x_cvi (m_refused) kX13_78 dX13_covered_42 rfl (Nat.le_of_ble_eq_true rfl) rfl rfl (Nat.le_of_ble_eq_true rfl) (fun ru Mu hq => ?_)
      obtain ⟨rfl, rfl⟩ := hq
      refine x_goto 57 dX13_covered_45 (by decide) ?_
      refine x_iret dX13_covered_57 rfl ?_
      first
        | (rw [ew]; refine qM_ok (show a_covered V N _ _ _ = (-1, wnb V z1 2 z2 z3) from if_neg hwn) hm)
        | (refine qM_ok (show a_covered V N _ _ _ = _ from ?_) hm; unfold a_covered a_bh; rw [if_pos hw0, zN_nI (by omega), zN_nI (by omega), zN_nI (by omega)]; rfl)
  · refine x_aload_n dX13_covered_14 rfl ?_
    refine x_iload_n dX13_covered_15 rfl ?_
    refine x_cvi (m_isSmell' hV hO) kX13_419 dX13_covered_16 rfl (Nat.le_of_ble_eq_true rfl) rfl rfl (Nat.le_of_ble_eq_true rfl) (fun ru Mu hq => ?_)
    obtain ⟨rfl, rfl⟩ := hq
    refine x_if_eq 26 dX13_covered_19 (by decide) (fun h19 => ?_) (fun h19 => ?_)
    · have hcc : (inr z1 (V 0 7 0) && inr z2 (V 0 2 0)) = false := by rw [bI_eq.mp h19, Bool.and_false]
      have hk0 : 0 = 1 → ∃ t bi, z1 = nI t ∧ t < V 0 7 0 ∧ b = some bi ∧ bi < nb ∧ YB V bi (xu I 13 0 0 (nI 0)) := fun z => absurd z (by decide)
      have hc1 : 0 = (if (inr z1 (V 0 7 0) && inr z2 (V 0 2 0)) = true then 1 else 0) := by rw [hcc]; rfl
      refine x_iconst dX13_covered_26 li_0 ?_
      refine x_iload_n dX13_covered_27 rfl ?_
      refine x_iload_n dX13_covered_28 rfl ?_
      refine x_cvi (m_asks (d := d) hV hW hN (by omega) hk0) kX13_436 dX13_covered_29 rfl (Nat.le_of_ble_eq_true rfl) rfl rfl (Nat.le_of_ble_eq_true rfl) (fun ru Mu hq => ?_)
      obtain ⟨w, I1, rfl, rfl, hm, hw, hx0⟩ := hq
      have ew : w = wnb V z1 2 z2 z3 := by
        rw [hw]
        unfold wnb
        rw [hcc]
        simp
      have hwb : w ≤ 2 := by rw [hw]; split <;> (try split) <;> omega
      have hB0 : w = 0 → ∃ t s bi H, z1 = nI t ∧ t < V 0 7 0 ∧ z2 = nI s ∧ s < V 0 2 0 ∧ b = some bi ∧ bi < nb ∧ YB V bi I1 ∧ z3 = nI H ∧ H ≤ 99 := fun z => by
        have hcT : (inr z1 (V 0 7 0) && inr z2 (V 0 2 0)) = true := by
          cases hq : (inr z1 (V 0 7 0) && inr z2 (V 0 2 0)) with
          | true => rfl
          | false => rw [hq] at hcc; rw [z] at ew; unfold wnb at ew; rw [hq] at ew; simp at ew
        obtain ⟨k1, k2⟩ := Bool.and_eq_true_iff.mp hcT
        obtain ⟨t, ht, et⟩ := inr_of k1 (by omega)
        obtain ⟨s, hs, es⟩ := inr_of k2 (by omega)
        obtain ⟨bi, hb, hbn, hB⟩ := (hO.mx hm).some (show V 0 7 0 ≠ 0 by omega) (by decide)
        obtain ⟨H, _, hH, eH⟩ := wth_of (hx0 z).2.2 (by omega) (by omega)
        exact ⟨t, s, bi, H, et, ht, es, hs, hb, hbn, hB, eH, hH⟩
      refine x_istore dX13_covered_32 (by decide) rfl ?_
      refine x_iload dX13_covered_34 rfl ?_
      refine x_ifN_le 48 dX13_covered_36 (by decide) (by omega) (fun h36 => ?_) (fun h36 => ?_)
      · obtain ⟨t, s, bi, H, rfl, ht, rfl, hs, hb, hbn, hB, rfl, hH⟩ := hB0 (by omega)
        obtain ⟨hx, hp, -⟩ := hx0 (by omega)
        rw [zN_nI (by omega), zN_nI (by omega)] at hx
        have hg : ∀ i, i < V 0 2 0 → xf V (ON N t) H i ≤ 198 := fun i hi => xf_le ((hW t ht).2 i (by omega))
        have hw0 : wnb V (nI t) 2 (nI s) (nI H) = 0 := by omega
        refine x_aload_n dX13_covered_48 rfl ?_
        refine x_aload_n dX13_covered_49 rfl ?_
        refine x_iload_n dX13_covered_50 rfl ?_
        refine x_cvi (m_coveredOf hV hb hbn hB hx hg hs) kX13_408 dX13_covered_51 rfl (Nat.le_of_ble_eq_true rfl) rfl rfl (Nat.le_of_ble_eq_true rfl) (fun ru Mu hq => ?_)
        obtain ⟨rfl, rfl⟩ := hq
        refine x_cvi (m_good) kX13_82 dX13_covered_54 rfl (Nat.le_of_ble_eq_true rfl) rfl rfl (Nat.le_of_ble_eq_true rfl) (fun ru Mu hq => ?_)
        obtain ⟨rfl, rfl⟩ := hq
        refine x_iret dX13_covered_57 rfl ?_
        first
          | (rw [ew]; refine qM_ok (show a_covered V N _ _ _ = (-1, wnb V z1 2 z2 z3) from if_neg hwn) hm)
          | (refine qM_ok (show a_covered V N _ _ _ = _ from ?_) hm; unfold a_covered a_bh; rw [if_pos hw0, zN_nI (by omega), zN_nI (by omega), zN_nI (by omega)]; rfl)
      · have hwn : wnb V z1 2 z2 z3 ≠ 0 := by omega
        refine x_aload_n dX13_covered_39 rfl ?_
        refine x_iload dX13_covered_40 rfl ?_
        refine x_cvi (m_refused) kX13_78 dX13_covered_42 rfl (Nat.le_of_ble_eq_true rfl) rfl rfl (Nat.le_of_ble_eq_true rfl) (fun ru Mu hq => ?_)
        obtain ⟨rfl, rfl⟩ := hq
        refine x_goto 57 dX13_covered_45 (by decide) ?_
        refine x_iret dX13_covered_57 rfl ?_
        first
          | (rw [ew]; refine qM_ok (show a_covered V N _ _ _ = (-1, wnb V z1 2 z2 z3) from if_neg hwn) hm)
          | (refine qM_ok (show a_covered V N _ _ _ = _ from ?_) hm; unfold a_covered a_bh; rw [if_pos hw0, zN_nI (by omega), zN_nI (by omega), zN_nI (by omega)]; rfl)
    · have hcc : (inr z1 (V 0 7 0) && inr z2 (V 0 2 0)) = true := by rw [bI_ne.mp h11, bI_ne.mp h19]; rfl
      have hk0 : 1 = 1 → ∃ t bi, z1 = nI t ∧ t < V 0 7 0 ∧ b = some bi ∧ bi < nb ∧ YB V bi (xu I 13 0 0 (nI 0)) := fun _ => by
        obtain ⟨t, ht, et⟩ := inr_of (bI_ne.mp h11) (by omega)
        obtain ⟨bi, hb, hbn, hB⟩ := hO.some (show V 0 7 0 ≠ 0 by omega) (by decide)
        exact ⟨t, bi, et, ht, hb, hbn, hB⟩
      have hc1 : 1 = (if (inr z1 (V 0 7 0) && inr z2 (V 0 2 0)) = true then 1 else 0) := by rw [hcc]; rfl
      refine x_iconst dX13_covered_22 li_1 ?_
      refine x_goto 27 dX13_covered_23 (by decide) ?_
      refine x_iload_n dX13_covered_27 rfl ?_
      refine x_iload_n dX13_covered_28 rfl ?_
      refine x_cvi (m_asks (d := d) hV hW hN (by omega) hk0) kX13_436 dX13_covered_29 rfl (Nat.le_of_ble_eq_true rfl) rfl rfl (Nat.le_of_ble_eq_true rfl) (fun ru Mu hq => ?_)
      obtain ⟨w, I1, rfl, rfl, hm, hw, hx0⟩ := hq
      have ew : w = wnb V z1 2 z2 z3 := by
        rw [hw]
        unfold wnb
        rw [hcc]
        simp
      have hwb : w ≤ 2 := by rw [hw]; split <;> (try split) <;> omega
      have hB0 : w = 0 → ∃ t s bi H, z1 = nI t ∧ t < V 0 7 0 ∧ z2 = nI s ∧ s < V 0 2 0 ∧ b = some bi ∧ bi < nb ∧ YB V bi I1 ∧ z3 = nI H ∧ H ≤ 99 := fun z => by
        have hcT : (inr z1 (V 0 7 0) && inr z2 (V 0 2 0)) = true := by
          cases hq : (inr z1 (V 0 7 0) && inr z2 (V 0 2 0)) with
          | true => rfl
          | false => rw [hq] at hcc; rw [z] at ew; unfold wnb at ew; rw [hq] at ew; simp at ew
        obtain ⟨k1, k2⟩ := Bool.and_eq_true_iff.mp hcT
        obtain ⟨t, ht, et⟩ := inr_of k1 (by omega)
        obtain ⟨s, hs, es⟩ := inr_of k2 (by omega)
        obtain ⟨bi, hb, hbn, hB⟩ := (hO.mx hm).some (show V 0 7 0 ≠ 0 by omega) (by decide)
        obtain ⟨H, _, hH, eH⟩ := wth_of (hx0 z).2.2 (by omega) (by omega)
        exact ⟨t, s, bi, H, et, ht, es, hs, hb, hbn, hB, eH, hH⟩
      refine x_istore dX13_covered_32 (by decide) rfl ?_
      refine x_iload dX13_covered_34 rfl ?_
      refine x_ifN_le 48 dX13_covered_36 (by decide) (by omega) (fun h36 => ?_) (fun h36 => ?_)
      · obtain ⟨t, s, bi, H, rfl, ht, rfl, hs, hb, hbn, hB, rfl, hH⟩ := hB0 (by omega)
        obtain ⟨hx, hp, -⟩ := hx0 (by omega)
        rw [zN_nI (by omega), zN_nI (by omega)] at hx
        have hg : ∀ i, i < V 0 2 0 → xf V (ON N t) H i ≤ 198 := fun i hi => xf_le ((hW t ht).2 i (by omega))
        have hw0 : wnb V (nI t) 2 (nI s) (nI H) = 0 := by omega
        refine x_aload_n dX13_covered_48 rfl ?_
        refine x_aload_n dX13_covered_49 rfl ?_
        refine x_iload_n dX13_covered_50 rfl ?_
        refine x_cvi (m_coveredOf hV hb hbn hB hx hg hs) kX13_408 dX13_covered_51 rfl (Nat.le_of_ble_eq_true rfl) rfl rfl (Nat.le_of_ble_eq_true rfl) (fun ru Mu hq => ?_)
        obtain ⟨rfl, rfl⟩ := hq
        refine x_cvi (m_good) kX13_82 dX13_covered_54 rfl (Nat.le_of_ble_eq_true rfl) rfl rfl (Nat.le_of_ble_eq_true rfl) (fun ru Mu hq => ?_)
        obtain ⟨rfl, rfl⟩ := hq
        refine x_iret dX13_covered_57 rfl ?_
        first
          | (rw [ew]; refine qM_ok (show a_covered V N _ _ _ = (-1, wnb V z1 2 z2 z3) from if_neg hwn) hm)
          | (refine qM_ok (show a_covered V N _ _ _ = _ from ?_) hm; unfold a_covered a_bh; rw [if_pos hw0, zN_nI (by omega), zN_nI (by omega), zN_nI (by omega)]; rfl)
      · have hwn : wnb V z1 2 z2 z3 ≠ 0 := by omega
        refine x_aload_n dX13_covered_39 rfl ?_
        refine x_iload dX13_covered_40 rfl ?_
        refine x_cvi (m_refused) kX13_78 dX13_covered_42 rfl (Nat.le_of_ble_eq_true rfl) rfl rfl (Nat.le_of_ble_eq_true rfl) (fun ru Mu hq => ?_)
        obtain ⟨rfl, rfl⟩ := hq
        refine x_goto 57 dX13_covered_45 (by decide) ?_
        refine x_iret dX13_covered_57 rfl ?_
        first
          | (rw [ew]; refine qM_ok (show a_covered V N _ _ _ = (-1, wnb V z1 2 z2 z3) from if_neg hwn) hm)
          | (refine qM_ok (show a_covered V N _ _ _ = _ from ?_) hm; unfold a_covered a_bh; rw [if_pos hw0, zN_nI (by omega), zN_nI (by omega), zN_nI (by omega)]; rfl)
set_option maxRecDepth 100000 in
set_option maxHeartbeats 600000 in
theorem m_duty (hV : VW V) (hO : YO V nb b I) {N : sN} (hW : NW V N) (hN : YN V N I) {z1 z2 z3 : Int32} : Mt G vX13_duty (d + 4) (0, 0) [.ref (ad 13 0), .int (z1), .int (z2), .int (z3)] (MM ad nb b r I L) (qM ad nb b r I L (a_duty V N z1 z2 z3)) := by
  have v0 := hV.1
  have v1 := hV.2.1
  have v2 := hV.2.2.1
  have v3 := hV.2.2.2.1
  have v4 := hV.2.2.2.2.1
  have v7 := hV.2.2.2.2.2.2.2.1
  have v9 := hV.2.2.2.2.2.2.2.2.2.1
  have v10 := hV.2.2.2.2.2.2.2.2.2.2.1
  have hO := hO.sm (I' := (xu I 13 0 0 (nI 0))) (fun q hq => by funext x y; rw [xu_ns (by omega)])
  have hN := hN.sm (I' := (xu I 13 0 0 (nI 0))) (by funext x y; rw [xu_ns (by decide)])
  have hm := MX.rf (I := (xu I 13 0 0 (nI 0)))
  refine x_start (by decide) (Nat.le_of_ble_eq_true rfl) ?_
  refine x_aload_n dX13_duty_0 rfl ?_
  refine x_iconst dX13_duty_1 li_0 ?_
  refine p_M_thrown fX13_72 dX13_duty_2 ?_
  refine x_aload_n dX13_duty_5 rfl ?_
  refine x_aload_n dX13_duty_6 rfl ?_
  refine x_iload_n dX13_duty_7 rfl ?_
  refine x_cvi (m_isTraveller' hV hO) kX13_425 dX13_duty_8 rfl (Nat.le_of_ble_eq_true rfl) rfl rfl (Nat.le_of_ble_eq_true rfl) (fun ru Mu hq => ?_)
  obtain ⟨rfl, rfl⟩ := hq
  refine x_if_eq 26 dX13_duty_11 (by decide) (fun h11 => ?_) (fun h11 => ?_)
  · have hcc : (inr z1 (V 0 7 0) && inr z2 (V 0 4 0)) = false := by rw [bI_eq.mp h11]; rfl
    have hk0 : 0 = 1 → ∃ t bi, z1 = nI t ∧ t < V 0 7 0 ∧ b = some bi ∧ bi < nb ∧ YB V bi (xu I 13 0 0 (nI 0)) := fun z => absurd z (by decide)
    have hc1 : 0 = (if (inr z1 (V 0 7 0) && inr z2 (V 0 4 0)) = true then 1 else 0) := by rw [hcc]; rfl
    refine x_iconst dX13_duty_26 li_0 ?_
    refine x_iload_n dX13_duty_27 rfl ?_
    refine x_iload_n dX13_duty_28 rfl ?_
    refine x_cvi (m_asks (d := d + 1) hV hW hN (by omega) hk0) kX13_436 dX13_duty_29 rfl (Nat.le_of_ble_eq_true rfl) rfl rfl (Nat.le_of_ble_eq_true rfl) (fun ru Mu hq => ?_)
    obtain ⟨w, I1, rfl, rfl, hm, hw, hx0⟩ := hq
    have ew : w = wnb V z1 4 z2 z3 := by
      rw [hw]
      unfold wnb
      rw [hcc]
      simp
    have hwb : w ≤ 2 := by rw [hw]; split <;> (try split) <;> omega
    have hB0 : w = 0 → ∃ t s bi H, z1 = nI t ∧ t < V 0 7 0 ∧ z2 = nI s ∧ s < V 0 4 0 ∧ b = some bi ∧ bi < nb ∧ YB V bi I1 ∧ z3 = nI H ∧ H ≤ 99 := fun z => by
      have hcT : (inr z1 (V 0 7 0) && inr z2 (V 0 4 0)) = true := by
        cases hq : (inr z1 (V 0 7 0) && inr z2 (V 0 4 0)) with
        | true => rfl
        | false => rw [hq] at hcc; rw [z] at ew; unfold wnb at ew; rw [hq] at ew; simp at ew
      obtain ⟨k1, k2⟩ := Bool.and_eq_true_iff.mp hcT
      obtain ⟨t, ht, et⟩ := inr_of k1 (by omega)
      obtain ⟨s, hs, es⟩ := inr_of k2 (by omega)
      obtain ⟨bi, hb, hbn, hB⟩ := (hO.mx hm).some (show V 0 7 0 ≠ 0 by omega) (by decide)
      obtain ⟨H, _, hH, eH⟩ := wth_of (hx0 z).2.2 (by omega) (by omega)
      exact ⟨t, s, bi, H, et, ht, es, hs, hb, hbn, hB, eH, hH⟩
    refine x_istore dX13_duty_32 (by decide) rfl ?_
    refine x_iload dX13_duty_34 rfl ?_
    refine x_ifN_le 48 dX13_duty_36 (by decide) (by omega) (fun h36 => ?_) (fun h36 => ?_)
    · obtain ⟨t, s, bi, H, rfl, ht, rfl, hs, hb, hbn, hB, rfl, hH⟩ := hB0 (by omega)
      obtain ⟨hx, hp, -⟩ := hx0 (by omega)
      rw [zN_nI (by omega), zN_nI (by omega)] at hx
      have hg : ∀ i, i < V 0 2 0 → xf V (ON N t) H i ≤ 198 := fun i hi => xf_le ((hW t ht).2 i (by omega))
      have hw0 : wnb V (nI t) 4 (nI s) (nI H) = 0 := by omega
      refine x_aload_n dX13_duty_48 rfl ?_
      refine x_aload_n dX13_duty_49 rfl ?_
      refine x_iload_n dX13_duty_50 rfl ?_
      refine x_iload_n dX13_duty_51 rfl ?_
      refine x_cvi (m_dutyAt (d := d) hV hb hbn hB hx hg (nz := fun p => V 6 p 0) hp (fun p hp => (hV.2.2.2.2.2.2.2.2.2.2.2.2.2.2.2.1 p hp).2) ht hs) kX13_442 dX13_duty_52 rfl (Nat.le_of_ble_eq_true rfl) rfl rfl (Nat.le_of_ble_eq_true rfl) (fun ru Mu hq => ?_)
      obtain ⟨rfl, rfl⟩ := hq
      refine x_cvi (m_good) kX13_82 dX13_duty_55 rfl (Nat.le_of_ble_eq_true rfl) rfl rfl (Nat.le_of_ble_eq_true rfl) (fun ru Mu hq => ?_)
      obtain ⟨rfl, rfl⟩ := hq
      refine x_iret dX13_duty_58 rfl ?_
      first
        | (rw [ew]; refine qM_ok (show a_duty V N _ _ _ = (-1, wnb V z1 4 z2 z3) from if_neg hwn) hm)
        | (refine qM_ok (show a_duty V N _ _ _ = _ from ?_) hm; unfold a_duty a_bh; rw [if_pos hw0, zN_nI (by omega), zN_nI (by omega), zN_nI (by omega)]; rfl)
    · have hwn : wnb V z1 4 z2 z3 ≠ 0 := by omega
      refine x_aload_n dX13_duty_39 rfl ?_
      refine x_iload dX13_duty_40 rfl ?_
      refine x_cvi (m_refused) kX13_78 dX13_duty_42 rfl (Nat.le_of_ble_eq_true rfl) rfl rfl (Nat.le_of_ble_eq_true rfl) (fun ru Mu hq => ?_)
      obtain ⟨rfl, rfl⟩ := hq
      refine x_goto 58 dX13_duty_45 (by decide) ?_
      refine x_iret dX13_duty_58 rfl ?_
      first
        | (rw [ew]; refine qM_ok (show a_duty V N _ _ _ = (-1, wnb V z1 4 z2 z3) from if_neg hwn) hm)
        | (refine qM_ok (show a_duty V N _ _ _ = _ from ?_) hm; unfold a_duty a_bh; rw [if_pos hw0, zN_nI (by omega), zN_nI (by omega), zN_nI (by omega)]; rfl)
  · refine x_aload_n dX13_duty_14 rfl ?_
    refine x_iload_n dX13_duty_15 rfl ?_
    refine x_cvi (m_isPlace' hV hO) kX13_422 dX13_duty_16 rfl (Nat.le_of_ble_eq_true rfl) rfl rfl (Nat.le_of_ble_eq_true rfl) (fun ru Mu hq => ?_)
    obtain ⟨rfl, rfl⟩ := hq
    refine x_if_eq 26 dX13_duty_19 (by decide) (fun h19 => ?_) (fun h19 => ?_)
    · have hcc : (inr z1 (V 0 7 0) && inr z2 (V 0 4 0)) = false := by rw [bI_eq.mp h19, Bool.and_false]
      have hk0 : 0 = 1 → ∃ t bi, z1 = nI t ∧ t < V 0 7 0 ∧ b = some bi ∧ bi < nb ∧ YB V bi (xu I 13 0 0 (nI 0)) := fun z => absurd z (by decide)
      have hc1 : 0 = (if (inr z1 (V 0 7 0) && inr z2 (V 0 4 0)) = true then 1 else 0) := by rw [hcc]; rfl
      refine x_iconst dX13_duty_26 li_0 ?_
      refine x_iload_n dX13_duty_27 rfl ?_
      refine x_iload_n dX13_duty_28 rfl ?_
      refine x_cvi (m_asks (d := d + 1) hV hW hN (by omega) hk0) kX13_436 dX13_duty_29 rfl (Nat.le_of_ble_eq_true rfl) rfl rfl (Nat.le_of_ble_eq_true rfl) (fun ru Mu hq => ?_)
      obtain ⟨w, I1, rfl, rfl, hm, hw, hx0⟩ := hq
      have ew : w = wnb V z1 4 z2 z3 := by
        rw [hw]
        unfold wnb
        rw [hcc]
        simp
      have hwb : w ≤ 2 := by rw [hw]; split <;> (try split) <;> omega
      have hB0 : w = 0 → ∃ t s bi H, z1 = nI t ∧ t < V 0 7 0 ∧ z2 = nI s ∧ s < V 0 4 0 ∧ b = some bi ∧ bi < nb ∧ YB V bi I1 ∧ z3 = nI H ∧ H ≤ 99 := fun z => by
        have hcT : (inr z1 (V 0 7 0) && inr z2 (V 0 4 0)) = true := by
          cases hq : (inr z1 (V 0 7 0) && inr z2 (V 0 4 0)) with
          | true => rfl
          | false => rw [hq] at hcc; rw [z] at ew; unfold wnb at ew; rw [hq] at ew; simp at ew
        obtain ⟨k1, k2⟩ := Bool.and_eq_true_iff.mp hcT
        obtain ⟨t, ht, et⟩ := inr_of k1 (by omega)
        obtain ⟨s, hs, es⟩ := inr_of k2 (by omega)
        obtain ⟨bi, hb, hbn, hB⟩ := (hO.mx hm).some (show V 0 7 0 ≠ 0 by omega) (by decide)
        obtain ⟨H, _, hH, eH⟩ := wth_of (hx0 z).2.2 (by omega) (by omega)
        exact ⟨t, s, bi, H, et, ht, es, hs, hb, hbn, hB, eH, hH⟩
      refine x_istore dX13_duty_32 (by decide) rfl ?_
      refine x_iload dX13_duty_34 rfl ?_
      refine x_ifN_le 48 dX13_duty_36 (by decide) (by omega) (fun h36 => ?_) (fun h36 => ?_)
      · obtain ⟨t, s, bi, H, rfl, ht, rfl, hs, hb, hbn, hB, rfl, hH⟩ := hB0 (by omega)
        obtain ⟨hx, hp, -⟩ := hx0 (by omega)
        rw [zN_nI (by omega), zN_nI (by omega)] at hx
        have hg : ∀ i, i < V 0 2 0 → xf V (ON N t) H i ≤ 198 := fun i hi => xf_le ((hW t ht).2 i (by omega))
        have hw0 : wnb V (nI t) 4 (nI s) (nI H) = 0 := by omega
        refine x_aload_n dX13_duty_48 rfl ?_
        refine x_aload_n dX13_duty_49 rfl ?_
        refine x_iload_n dX13_duty_50 rfl ?_
        refine x_iload_n dX13_duty_51 rfl ?_
        refine x_cvi (m_dutyAt (d := d) hV hb hbn hB hx hg (nz := fun p => V 6 p 0) hp (fun p hp => (hV.2.2.2.2.2.2.2.2.2.2.2.2.2.2.2.1 p hp).2) ht hs) kX13_442 dX13_duty_52 rfl (Nat.le_of_ble_eq_true rfl) rfl rfl (Nat.le_of_ble_eq_true rfl) (fun ru Mu hq => ?_)
        obtain ⟨rfl, rfl⟩ := hq
        refine x_cvi (m_good) kX13_82 dX13_duty_55 rfl (Nat.le_of_ble_eq_true rfl) rfl rfl (Nat.le_of_ble_eq_true rfl) (fun ru Mu hq => ?_)
        obtain ⟨rfl, rfl⟩ := hq
        refine x_iret dX13_duty_58 rfl ?_
        first
          | (rw [ew]; refine qM_ok (show a_duty V N _ _ _ = (-1, wnb V z1 4 z2 z3) from if_neg hwn) hm)
          | (refine qM_ok (show a_duty V N _ _ _ = _ from ?_) hm; unfold a_duty a_bh; rw [if_pos hw0, zN_nI (by omega), zN_nI (by omega), zN_nI (by omega)]; rfl)
      · have hwn : wnb V z1 4 z2 z3 ≠ 0 := by omega
        refine x_aload_n dX13_duty_39 rfl ?_
        refine x_iload dX13_duty_40 rfl ?_
        refine x_cvi (m_refused) kX13_78 dX13_duty_42 rfl (Nat.le_of_ble_eq_true rfl) rfl rfl (Nat.le_of_ble_eq_true rfl) (fun ru Mu hq => ?_)
        obtain ⟨rfl, rfl⟩ := hq
        refine x_goto 58 dX13_duty_45 (by decide) ?_
        refine x_iret dX13_duty_58 rfl ?_
        first
          | (rw [ew]; refine qM_ok (show a_duty V N _ _ _ = (-1, wnb V z1 4 z2 z3) from if_neg hwn) hm)
          | (refine qM_ok (show a_duty V N _ _ _ = _ from ?_) hm; unfold a_duty a_bh; rw [if_pos hw0, zN_nI (by omega), zN_nI (by omega), zN_nI (by omega)]; rfl)
    · have hcc : (inr z1 (V 0 7 0) && inr z2 (V 0 4 0)) = true := by rw [bI_ne.mp h11, bI_ne.mp h19]; rfl
      have hk0 : 1 = 1 → ∃ t bi, z1 = nI t ∧ t < V 0 7 0 ∧ b = some bi ∧ bi < nb ∧ YB V bi (xu I 13 0 0 (nI 0)) := fun _ => by
        obtain ⟨t, ht, et⟩ := inr_of (bI_ne.mp h11) (by omega)
        obtain ⟨bi, hb, hbn, hB⟩ := hO.some (show V 0 7 0 ≠ 0 by omega) (by decide)
        exact ⟨t, bi, et, ht, hb, hbn, hB⟩
      have hc1 : 1 = (if (inr z1 (V 0 7 0) && inr z2 (V 0 4 0)) = true then 1 else 0) := by rw [hcc]; rfl
      refine x_iconst dX13_duty_22 li_1 ?_
      refine x_goto 27 dX13_duty_23 (by decide) ?_
      refine x_iload_n dX13_duty_27 rfl ?_
      refine x_iload_n dX13_duty_28 rfl ?_
      refine x_cvi (m_asks (d := d + 1) hV hW hN (by omega) hk0) kX13_436 dX13_duty_29 rfl (Nat.le_of_ble_eq_true rfl) rfl rfl (Nat.le_of_ble_eq_true rfl) (fun ru Mu hq => ?_)
      obtain ⟨w, I1, rfl, rfl, hm, hw, hx0⟩ := hq
      have ew : w = wnb V z1 4 z2 z3 := by
        rw [hw]
        unfold wnb
        rw [hcc]
        simp
      have hwb : w ≤ 2 := by rw [hw]; split <;> (try split) <;> omega
      have hB0 : w = 0 → ∃ t s bi H, z1 = nI t ∧ t < V 0 7 0 ∧ z2 = nI s ∧ s < V 0 4 0 ∧ b = some bi ∧ bi < nb ∧ YB V bi I1 ∧ z3 = nI H ∧ H ≤ 99 := fun z => by
        have hcT : (inr z1 (V 0 7 0) && inr z2 (V 0 4 0)) = true := by
          cases hq : (inr z1 (V 0 7 0) && inr z2 (V 0 4 0)) with
          | true => rfl
          | false => rw [hq] at hcc; rw [z] at ew; unfold wnb at ew; rw [hq] at ew; simp at ew
        obtain ⟨k1, k2⟩ := Bool.and_eq_true_iff.mp hcT
        obtain ⟨t, ht, et⟩ := inr_of k1 (by omega)
        obtain ⟨s, hs, es⟩ := inr_of k2 (by omega)
        obtain ⟨bi, hb, hbn, hB⟩ := (hO.mx hm).some (show V 0 7 0 ≠ 0 by omega) (by decide)
        obtain ⟨H, _, hH, eH⟩ := wth_of (hx0 z).2.2 (by omega) (by omega)
        exact ⟨t, s, bi, H, et, ht, es, hs, hb, hbn, hB, eH, hH⟩
      refine x_istore dX13_duty_32 (by decide) rfl ?_
      refine x_iload dX13_duty_34 rfl ?_
      refine x_ifN_le 48 dX13_duty_36 (by decide) (by omega) (fun h36 => ?_) (fun h36 => ?_)
      · obtain ⟨t, s, bi, H, rfl, ht, rfl, hs, hb, hbn, hB, rfl, hH⟩ := hB0 (by omega)
        obtain ⟨hx, hp, -⟩ := hx0 (by omega)
        rw [zN_nI (by omega), zN_nI (by omega)] at hx
        have hg : ∀ i, i < V 0 2 0 → xf V (ON N t) H i ≤ 198 := fun i hi => xf_le ((hW t ht).2 i (by omega))
        have hw0 : wnb V (nI t) 4 (nI s) (nI H) = 0 := by omega
        refine x_aload_n dX13_duty_48 rfl ?_
        refine x_aload_n dX13_duty_49 rfl ?_
        refine x_iload_n dX13_duty_50 rfl ?_
        refine x_iload_n dX13_duty_51 rfl ?_
        refine x_cvi (m_dutyAt (d := d) hV hb hbn hB hx hg (nz := fun p => V 6 p 0) hp (fun p hp => (hV.2.2.2.2.2.2.2.2.2.2.2.2.2.2.2.1 p hp).2) ht hs) kX13_442 dX13_duty_52 rfl (Nat.le_of_ble_eq_true rfl) rfl rfl (Nat.le_of_ble_eq_true rfl) (fun ru Mu hq => ?_)
        obtain ⟨rfl, rfl⟩ := hq
        refine x_cvi (m_good) kX13_82 dX13_duty_55 rfl (Nat.le_of_ble_eq_true rfl) rfl rfl (Nat.le_of_ble_eq_true rfl) (fun ru Mu hq => ?_)
        obtain ⟨rfl, rfl⟩ := hq
        refine x_iret dX13_duty_58 rfl ?_
        first
          | (rw [ew]; refine qM_ok (show a_duty V N _ _ _ = (-1, wnb V z1 4 z2 z3) from if_neg hwn) hm)
          | (refine qM_ok (show a_duty V N _ _ _ = _ from ?_) hm; unfold a_duty a_bh; rw [if_pos hw0, zN_nI (by omega), zN_nI (by omega), zN_nI (by omega)]; rfl)
      · have hwn : wnb V z1 4 z2 z3 ≠ 0 := by omega
        refine x_aload_n dX13_duty_39 rfl ?_
        refine x_iload dX13_duty_40 rfl ?_
        refine x_cvi (m_refused) kX13_78 dX13_duty_42 rfl (Nat.le_of_ble_eq_true rfl) rfl rfl (Nat.le_of_ble_eq_true rfl) (fun ru Mu hq => ?_)
        obtain ⟨rfl, rfl⟩ := hq
        refine x_goto 58 dX13_duty_45 (by decide) ?_
        refine x_iret dX13_duty_58 rfl ?_
        first
          | (rw [ew]; refine qM_ok (show a_duty V N _ _ _ = (-1, wnb V z1 4 z2 z3) from if_neg hwn) hm)
          | (refine qM_ok (show a_duty V N _ _ _ = _ from ?_) hm; unfold a_duty a_bh; rw [if_pos hw0, zN_nI (by omega), zN_nI (by omega), zN_nI (by omega)]; rfl)
set_option maxRecDepth 100000 in
set_option maxHeartbeats 600000 in
theorem m_smelt (hV : VW V) (hO : YO V nb b I) {N : sN} (hW : NW V N) (hN : YN V N I) {z1 z2 z3 : Int32} : Mt G vX13_smelt (d + 3) (0, 0) [.ref (ad 13 0), .int (z1), .int (z2), .int (z3)] (MM ad nb b r I L) (qM ad nb b r I L (a_smelt V N z1 z2 z3)) := by
  have v0 := hV.1
  have v1 := hV.2.1
  have v2 := hV.2.2.1
  have v3 := hV.2.2.2.1
  have v4 := hV.2.2.2.2.1
  have v7 := hV.2.2.2.2.2.2.2.1
  have v9 := hV.2.2.2.2.2.2.2.2.2.1
  have v10 := hV.2.2.2.2.2.2.2.2.2.2.1
  have hO := hO.sm (I' := (xu I 13 0 0 (nI 0))) (fun q hq => by funext x y; rw [xu_ns (by omega)])
  have hN := hN.sm (I' := (xu I 13 0 0 (nI 0))) (by funext x y; rw [xu_ns (by decide)])
  have hm := MX.rf (I := (xu I 13 0 0 (nI 0)))
  have loop52 : ∀ (n : Nat) (bi t s H k : Nat) (I1 : Nat → Nat → Nat → Int32), V 0 2 0 - k < n → MX (xu I 13 0 0 (nI 0)) I1 → b = some bi → bi < nb → YB V bi I1 → t < V 0 7 0 → s < V 0 3 0 → H ≤ 99 → (∀ s, s < V 0 2 0 → I1 88 0 s = nI (xf V (ON N t) H s)) → (∀ i, i < V 0 2 0 → xf V (ON N t) H i ≤ 198) → wnb V (nI t) 3 (nI s) (nI H) = 0 → (z1 = nI t ∧ z2 = nI s ∧ z3 = nI H) → k ≤ V 0 2 0 → X G vX13_smelt (d + 3) (0, 0) 52 [(0, some (.ref (ad 13 0))), (1, some (.int (nI (t)))), (2, some (.int (nI (s)))), (3, some (.int (nI (H)))), (5, some (.int (nI (smb V (str V (ON N t) H 0) (V 4 s 0) k)))), (6, some (.int (nI (k))))] [] (MM ad nb b r I1 L) (xT G (qM ad nb b r I L (a_smelt V N z1 z2 z3))) := by
    intro n
    induction n with
    | zero => intro bi t s H k I1 h0; omega
    | succ n ih =>
      intro bi t s H k I1 hn hm hb hbn hB ht hs hH hx hg hw0 e1 hk
      have hs60 := (hV.2.2.2.2.2.2.2.2.2.2.2.2.2.2.1 s hs).2
      refine x_iload dX13_smelt_52 rfl ?_
      refine x_aload_n dX13_smelt_54 rfl ?_
      refine g_M_border hb fX13_397 dX13_smelt_55 ?_
      refine g_MB_smells fX13_301 dX13_smelt_58 hbn ?_
      refine x_top (y12_2 hB) ?_
      refine x_icN_ge 101 dX13_smelt_61 (by decide) (by omega) (by omega) (fun h61 => ?_) (fun h61 => ?_)
      · obtain rfl : k = V 0 2 0 := by omega
        obtain ⟨rfl, rfl, rfl⟩ := e1
        refine x_aload_n dX13_smelt_101 rfl ?_
        refine x_iload dX13_smelt_102 rfl ?_
        refine x_cvi (m_good) kX13_82 dX13_smelt_104 rfl (Nat.le_of_ble_eq_true rfl) rfl rfl (Nat.le_of_ble_eq_true rfl) (fun ru Mu hq => ?_)
        obtain ⟨rfl, rfl⟩ := hq
        refine x_iret dX13_smelt_107 rfl ?_
        refine qM_ok (show a_smelt V N _ _ _ = _ from ?_) hm
        unfold a_smelt a_bh
        rw [if_pos hw0, zN_nI (by omega), zN_nI (by omega), zN_nI (by omega)]
        rfl
      · have hk2 : k < V 0 2 0 := h61
        refine x_iload dX13_smelt_64 rfl ?_
        refine x_aload_n dX13_smelt_66 rfl ?_
        refine x_iload dX13_smelt_67 rfl ?_
        refine x_aload_n dX13_smelt_69 rfl ?_
        refine g_M_border hb fX13_397 dX13_smelt_70 ?_
        refine g_MB_skill fX13_323 dX13_smelt_73 hbn ?_
        refine x_iload_n dX13_smelt_76 rfl ?_
        refine x_iald dX13_smelt_77 rfl rfl hbn (by first | exact Nat.le_of_ble_eq_true rfl | assumption | omega) ?_
        refine x_top (y67 hB (by first | assumption | omega)) ?_
        refine x_cvi (m_isSmelt (d := d + 1) (s := k) hV hb hbn hB hx hg hk2 (by omega)) kX13_411 dX13_smelt_78 rfl (Nat.le_of_ble_eq_true rfl) rfl rfl (Nat.le_of_ble_eq_true rfl) (fun ru Mu hq => ?_)
        obtain ⟨rfl, rfl⟩ := hq
        refine x_if_eq 91 dX13_smelt_81 (by decide) (fun h81 => ?_) (fun h81 => ?_)
        · have hn0 : ¬ V 4 s 0 ≤ unc V (str V (ON N t) H 0) k := of_decide_eq_false (bI_eq.mp h81)
          have ec : some (Value.int (nI (smb V (str V (ON N t) H 0) (V 4 s 0) k ||| 0))) = some (Value.int (nI (smb V (str V (ON N t) H 0) (V 4 s 0) (k + 1)))) := by rw [smb, if_neg hn0, Nat.or_zero]
          refine x_iconst dX13_smelt_91 li_0 ?_
          refine x_ior dX13_smelt_92 ?_
          rw [nI_or]
          refine x_istore dX13_smelt_93 (by decide) rfl ?_
          refine x_iincN 1 dX13_smelt_95 li_1 rfl (by decide) rfl ?_
          refine x_goto 52 dX13_smelt_98 (by decide) ?_
          refine x_ls ?_ (ih bi t s H (k + 1) I1 (by omega) hm hb hbn hB ht hs hH hx hg hw0 e1 (by omega))
          exact ⟨rfl, rfl, rfl, rfl, ec, rfl, trivial⟩
        · have hn0 : V 4 s 0 ≤ unc V (str V (ON N t) H 0) k := of_decide_eq_true (bI_ne.mp h81)
          have ec : some (Value.int (nI (smb V (str V (ON N t) H 0) (V 4 s 0) k ||| 2 ^ k))) = some (Value.int (nI (smb V (str V (ON N t) H 0) (V 4 s 0) (k + 1)))) := by rw [smb, if_pos hn0]
          refine x_iconst dX13_smelt_84 li_1 ?_
          refine x_iload dX13_smelt_85 rfl ?_
          refine x_ishl dX13_smelt_87 ?_
          rw [sh1 k (by omega)]
          refine x_goto 92 dX13_smelt_88 (by decide) ?_
          refine x_ior dX13_smelt_92 ?_
          rw [nI_or]
          refine x_istore dX13_smelt_93 (by decide) rfl ?_
          refine x_iincN 1 dX13_smelt_95 li_1 rfl (by decide) rfl ?_
          refine x_goto 52 dX13_smelt_98 (by decide) ?_
          refine x_ls ?_ (ih bi t s H (k + 1) I1 (by omega) hm hb hbn hB ht hs hH hx hg hw0 e1 (by omega))
          exact ⟨rfl, rfl, rfl, rfl, ec, rfl, trivial⟩
  refine x_start (by decide) (Nat.le_of_ble_eq_true rfl) ?_
  refine x_aload_n dX13_smelt_0 rfl ?_
  refine x_iconst dX13_smelt_1 li_0 ?_
  refine p_M_thrown fX13_72 dX13_smelt_2 ?_
  refine x_aload_n dX13_smelt_5 rfl ?_
  refine x_aload_n dX13_smelt_6 rfl ?_
  refine x_iload_n dX13_smelt_7 rfl ?_
  refine x_cvi (m_isTraveller' hV hO) kX13_425 dX13_smelt_8 rfl (Nat.le_of_ble_eq_true rfl) rfl rfl (Nat.le_of_ble_eq_true rfl) (fun ru Mu hq => ?_)
  obtain ⟨rfl, rfl⟩ := hq
  refine x_if_eq 26 dX13_smelt_11 (by decide) (fun h11 => ?_) (fun h11 => ?_)
  · have hcc : (inr z1 (V 0 7 0) && inr z2 (V 0 3 0)) = false := by rw [bI_eq.mp h11]; rfl
    have hk0 : 0 = 1 → ∃ t bi, z1 = nI t ∧ t < V 0 7 0 ∧ b = some bi ∧ bi < nb ∧ YB V bi (xu I 13 0 0 (nI 0)) := fun z => absurd z (by decide)
    have hc1 : 0 = (if (inr z1 (V 0 7 0) && inr z2 (V 0 3 0)) = true then 1 else 0) := by rw [hcc]; rfl
    refine x_iconst dX13_smelt_26 li_0 ?_
    refine x_iload_n dX13_smelt_27 rfl ?_
    refine x_iload_n dX13_smelt_28 rfl ?_
    refine x_cvi (m_asks (d := d) hV hW hN (by omega) hk0) kX13_436 dX13_smelt_29 rfl (Nat.le_of_ble_eq_true rfl) rfl rfl (Nat.le_of_ble_eq_true rfl) (fun ru Mu hq => ?_)
    obtain ⟨w, I1, rfl, rfl, hm, hw, hx0⟩ := hq
    have ew : w = wnb V z1 3 z2 z3 := by
      rw [hw]
      unfold wnb
      rw [hcc]
      simp
    have hwb : w ≤ 2 := by rw [hw]; split <;> (try split) <;> omega
    have hB0 : w = 0 → ∃ t s bi H, z1 = nI t ∧ t < V 0 7 0 ∧ z2 = nI s ∧ s < V 0 3 0 ∧ b = some bi ∧ bi < nb ∧ YB V bi I1 ∧ z3 = nI H ∧ H ≤ 99 := fun z => by
      have hcT : (inr z1 (V 0 7 0) && inr z2 (V 0 3 0)) = true := by
        cases hq : (inr z1 (V 0 7 0) && inr z2 (V 0 3 0)) with
        | true => rfl
        | false => rw [hq] at hcc; rw [z] at ew; unfold wnb at ew; rw [hq] at ew; simp at ew
      obtain ⟨k1, k2⟩ := Bool.and_eq_true_iff.mp hcT
      obtain ⟨t, ht, et⟩ := inr_of k1 (by omega)
      obtain ⟨s, hs, es⟩ := inr_of k2 (by omega)
      obtain ⟨bi, hb, hbn, hB⟩ := (hO.mx hm).some (show V 0 7 0 ≠ 0 by omega) (by decide)
      obtain ⟨H, _, hH, eH⟩ := wth_of (hx0 z).2.2 (by omega) (by omega)
      exact ⟨t, s, bi, H, et, ht, es, hs, hb, hbn, hB, eH, hH⟩
    refine x_istore dX13_smelt_32 (by decide) rfl ?_
    refine x_iload dX13_smelt_34 rfl ?_
    refine x_ifN_le 46 dX13_smelt_36 (by decide) (by omega) (fun h36 => ?_) (fun h36 => ?_)
    · obtain ⟨t, s, bi, H, rfl, ht, rfl, hs, hb, hbn, hB, rfl, hH⟩ := hB0 (by omega)
      obtain ⟨hx, hp, -⟩ := hx0 (by omega)
      rw [zN_nI (by omega), zN_nI (by omega)] at hx
      have hg : ∀ i, i < V 0 2 0 → xf V (ON N t) H i ≤ 198 := fun i hi => xf_le ((hW t ht).2 i (by omega))
      have hw0 : wnb V (nI t) 3 (nI s) (nI H) = 0 := by omega
      refine x_iconst dX13_smelt_46 li_0 ?_
      refine x_istore dX13_smelt_47 (by decide) rfl ?_
      refine x_iconst dX13_smelt_49 li_0 ?_
      refine x_istore dX13_smelt_50 (by decide) rfl ?_
      refine x_ls ?_ (loop52 (V 0 2 0 + 1) bi t s H 0 I1 (by omega) hm hb hbn hB ht hs hH hx hg hw0 ⟨rfl, rfl, rfl⟩ (by omega))
      exact ⟨rfl, rfl, rfl, rfl, rfl, rfl, trivial⟩
    · have hwn : wnb V z1 3 z2 z3 ≠ 0 := by omega
      refine x_aload_n dX13_smelt_39 rfl ?_
      refine x_iload dX13_smelt_40 rfl ?_
      refine x_cvi (m_refused) kX13_78 dX13_smelt_42 rfl (Nat.le_of_ble_eq_true rfl) rfl rfl (Nat.le_of_ble_eq_true rfl) (fun ru Mu hq => ?_)
      obtain ⟨rfl, rfl⟩ := hq
      refine x_iret dX13_smelt_45 rfl ?_
      rw [ew]
      refine qM_ok (show a_smelt V N _ _ _ = (-1, wnb V z1 3 z2 z3) from if_neg hwn) hm
  · refine x_aload_n dX13_smelt_14 rfl ?_
    refine x_iload_n dX13_smelt_15 rfl ?_
    refine x_cvi (m_isNose' hV hO) kX13_439 dX13_smelt_16 rfl (Nat.le_of_ble_eq_true rfl) rfl rfl (Nat.le_of_ble_eq_true rfl) (fun ru Mu hq => ?_)
    obtain ⟨rfl, rfl⟩ := hq
    refine x_if_eq 26 dX13_smelt_19 (by decide) (fun h19 => ?_) (fun h19 => ?_)
    · have hcc : (inr z1 (V 0 7 0) && inr z2 (V 0 3 0)) = false := by rw [bI_eq.mp h19, Bool.and_false]
      have hk0 : 0 = 1 → ∃ t bi, z1 = nI t ∧ t < V 0 7 0 ∧ b = some bi ∧ bi < nb ∧ YB V bi (xu I 13 0 0 (nI 0)) := fun z => absurd z (by decide)
      have hc1 : 0 = (if (inr z1 (V 0 7 0) && inr z2 (V 0 3 0)) = true then 1 else 0) := by rw [hcc]; rfl
      refine x_iconst dX13_smelt_26 li_0 ?_
      refine x_iload_n dX13_smelt_27 rfl ?_
      refine x_iload_n dX13_smelt_28 rfl ?_
      refine x_cvi (m_asks (d := d) hV hW hN (by omega) hk0) kX13_436 dX13_smelt_29 rfl (Nat.le_of_ble_eq_true rfl) rfl rfl (Nat.le_of_ble_eq_true rfl) (fun ru Mu hq => ?_)
      obtain ⟨w, I1, rfl, rfl, hm, hw, hx0⟩ := hq
      have ew : w = wnb V z1 3 z2 z3 := by
        rw [hw]
        unfold wnb
        rw [hcc]
        simp
      have hwb : w ≤ 2 := by rw [hw]; split <;> (try split) <;> omega
      have hB0 : w = 0 → ∃ t s bi H, z1 = nI t ∧ t < V 0 7 0 ∧ z2 = nI s ∧ s < V 0 3 0 ∧ b = some bi ∧ bi < nb ∧ YB V bi I1 ∧ z3 = nI H ∧ H ≤ 99 := fun z => by
        have hcT : (inr z1 (V 0 7 0) && inr z2 (V 0 3 0)) = true := by
          cases hq : (inr z1 (V 0 7 0) && inr z2 (V 0 3 0)) with
          | true => rfl
          | false => rw [hq] at hcc; rw [z] at ew; unfold wnb at ew; rw [hq] at ew; simp at ew
        obtain ⟨k1, k2⟩ := Bool.and_eq_true_iff.mp hcT
        obtain ⟨t, ht, et⟩ := inr_of k1 (by omega)
        obtain ⟨s, hs, es⟩ := inr_of k2 (by omega)
        obtain ⟨bi, hb, hbn, hB⟩ := (hO.mx hm).some (show V 0 7 0 ≠ 0 by omega) (by decide)
        obtain ⟨H, _, hH, eH⟩ := wth_of (hx0 z).2.2 (by omega) (by omega)
        exact ⟨t, s, bi, H, et, ht, es, hs, hb, hbn, hB, eH, hH⟩
      refine x_istore dX13_smelt_32 (by decide) rfl ?_
      refine x_iload dX13_smelt_34 rfl ?_
      refine x_ifN_le 46 dX13_smelt_36 (by decide) (by omega) (fun h36 => ?_) (fun h36 => ?_)
      · obtain ⟨t, s, bi, H, rfl, ht, rfl, hs, hb, hbn, hB, rfl, hH⟩ := hB0 (by omega)
        obtain ⟨hx, hp, -⟩ := hx0 (by omega)
        rw [zN_nI (by omega), zN_nI (by omega)] at hx
        have hg : ∀ i, i < V 0 2 0 → xf V (ON N t) H i ≤ 198 := fun i hi => xf_le ((hW t ht).2 i (by omega))
        have hw0 : wnb V (nI t) 3 (nI s) (nI H) = 0 := by omega
        refine x_iconst dX13_smelt_46 li_0 ?_
        refine x_istore dX13_smelt_47 (by decide) rfl ?_
        refine x_iconst dX13_smelt_49 li_0 ?_
        refine x_istore dX13_smelt_50 (by decide) rfl ?_
        refine x_ls ?_ (loop52 (V 0 2 0 + 1) bi t s H 0 I1 (by omega) hm hb hbn hB ht hs hH hx hg hw0 ⟨rfl, rfl, rfl⟩ (by omega))
        exact ⟨rfl, rfl, rfl, rfl, rfl, rfl, trivial⟩
      · have hwn : wnb V z1 3 z2 z3 ≠ 0 := by omega
        refine x_aload_n dX13_smelt_39 rfl ?_
        refine x_iload dX13_smelt_40 rfl ?_
        refine x_cvi (m_refused) kX13_78 dX13_smelt_42 rfl (Nat.le_of_ble_eq_true rfl) rfl rfl (Nat.le_of_ble_eq_true rfl) (fun ru Mu hq => ?_)
        obtain ⟨rfl, rfl⟩ := hq
        refine x_iret dX13_smelt_45 rfl ?_
        rw [ew]
        refine qM_ok (show a_smelt V N _ _ _ = (-1, wnb V z1 3 z2 z3) from if_neg hwn) hm
    · have hcc : (inr z1 (V 0 7 0) && inr z2 (V 0 3 0)) = true := by rw [bI_ne.mp h11, bI_ne.mp h19]; rfl
      have hk0 : 1 = 1 → ∃ t bi, z1 = nI t ∧ t < V 0 7 0 ∧ b = some bi ∧ bi < nb ∧ YB V bi (xu I 13 0 0 (nI 0)) := fun _ => by
        obtain ⟨t, ht, et⟩ := inr_of (bI_ne.mp h11) (by omega)
        obtain ⟨bi, hb, hbn, hB⟩ := hO.some (show V 0 7 0 ≠ 0 by omega) (by decide)
        exact ⟨t, bi, et, ht, hb, hbn, hB⟩
      have hc1 : 1 = (if (inr z1 (V 0 7 0) && inr z2 (V 0 3 0)) = true then 1 else 0) := by rw [hcc]; rfl
      refine x_iconst dX13_smelt_22 li_1 ?_
      refine x_goto 27 dX13_smelt_23 (by decide) ?_
      refine x_iload_n dX13_smelt_27 rfl ?_
      refine x_iload_n dX13_smelt_28 rfl ?_
      refine x_cvi (m_asks (d := d) hV hW hN (by omega) hk0) kX13_436 dX13_smelt_29 rfl (Nat.le_of_ble_eq_true rfl) rfl rfl (Nat.le_of_ble_eq_true rfl) (fun ru Mu hq => ?_)
      obtain ⟨w, I1, rfl, rfl, hm, hw, hx0⟩ := hq
      have ew : w = wnb V z1 3 z2 z3 := by
        rw [hw]
        unfold wnb
        rw [hcc]
        simp
      have hwb : w ≤ 2 := by rw [hw]; split <;> (try split) <;> omega
      have hB0 : w = 0 → ∃ t s bi H, z1 = nI t ∧ t < V 0 7 0 ∧ z2 = nI s ∧ s < V 0 3 0 ∧ b = some bi ∧ bi < nb ∧ YB V bi I1 ∧ z3 = nI H ∧ H ≤ 99 := fun z => by
        have hcT : (inr z1 (V 0 7 0) && inr z2 (V 0 3 0)) = true := by
          cases hq : (inr z1 (V 0 7 0) && inr z2 (V 0 3 0)) with
          | true => rfl
          | false => rw [hq] at hcc; rw [z] at ew; unfold wnb at ew; rw [hq] at ew; simp at ew
        obtain ⟨k1, k2⟩ := Bool.and_eq_true_iff.mp hcT
        obtain ⟨t, ht, et⟩ := inr_of k1 (by omega)
        obtain ⟨s, hs, es⟩ := inr_of k2 (by omega)
        obtain ⟨bi, hb, hbn, hB⟩ := (hO.mx hm).some (show V 0 7 0 ≠ 0 by omega) (by decide)
        obtain ⟨H, _, hH, eH⟩ := wth_of (hx0 z).2.2 (by omega) (by omega)
        exact ⟨t, s, bi, H, et, ht, es, hs, hb, hbn, hB, eH, hH⟩
      refine x_istore dX13_smelt_32 (by decide) rfl ?_
      refine x_iload dX13_smelt_34 rfl ?_
      refine x_ifN_le 46 dX13_smelt_36 (by decide) (by omega) (fun h36 => ?_) (fun h36 => ?_)
      · obtain ⟨t, s, bi, H, rfl, ht, rfl, hs, hb, hbn, hB, rfl, hH⟩ := hB0 (by omega)
        obtain ⟨hx, hp, -⟩ := hx0 (by omega)
        rw [zN_nI (by omega), zN_nI (by omega)] at hx
        have hg : ∀ i, i < V 0 2 0 → xf V (ON N t) H i ≤ 198 := fun i hi => xf_le ((hW t ht).2 i (by omega))
        have hw0 : wnb V (nI t) 3 (nI s) (nI H) = 0 := by omega
        refine x_iconst dX13_smelt_46 li_0 ?_
        refine x_istore dX13_smelt_47 (by decide) rfl ?_
        refine x_iconst dX13_smelt_49 li_0 ?_
        refine x_istore dX13_smelt_50 (by decide) rfl ?_
        refine x_ls ?_ (loop52 (V 0 2 0 + 1) bi t s H 0 I1 (by omega) hm hb hbn hB ht hs hH hx hg hw0 ⟨rfl, rfl, rfl⟩ (by omega))
        exact ⟨rfl, rfl, rfl, rfl, rfl, rfl, trivial⟩
      · have hwn : wnb V z1 3 z2 z3 ≠ 0 := by omega
        refine x_aload_n dX13_smelt_39 rfl ?_
        refine x_iload dX13_smelt_40 rfl ?_
        refine x_cvi (m_refused) kX13_78 dX13_smelt_42 rfl (Nat.le_of_ble_eq_true rfl) rfl rfl (Nat.le_of_ble_eq_true rfl) (fun ru Mu hq => ?_)
        obtain ⟨rfl, rfl⟩ := hq
        refine x_iret dX13_smelt_45 rfl ?_
        rw [ew]
        refine qM_ok (show a_smelt V N _ _ _ = (-1, wnb V z1 3 z2 z3) from if_neg hwn) hm
end M4
