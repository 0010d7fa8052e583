section M7
variable {G : xG} {ad : Nat → Nat → Nat} {nb : Nat} {b r : Option Nat} {L : Nat → Nat → Nat → Int64} {V : sV} {I : Nat → Nat → Nat → Int32} {d : Nat}

theorem cw_no {p0 t k : Nat} (h : cw V p0 t (k + 1) = false) : ∀ n, k < n → cw V p0 t n = false
  | 0, hk => absurd hk (Nat.not_lt_zero k)
  | n + 1, hk => by
    rcases (show k = n ∨ k < n by omega) with e | e
    · subst e; exact h
    · unfold cw; rw [cw_no h n e]; rfl
theorem pb_lt {p0 t : Nat} (hV : VW V) (hp : p0 < V 0 4 0) : ∀ k, k ≤ V 13 t 0 → pb V p0 t k < V 0 4 0 := by
  intro k hk
  unfold pb
  split
  · exact hp
  · exact hV.2.2.2.2.2.2.2.2.2.2.2.2.2.2.2.2.2.2.2.2.2.1 t (k - 1) (by omega)
theorem wth_inr {z : Int32} {n : Nat} (hn : 0 < n) (h31 : n < 2 ^ 31) : wth z 0 (n - 1) = inr z n := by
  unfold wth inr
  refine decide_eq_decide.mpr ⟨fun k => ⟨k.1, fun q => k.2 ?_⟩, fun k => ⟨k.1, fun q => k.2 ?_⟩⟩
  · have h1 := Int32.le_iff_toInt_le.mp q
    rw [nI_toInt (by omega)] at h1
    apply Int32.lt_iff_toInt_lt.mpr
    rw [nI_toInt (by omega)]
    omega
  · have h1 := Int32.lt_iff_toInt_lt.mp q
    rw [nI_toInt (by omega)] at h1
    apply Int32.le_iff_toInt_le.mpr
    rw [nI_toInt (by omega)]
    omega

set_option maxRecDepth 100000 in
set_option maxHeartbeats 600000 in
theorem m_canWalk (hV : VW V) {bi : Nat} (hb : b = some bi) (hbn : bi < nb) {N : sN} (hW : NW V N) (hB : YB V bi I) (hN : YN V N I) {t : Nat} (ht : t < V 0 7 0) : Mt G vX13_canWalk (d) (0, 0) [.ref (ad 13 0), .int (nI (t))] (MM ad nb b r I L) (qE (bI (cw V (N t 0) t (V 13 t 0))) (MM ad nb b r I L)) := by
  have v0 := hV.1
  have v1 := hV.2.1
  have v2 := hV.2.2.1
  have v3 := hV.2.2.2.1
  have v4 := hV.2.2.2.2.1
  have v7 := hV.2.2.2.2.2.2.2.1
  have v9 := hV.2.2.2.2.2.2.2.2.2.1
  have v10 := hV.2.2.2.2.2.2.2.2.2.2.1
  have h13 := hV.2.2.2.2.2.2.2.2.2.2.2.2.2.2.2.2.2.2.2.2.1 t
  have hp0 := (hW t ht).1
  have loop12 : ∀ (n : Nat) (k : Nat), V 13 t 0 - k < n → k ≤ V 13 t 0 → cw V (N t 0) t k = true → X G vX13_canWalk (d) (0, 0) 12 [(0, some (.ref (ad 13 0))), (1, some (.int (nI (t)))), (2, some (.int (nI (pb V (N t 0) t k)))), (3, some (.int (nI (k))))] [] (MM ad nb b r I L) (xT G (qE (bI (cw V (N t 0) t (V 13 t 0))) (MM ad nb b r I L))) := by
    intro n
    induction n with
    | zero => intro k h0; omega
    | succ n ih =>
      intro k hn hk hc
      have hpb := pb_lt hV hp0 k hk
      refine x_iload_n dX13_canWalk_12 rfl ?_
      refine x_aload_n dX13_canWalk_13 rfl ?_
      refine g_M_border hb fX13_397 dX13_canWalk_14 ?_
      refine g_MB_walkSize fX13_370 dX13_canWalk_17 hbn ?_
      refine x_iload_n dX13_canWalk_20 rfl ?_
      refine x_iald dX13_canWalk_21 rfl rfl hbn (by first | exact Nat.le_of_ble_eq_true rfl | assumption | omega) ?_
      refine x_top (y76 hB (by first | assumption | omega)) ?_
      refine x_icN_ge 69 dX13_canWalk_22 (by decide) (by omega) (by omega) (fun h22 => ?_) (fun h22 => ?_)
      · refine x_iconst dX13_canWalk_69 li_1 ?_
        refine x_zret dX13_canWalk_70 rfl rfl ?_
        obtain rfl : k = V 13 t 0 := by omega
        rw [hc]
        exact ⟨_, rfl, rfl, rfl⟩
      · have hk2 : k < V 13 t 0 := h22
        have h14 := hV.2.2.2.2.2.2.2.2.2.2.2.2.2.2.2.2.2.2.2.2.2.1 t k hk2
        have h7 := hV.2.2.2.2.2.2.2.2.2.2.2.2.2.2.2.2.1 (pb V (N t 0) t k) (V 14 t k)
        refine x_aload_n dX13_canWalk_25 rfl ?_
        refine g_M_border hb fX13_397 dX13_canWalk_26 ?_
        refine g_MB_walk fX13_373 dX13_canWalk_29 hbn ?_
        refine x_iconst dX13_canWalk_32 li_5 ?_
        refine x_iload_n dX13_canWalk_33 rfl ?_
        refine x_imulN dX13_canWalk_34 ?_
        refine x_iload_n dX13_canWalk_35 rfl ?_
        refine x_iaddN dX13_canWalk_36 ?_
        refine x_iald dX13_canWalk_37 rfl rfl hbn (by first | exact Nat.le_of_ble_eq_true rfl | assumption | omega) ?_
        refine x_top (y77 hB (by first | assumption | omega) (by first | assumption | omega)) ?_
        refine x_istore dX13_canWalk_38 (by decide) rfl ?_
        refine x_aload_n dX13_canWalk_40 rfl ?_
        refine g_M_border hb fX13_397 dX13_canWalk_41 ?_
        refine g_MB_hours fX13_334 dX13_canWalk_44 hbn ?_
        refine x_bipush dX13_canWalk_47 lb_6 ?_
        refine x_iload_n dX13_canWalk_49 rfl ?_
        refine x_imulN dX13_canWalk_50 ?_
        refine x_iload dX13_canWalk_51 rfl ?_
        refine x_iaddN dX13_canWalk_53 ?_
        refine x_iald dX13_canWalk_54 rfl rfl hbn (by first | exact Nat.le_of_ble_eq_true rfl | assumption | omega) ?_
        refine x_top (y70 hB (by first | assumption | omega) (by first | assumption | omega)) ?_
        refine x_ifN_ne 60 dX13_canWalk_55 (by decide) (by omega) (fun h55 => ?_) (fun h55 => ?_)
        · refine x_iload dX13_canWalk_60 rfl ?_
          refine x_istore_n dX13_canWalk_62 (by decide) rfl ?_
          refine x_iincN 1 dX13_canWalk_63 li_1 rfl (by decide) rfl ?_
          refine x_goto 12 dX13_canWalk_66 (by decide) ?_
          refine x_ls ?_ (ih (k + 1) (by omega) (by omega) (by unfold cw; rw [hc, decide_eq_true (show 0 < V 7 (pb V (N t 0) t k) (V 14 t k) by omega)]; rfl))
          exact ⟨rfl, rfl, rfl, rfl, trivial⟩
        · refine x_iconst dX13_canWalk_58 li_0 ?_
          refine x_zret dX13_canWalk_59 rfl rfl ?_
          rw [cw_no (k := k) (by unfold cw; rw [hc, decide_eq_false (show ¬ 0 < V 7 (pb V (N t 0) t k) (V 14 t k) by omega)]; rfl) _ hk2]
          exact ⟨_, rfl, rfl, rfl⟩
  refine x_start (by decide) (Nat.le_of_ble_eq_true rfl) ?_
  refine x_aload_n dX13_canWalk_0 rfl ?_
  refine g_M_v fX13_17 dX13_canWalk_1 ?_
  refine x_bipush dX13_canWalk_4 lb_24 ?_
  refine x_iload_n dX13_canWalk_6 rfl ?_
  refine x_iaddN dX13_canWalk_7 ?_
  refine x_iald dX13_canWalk_8 rfl rfl (Nat.le_of_ble_eq_true rfl) (by first | exact Nat.le_of_ble_eq_true rfl | assumption | omega) ?_
  rw [(hN t ht).2.1]
  refine x_istore_n dX13_canWalk_9 (by decide) rfl ?_
  refine x_iconst dX13_canWalk_10 li_0 ?_
  refine x_istore_n dX13_canWalk_11 (by decide) rfl ?_
  refine x_ls ?_ (loop12 (V 13 t 0 + 1) 0 (by omega) (by omega) rfl)
  exact ⟨rfl, rfl, rfl, rfl, trivial⟩
set_option maxRecDepth 100000 in
set_option maxHeartbeats 600000 in
theorem m_walks (hV : VW V) {bi : Nat} (hb : b = some bi) (hbn : bi < nb) {N : sN} (hW : NW V N) (hB : YB V bi I) (hN : YN V N I) {t : Nat} (ht : t < V 0 7 0) {nz : Nat → Nat} (hp : ∀ p, p < V 0 4 0 → I 89 0 p = nO (-2) (nz p)) (hz : ∀ p, p < V 0 4 0 → nz p ≤ V 0 3 0) : Mt G vX13_walks (d + 4) (0, 0) [.ref (ad 13 0), .int (nI (t))] (MM ad nb b r I L) (qI (fun rr M' => rr = nI (wt V (ON N t) nz (N t 0) t (V 13 t 0)) ∧ ∃ I', M' = MM ad nb b r I' L ∧ (∀ j, j < V 13 t 0 → I' 91 0 j = nI (wd V (ON N t) nz (N t 0) t j)) ∧ ∀ q, q ≠ 88 → q ≠ 91 → I' q = I q)) := by
  have v0 := hV.1
  have v1 := hV.2.1
  have v2 := hV.2.2.1
  have v3 := hV.2.2.2.1
  have v4 := hV.2.2.2.2.1
  have v7 := hV.2.2.2.2.2.2.2.1
  have v9 := hV.2.2.2.2.2.2.2.2.2.1
  have v10 := hV.2.2.2.2.2.2.2.2.2.2.1
  have h13 := hV.2.2.2.2.2.2.2.2.2.2.2.2.2.2.2.2.2.2.2.2.1 t
  have hp0 := (hW t ht).1
  have loop20 : ∀ (n : Nat) (k : Nat) (I1 : Nat → Nat → Nat → Int32), V 13 t 0 - k < n → k ≤ V 13 t 0 → (∀ q, q ≠ 88 → q ≠ 91 → I1 q = I q) → (∀ s, s < V 0 2 0 → I1 88 0 s = nI (xf V (ON N t) (wh V (N t 0) t k) s)) → (∀ j, j < k → I1 91 0 j = nI (wd V (ON N t) nz (N t 0) t j)) → X G vX13_walks (d + 4) (0, 0) 20 [(0, some (.ref (ad 13 0))), (1, some (.int (nI (t)))), (2, some (.int (nI (pb V (N t 0) t k)))), (3, some (.int (nI (wt V (ON N t) nz (N t 0) t k)))), (4, some (.int (nI (k))))] [] (MM ad nb b r I1 L) (xT G (qI (fun rr M' => rr = nI (wt V (ON N t) nz (N t 0) t (V 13 t 0)) ∧ ∃ I', M' = MM ad nb b r I' L ∧ (∀ j, j < V 13 t 0 → I' 91 0 j = nI (wd V (ON N t) nz (N t 0) t j)) ∧ ∀ q, q ≠ 88 → q ≠ 91 → I' q = I q))) := by
    intro n
    induction n with
    | zero => intro k I1 h0; omega
    | succ n ih =>
      intro k I1 hn hk hs hx hd
      have hpb := pb_lt hV hp0 k hk
      have hB := hB.sm (I' := I1) (fun q hq => hs q (by omega) (by omega))
      have hg : ∀ i, i < V 0 2 0 → xf V (ON N t) (wh V (N t 0) t k) i ≤ 198 := fun i hi => xf_le ((hW t ht).2 i (by omega))
      refine x_iload dX13_walks_20 rfl ?_
      refine x_aload_n dX13_walks_22 rfl ?_
      refine g_M_border hb fX13_397 dX13_walks_23 ?_
      refine g_MB_walkSize fX13_370 dX13_walks_26 hbn ?_
      refine x_iload_n dX13_walks_29 rfl ?_
      refine x_iald dX13_walks_30 rfl rfl hbn (by first | exact Nat.le_of_ble_eq_true rfl | assumption | omega) ?_
      refine x_top (y76 hB (by first | assumption | omega)) ?_
      refine x_icN_ge 102 dX13_walks_31 (by decide) (by omega) (by omega) (fun h31 => ?_) (fun h31 => ?_)
      · refine x_iload_n dX13_walks_102 rfl ?_
        refine x_iret dX13_walks_103 rfl ?_
        obtain rfl : k = V 13 t 0 := by omega
        exact ⟨_, rfl, rfl, _, rfl, hd, hs⟩
      · have hk2 : k < V 13 t 0 := h31
        have h14 := hV.2.2.2.2.2.2.2.2.2.2.2.2.2.2.2.2.2.2.2.2.2.1 t k hk2
        have h7 := hV.2.2.2.2.2.2.2.2.2.2.2.2.2.2.2.2.1 (pb V (N t 0) t k) (V 14 t k)
        refine x_aload_n dX13_walks_34 rfl ?_
        refine g_M_border hb fX13_397 dX13_walks_35 ?_
        refine g_MB_walk fX13_373 dX13_walks_38 hbn ?_
        refine x_iconst dX13_walks_41 li_5 ?_
        refine x_iload_n dX13_walks_42 rfl ?_
        refine x_imulN dX13_walks_43 ?_
        refine x_iload dX13_walks_44 rfl ?_
        refine x_iaddN dX13_walks_46 ?_
        refine x_iald dX13_walks_47 rfl rfl hbn (by first | exact Nat.le_of_ble_eq_true rfl | assumption | omega) ?_
        refine x_top (y77 hB (by first | assumption | omega) (by first | assumption | omega)) ?_
        refine x_istore dX13_walks_48 (by decide) rfl ?_
        refine x_aload_n dX13_walks_50 rfl ?_
        refine x_aload_n dX13_walks_51 rfl ?_
        refine g_M_border hb fX13_397 dX13_walks_52 ?_
        refine g_MB_hours fX13_334 dX13_walks_55 hbn ?_
        refine x_bipush dX13_walks_58 lb_6 ?_
        refine x_iload_n dX13_walks_60 rfl ?_
        refine x_imulN dX13_walks_61 ?_
        refine x_iload dX13_walks_62 rfl ?_
        refine x_iaddN dX13_walks_64 ?_
        refine x_iald dX13_walks_65 rfl rfl hbn (by first | exact Nat.le_of_ble_eq_true rfl | assumption | omega) ?_
        refine x_top (y70 hB (by first | assumption | omega) (by first | assumption | omega)) ?_
        refine x_cvv (m_fades (d := d + 2) hV hb hbn hB (by omega) hx hg) kX13_431 dX13_walks_66 rfl (Nat.le_of_ble_eq_true rfl) rfl rfl (Nat.le_of_ble_eq_true rfl) (fun Mu hq => ?_)
        obtain ⟨I2, rfl, f1, f2, f3⟩ := hq
        refine x_aload_n dX13_walks_69 rfl ?_
        refine g_M_stopDuty fX13_36 dX13_walks_70 ?_
        refine x_iload dX13_walks_73 rfl ?_
        refine x_aload_n dX13_walks_75 rfl ?_
        refine x_iload_n dX13_walks_76 rfl ?_
        refine x_iload dX13_walks_77 rfl ?_
        refine x_cvi (m_dutyAt (d := d) hV hb hbn (hB.sm (fun q hq => f3 q (by omega))) f1 (fun s hs => Nat.le_trans (Nat.sub_le _ _) (hg s hs)) (nz := nz) (fun p hp4 => by rw [f3 89 (by decide), hs 89 (by decide) (by decide)]; exact hp p hp4) hz ht h14) kX13_442 dX13_walks_79 rfl (Nat.le_of_ble_eq_true rfl) rfl rfl (Nat.le_of_ble_eq_true rfl) (fun ru Mu hq => ?_)
        obtain ⟨rfl, rfl⟩ := hq
        rw [show dgn V (fun s => (xf V (ON N t) (wh V (N t 0) t k) s - fd (V 2 s 0) * V 7 (pb V (N t 0) t k) (V 14 t k)) / 2) (V 9 t 0) (V 14 t k) (nz (V 14 t k)) = wd V (ON N t) nz (N t 0) t k by
          show _ = dgn V (str V (ON N t) (wh V (N t 0) t k + V 7 (pb V (N t 0) t k) (V 14 t k)) 0) (V 9 t 0) (V 14 t k) (nz (V 14 t k))
          congr 1
          funext s
          rw [xf_add]
          rfl]
        refine x_iast dX13_walks_82 rfl rfl (Nat.le_of_ble_eq_true rfl) (by first | exact Nat.le_of_ble_eq_true rfl | assumption | omega) ?_
        refine x_iload_n dX13_walks_83 rfl ?_
        refine x_aload_n dX13_walks_84 rfl ?_
        refine g_M_stopDuty fX13_36 dX13_walks_85 ?_
        refine x_iload dX13_walks_88 rfl ?_
        refine x_iald dX13_walks_90 rfl rfl (Nat.le_of_ble_eq_true rfl) (by first | exact Nat.le_of_ble_eq_true rfl | assumption | omega) ?_
        rw [xu_s]
        refine x_iaddN dX13_walks_91 ?_
        refine x_istore_n dX13_walks_92 (by decide) rfl ?_
        refine x_iload dX13_walks_93 rfl ?_
        refine x_istore_n dX13_walks_95 (by decide) rfl ?_
        refine x_iincN 1 dX13_walks_96 li_1 rfl (by decide) rfl ?_
        refine x_goto 20 dX13_walks_99 (by decide) ?_
        refine x_ls ?_ (ih (k + 1) _ (by omega) (by omega) (fun q h1 h2 => ?_) (fun s h => ?_) (fun j hj => ?_))
        · exact ⟨rfl, rfl, rfl, rfl, rfl, trivial⟩
        · rw [← hs q h1 h2, ← f3 q h1]; funext x y; rw [xu_ns h2]
        · rw [xu_ns (by decide), f1 s h, xf_add]; rfl
        · rw [xu_at]
          by_cases e0 : j = k
          · rw [if_pos e0, e0]
          · rw [if_neg e0, f3 91 (by decide)]; exact hd j (by omega)
  refine x_start (by decide) (Nat.le_of_ble_eq_true rfl) ?_
  refine x_aload_n dX13_walks_0 rfl ?_
  refine g_M_v fX13_17 dX13_walks_1 ?_
  refine x_bipush dX13_walks_4 lb_24 ?_
  refine x_iload_n dX13_walks_6 rfl ?_
  refine x_iaddN dX13_walks_7 ?_
  refine x_iald dX13_walks_8 rfl rfl (Nat.le_of_ble_eq_true rfl) (by first | exact Nat.le_of_ble_eq_true rfl | assumption | omega) ?_
  rw [(hN t ht).2.1]
  refine x_istore_n dX13_walks_9 (by decide) rfl ?_
  refine x_iconst dX13_walks_10 li_0 ?_
  refine x_istore_n dX13_walks_11 (by decide) rfl ?_
  refine x_aload_n dX13_walks_12 rfl ?_
  refine x_iload_n dX13_walks_13 rfl ?_
  refine x_cvv (m_tries (d := d + 3) (t := t) (by omega)) kX13_428 dX13_walks_14 rfl (Nat.le_of_ble_eq_true rfl) rfl rfl (Nat.le_of_ble_eq_true rfl) (fun Mu hq => ?_)
  obtain ⟨I1, rfl, t1, t2⟩ := hq
  have hx1 : ∀ s, s < V 0 2 0 → I1 88 0 s = nI (xf V (ON N t) 0 s) := fun s hs => by rw [t1 s (by omega), xf_0]; exact (hN t ht).1 s (by omega)
  refine x_iconst dX13_walks_17 li_0 ?_
  refine x_istore dX13_walks_18 (by decide) rfl ?_
  refine x_ls ?_ (loop20 (V 13 t 0 + 1) 0 I1 (by omega) (by omega) (fun q h1 h2 => t2 q h1) hx1 (fun j h => absurd h (Nat.not_lt_zero j)))
  exact ⟨rfl, rfl, rfl, rfl, rfl, trivial⟩
set_option maxRecDepth 100000 in
set_option maxHeartbeats 600000 in
theorem m_walked (hV : VW V) (hO : YO V nb b I) {N : sN} (hW : NW V N) (hN : YN V N I) {z1 : Int32} : Mt G vX13_walked (d + 5) (0, 0) [.ref (ad 13 0), .int (z1)] (MM ad nb b r I L) (qM ad nb b r I L (a_walked V N z1)) := by
  have v0 := hV.1
  have v1 := hV.2.1
  have v2 := hV.2.2.1
  have v3 := hV.2.2.2.1
  have v4 := hV.2.2.2.2.1
  have v7 := hV.2.2.2.2.2.2.2.1
  have v9 := hV.2.2.2.2.2.2.2.2.2.1
  have v10 := hV.2.2.2.2.2.2.2.2.2.2.1
  have hO := hO.sm (I' := (xu I 13 0 0 (nI 0))) (fun q hq => by funext x y; rw [xu_ns (by omega)])
  have hN := hN.sm (I' := (xu I 13 0 0 (nI 0))) (by funext x y; rw [xu_ns (by decide)])
  have hm := MX.rf (I := (xu I 13 0 0 (nI 0)))
  refine x_start (by decide) (Nat.le_of_ble_eq_true rfl) ?_
  refine x_aload_n dX13_walked_0 rfl ?_
  refine x_iconst dX13_walked_1 li_0 ?_
  refine p_M_thrown fX13_72 dX13_walked_2 ?_
  refine x_aload_n dX13_walked_5 rfl ?_
  refine x_iload_n dX13_walked_6 rfl ?_
  refine x_cvi (m_isTraveller' hV hO) kX13_425 dX13_walked_7 rfl (Nat.le_of_ble_eq_true rfl) rfl rfl (Nat.le_of_ble_eq_true rfl) (fun ru Mu hq => ?_)
  obtain ⟨rfl, rfl⟩ := hq
  refine x_if_ne 19 dX13_walked_10 (by decide) (fun h10 => ?_) (fun h10 => ?_)
  · have qt := bI_ne.mp h10
    obtain ⟨t, ht, rfl⟩ := inr_of qt (by omega)
    obtain ⟨bi, hb, hbn, hB⟩ := hO.some (show V 0 7 0 ≠ 0 by omega) (by decide)
    have h13 := hV.2.2.2.2.2.2.2.2.2.2.2.2.2.2.2.2.2.2.2.2.1 t
    refine x_aload_n dX13_walked_19 rfl ?_
    refine g_M_border hb fX13_397 dX13_walked_20 ?_
    refine g_MB_walkSize fX13_370 dX13_walked_23 hbn ?_
    refine x_iload_n dX13_walked_26 rfl ?_
    refine x_iald dX13_walked_27 rfl rfl hbn (by first | exact Nat.le_of_ble_eq_true rfl | assumption | omega) ?_
    refine x_top (y76 hB (by first | assumption | omega)) ?_
    refine x_ifN_ne 38 dX13_walked_28 (by decide) (by omega) (fun h28 => ?_) (fun h28 => ?_)
    · refine x_aload_n dX13_walked_38 rfl ?_
      refine x_cvv (m_posted (d := d + 4) hV hb hbn (hB.mx hm)) kX13_433 dX13_walked_39 rfl (Nat.le_of_ble_eq_true rfl) rfl rfl (Nat.le_of_ble_eq_true rfl) (fun Mu hq => ?_)
      obtain ⟨I2, rfl, g1, g2⟩ := hq
      have m2 := hm.tr (MX.of g2 (by unfold msc; omega))
      refine x_aload_n dX13_walked_42 rfl ?_
      refine x_aload_n dX13_walked_43 rfl ?_
      refine x_iload_n dX13_walked_44 rfl ?_
      refine x_cvi (m_canWalk (d := d + 4) hV hb hbn hW (hB.mx m2) (hN.mx m2) ht) kX13_445 dX13_walked_45 rfl (Nat.le_of_ble_eq_true rfl) rfl rfl (Nat.le_of_ble_eq_true rfl) (fun ru Mu hq => ?_)
      obtain ⟨rfl, rfl⟩ := hq
      refine x_if_eq 59 dX13_walked_48 (by decide) (fun h48 => ?_) (fun h48 => ?_)
      · refine x_bipush dX13_walked_59 lb_m2 ?_
        refine x_cvi (m_good) kX13_82 dX13_walked_61 rfl (Nat.le_of_ble_eq_true rfl) rfl rfl (Nat.le_of_ble_eq_true rfl) (fun ru Mu hq => ?_)
        obtain ⟨rfl, rfl⟩ := hq
        refine x_iret dX13_walked_64 rfl ?_
        first
          | (refine qM_ok (show a_walked V N _ = _ from ?_) m3; unfold a_walked; rw [if_pos qt, zN_nI (by omega), if_neg (by omega), if_pos (show wk1 V N t = true from bI_ne.mp h48)]; rfl)
          | (refine qM_ok (show a_walked V N _ = _ from ?_) m2; unfold a_walked; rw [if_pos qt, zN_nI (by omega), if_neg (by omega), if_neg (show ¬ wk1 V N t = true by rw [show wk1 V N t = false from bI_eq.mp h48]; decide)])
      · refine x_aload_n dX13_walked_51 rfl ?_
        refine x_iload_n dX13_walked_52 rfl ?_
        refine x_cvi (m_walks (d := d) hV hb hbn hW (hB.mx m2) (hN.mx m2) ht (nz := (fun p => V 6 p 0)) g1 (fun p hp => (hV.2.2.2.2.2.2.2.2.2.2.2.2.2.2.2.1 p hp).2)) kX13_448 dX13_walked_53 rfl (Nat.le_of_ble_eq_true rfl) rfl rfl (Nat.le_of_ble_eq_true rfl) (fun ru Mu hq => ?_)
        obtain ⟨rfl, I3, rfl, w1, w2⟩ := hq
        have m3 : MX (xu I 13 0 0 (nI 0)) I3 := m2.tr ⟨fun s h1 h2 => w2 s (fun z => h1 (by unfold msc; omega)) (fun z => h1 (by unfold msc; omega)), fun k _ => by rw [w2 13 (by decide) (by decide)]⟩
        refine x_goto 61 dX13_walked_56 (by decide) ?_
        refine x_cvi (m_good) kX13_82 dX13_walked_61 rfl (Nat.le_of_ble_eq_true rfl) rfl rfl (Nat.le_of_ble_eq_true rfl) (fun ru Mu hq => ?_)
        obtain ⟨rfl, rfl⟩ := hq
        refine x_iret dX13_walked_64 rfl ?_
        first
          | (refine qM_ok (show a_walked V N _ = _ from ?_) m3; unfold a_walked; rw [if_pos qt, zN_nI (by omega), if_neg (by omega), if_pos (show wk1 V N t = true from bI_ne.mp h48)]; rfl)
          | (refine qM_ok (show a_walked V N _ = _ from ?_) m2; unfold a_walked; rw [if_pos qt, zN_nI (by omega), if_neg (by omega), if_neg (show ¬ wk1 V N t = true by rw [show wk1 V N t = false from bI_eq.mp h48]; decide)])
    · refine x_aload_n dX13_walked_31 rfl ?_
      refine x_bipush dX13_walked_32 lb_6 ?_
      refine x_cvi (m_refused) kX13_78 dX13_walked_34 rfl (Nat.le_of_ble_eq_true rfl) rfl rfl (Nat.le_of_ble_eq_true rfl) (fun ru Mu hq => ?_)
      obtain ⟨rfl, rfl⟩ := hq
      refine x_iret dX13_walked_37 rfl ?_
      refine qM_ok (show a_walked V N _ = (-1, 6) from ?_) hm
      unfold a_walked
      rw [if_pos qt, zN_nI (by omega), if_pos (by omega)]
  · refine x_aload_n dX13_walked_13 rfl ?_
    refine x_iconst dX13_walked_14 li_1 ?_
    refine x_cvi (m_refused) kX13_78 dX13_walked_15 rfl (Nat.le_of_ble_eq_true rfl) rfl rfl (Nat.le_of_ble_eq_true rfl) (fun ru Mu hq => ?_)
    obtain ⟨rfl, rfl⟩ := hq
    refine x_iret dX13_walked_18 rfl ?_
    refine qM_ok (show a_walked V N _ = (-1, 1) from if_neg (by rw [bI_eq.mp h10]; decide)) hm
set_option maxRecDepth 100000 in
set_option maxHeartbeats 600000 in
theorem m_walkedAt (hV : VW V) (hO : YO V nb b I) {N : sN} (hW : NW V N) (hN : YN V N I) {z1 z2 : Int32} : Mt G vX13_walkedAt (d + 5) (0, 0) [.ref (ad 13 0), .int (z1), .int (z2)] (MM ad nb b r I L) (qM ad nb b r I L (a_walkedAt V N z1 z2)) := by
  have v0 := hV.1
  have v1 := hV.2.1
  have v2 := hV.2.2.1
  have v3 := hV.2.2.2.1
  have v4 := hV.2.2.2.2.1
  have v7 := hV.2.2.2.2.2.2.2.1
  have v9 := hV.2.2.2.2.2.2.2.2.2.1
  have v10 := hV.2.2.2.2.2.2.2.2.2.2.1
  have hO := hO.sm (I' := (xu I 13 0 0 (nI 0))) (fun q hq => by funext x y; rw [xu_ns (by omega)])
  have hN := hN.sm (I' := (xu I 13 0 0 (nI 0))) (by funext x y; rw [xu_ns (by decide)])
  have hm := MX.rf (I := (xu I 13 0 0 (nI 0)))
  refine x_start (by decide) (Nat.le_of_ble_eq_true rfl) ?_
  refine x_aload_n dX13_walkedAt_0 rfl ?_
  refine x_iconst dX13_walkedAt_1 li_0 ?_
  refine p_M_thrown fX13_72 dX13_walkedAt_2 ?_
  refine x_aload_n dX13_walkedAt_5 rfl ?_
  refine x_iload_n dX13_walkedAt_6 rfl ?_
  refine x_cvi (m_isTraveller' hV hO) kX13_425 dX13_walkedAt_7 rfl (Nat.le_of_ble_eq_true rfl) rfl rfl (Nat.le_of_ble_eq_true rfl) (fun ru Mu hq => ?_)
  obtain ⟨rfl, rfl⟩ := hq
  refine x_if_ne 19 dX13_walkedAt_10 (by decide) (fun h10 => ?_) (fun h10 => ?_)
  · have qt := bI_ne.mp h10
    obtain ⟨t, ht, rfl⟩ := inr_of qt (by omega)
    obtain ⟨bi, hb, hbn, hB⟩ := hO.some (show V 0 7 0 ≠ 0 by omega) (by decide)
    have h13 := hV.2.2.2.2.2.2.2.2.2.2.2.2.2.2.2.2.2.2.2.2.1 t
    refine x_aload_n dX13_walkedAt_19 rfl ?_
    refine g_M_border hb fX13_397 dX13_walkedAt_20 ?_
    refine g_MB_walkSize fX13_370 dX13_walkedAt_23 hbn ?_
    refine x_iload_n dX13_walkedAt_26 rfl ?_
    refine x_iald dX13_walkedAt_27 rfl rfl hbn (by first | exact Nat.le_of_ble_eq_true rfl | assumption | omega) ?_
    refine x_top (y76 hB (by first | assumption | omega)) ?_
    refine x_ifN_ne 38 dX13_walkedAt_28 (by decide) (by omega) (fun h28 => ?_) (fun h28 => ?_)
    · refine x_iload_n dX13_walkedAt_38 rfl ?_
      refine x_iconst dX13_walkedAt_39 li_0 ?_
      refine x_aload_n dX13_walkedAt_40 rfl ?_
      refine g_M_border hb fX13_397 dX13_walkedAt_41 ?_
      refine g_MB_walkSize fX13_370 dX13_walkedAt_44 hbn ?_
      refine x_iload_n dX13_walkedAt_47 rfl ?_
      refine x_iald dX13_walkedAt_48 rfl rfl hbn (by first | exact Nat.le_of_ble_eq_true rfl | assumption | omega) ?_
      refine x_top (y76 hB (by first | assumption | omega)) ?_
      refine x_iconst dX13_walkedAt_49 li_1 ?_
      refine x_isubN dX13_walkedAt_50 (by omega) ?_
      refine x_csi (m_in) kX13_150 dX13_walkedAt_51 rfl rfl (Nat.le_of_ble_eq_true rfl) (fun ru Mu hq => ?_)
      obtain ⟨rfl, rfl⟩ := hq
      refine x_if_ne 63 dX13_walkedAt_54 (by decide) (fun h54 => ?_) (fun h54 => ?_)
      · have qi := bI_ne.mp h54
        rw [wth_inr (by omega) (by omega)] at qi
        obtain ⟨i, hi, rfl⟩ := inr_of qi (by omega)
        refine x_aload_n dX13_walkedAt_63 rfl ?_
        refine x_iload_n dX13_walkedAt_64 rfl ?_
        refine x_cvi (m_canWalk (d := d + 4) hV hb hbn hW (hB.mx hm) (hN.mx hm) ht) kX13_445 dX13_walkedAt_65 rfl (Nat.le_of_ble_eq_true rfl) rfl rfl (Nat.le_of_ble_eq_true rfl) (fun ru Mu hq => ?_)
        obtain ⟨rfl, rfl⟩ := hq
        refine x_if_ne 77 dX13_walkedAt_68 (by decide) (fun h68 => ?_) (fun h68 => ?_)
        · refine x_aload_n dX13_walkedAt_77 rfl ?_
          refine x_cvv (m_posted (d := d + 4) hV hb hbn (hB.mx hm)) kX13_433 dX13_walkedAt_78 rfl (Nat.le_of_ble_eq_true rfl) rfl rfl (Nat.le_of_ble_eq_true rfl) (fun Mu hq => ?_)
          obtain ⟨I2, rfl, g1, g2⟩ := hq
          have m2 := hm.tr (MX.of g2 (by unfold msc; omega))
          refine x_aload_n dX13_walkedAt_81 rfl ?_
          refine x_iload_n dX13_walkedAt_82 rfl ?_
          refine x_cvi (m_walks (d := d) hV hb hbn hW (hB.mx m2) (hN.mx m2) ht (nz := (fun p => V 6 p 0)) g1 (fun p hp => (hV.2.2.2.2.2.2.2.2.2.2.2.2.2.2.2.1 p hp).2)) kX13_448 dX13_walkedAt_83 rfl (Nat.le_of_ble_eq_true rfl) rfl rfl (Nat.le_of_ble_eq_true rfl) (fun ru Mu hq => ?_)
          obtain ⟨rfl, I3, rfl, w1, w2⟩ := hq
          have m3 : MX (xu I 13 0 0 (nI 0)) I3 := m2.tr ⟨fun s h1 h2 => w2 s (fun z => h1 (by unfold msc; omega)) (fun z => h1 (by unfold msc; omega)), fun k _ => by rw [w2 13 (by decide) (by decide)]⟩
          refine x_pop dX13_walkedAt_86 rfl ?_
          refine x_aload_n dX13_walkedAt_87 rfl ?_
          refine x_aload_n dX13_walkedAt_88 rfl ?_
          refine g_M_stopDuty fX13_36 dX13_walkedAt_89 ?_
          refine x_iload_n dX13_walkedAt_92 rfl ?_
          refine x_iald dX13_walkedAt_93 rfl rfl (Nat.le_of_ble_eq_true rfl) (by first | exact Nat.le_of_ble_eq_true rfl | assumption | omega) ?_
          rw [w1 i hi]
          refine x_cvi (m_good) kX13_82 dX13_walkedAt_94 rfl (Nat.le_of_ble_eq_true rfl) rfl rfl (Nat.le_of_ble_eq_true rfl) (fun ru Mu hq => ?_)
          obtain ⟨rfl, rfl⟩ := hq
          refine x_iret dX13_walkedAt_97 rfl ?_
          refine qM_ok (show a_walkedAt V N _ _ = _ from ?_) m3
          unfold a_walkedAt
          rw [if_pos qt, zN_nI (by omega), if_neg (by omega), if_pos qi, if_pos (show wk1 V N t = true from bI_ne.mp h68), zN_nI (by omega)]
          rfl
        · refine x_aload_n dX13_walkedAt_71 rfl ?_
          refine x_iconst dX13_walkedAt_72 li_5 ?_
          refine x_cvi (m_refused) kX13_78 dX13_walkedAt_73 rfl (Nat.le_of_ble_eq_true rfl) rfl rfl (Nat.le_of_ble_eq_true rfl) (fun ru Mu hq => ?_)
          obtain ⟨rfl, rfl⟩ := hq
          refine x_iret dX13_walkedAt_76 rfl ?_
          refine qM_ok (show a_walkedAt V N _ _ = (-1, 5) from ?_) hm
          unfold a_walkedAt
          rw [if_pos qt, zN_nI (by omega), if_neg (by omega), if_pos qi, if_neg (show ¬ wk1 V N t = true by rw [show wk1 V N t = false from bI_eq.mp h68]; decide)]
      · have qi := bI_eq.mp h54
        rw [wth_inr (by omega) (by omega)] at qi
        refine x_aload_n dX13_walkedAt_57 rfl ?_
        refine x_iconst dX13_walkedAt_58 li_1 ?_
        refine x_cvi (m_refused) kX13_78 dX13_walkedAt_59 rfl (Nat.le_of_ble_eq_true rfl) rfl rfl (Nat.le_of_ble_eq_true rfl) (fun ru Mu hq => ?_)
        obtain ⟨rfl, rfl⟩ := hq
        refine x_iret dX13_walkedAt_62 rfl ?_
        refine qM_ok (show a_walkedAt V N _ _ = (-1, 1) from ?_) hm
        unfold a_walkedAt
        rw [if_pos qt, zN_nI (by omega), if_neg (by omega), if_neg (by rw [qi]; decide)]
    · refine x_aload_n dX13_walkedAt_31 rfl ?_
      refine x_bipush dX13_walkedAt_32 lb_6 ?_
      refine x_cvi (m_refused) kX13_78 dX13_walkedAt_34 rfl (Nat.le_of_ble_eq_true rfl) rfl rfl (Nat.le_of_ble_eq_true rfl) (fun ru Mu hq => ?_)
      obtain ⟨rfl, rfl⟩ := hq
      refine x_iret dX13_walkedAt_37 rfl ?_
      refine qM_ok (show a_walkedAt V N _ _ = (-1, 6) from ?_) hm
      unfold a_walkedAt
      rw [if_pos qt, zN_nI (by omega), if_pos (by omega)]
  · refine x_aload_n dX13_walkedAt_13 rfl ?_
    refine x_iconst dX13_walkedAt_14 li_1 ?_
    refine x_cvi (m_refused) kX13_78 dX13_walkedAt_15 rfl (Nat.le_of_ble_eq_true rfl) rfl rfl (Nat.le_of_ble_eq_true rfl) (fun ru Mu hq => ?_)
    obtain ⟨rfl, rfl⟩ := hq
    refine x_iret dX13_walkedAt_18 rfl ?_
    refine qM_ok (show a_walkedAt V N _ _ = (-1, 1) from if_neg (by rw [bI_eq.mp h10]; decide)) hm
set_option maxRecDepth 100000 in
set_option maxHeartbeats 600000 in
theorem m_judge0 (hn : b = none) (hz : ∀ k, k < 12 → V 0 k 0 = 0) {N : sN} : Mt G vX13_judge (d + 1) (0, 0) [.ref (ad 13 0)] (MM ad nb b r I L) (qM ad nb b r I L (a_judge V N)) := by
  have hm := MX.rf (I := (xu I 13 0 0 (nI 0)))
  refine x_start (by decide) (Nat.le_of_ble_eq_true rfl) ?_
  refine x_aload_n dX13_judge_0 rfl ?_
  refine x_iconst dX13_judge_1 li_0 ?_
  refine p_M_thrown fX13_72 dX13_judge_2 ?_
  refine x_aload_n dX13_judge_5 rfl ?_
  refine g_M_borderN hn fX13_397 dX13_judge_6 ?_
  refine x_ifnonnullN dX13_judge_9 ?_
  refine x_aload_n dX13_judge_12 rfl ?_
  refine x_iconst dX13_judge_13 li_1 ?_
  refine x_cvi (m_refused) kX13_78 dX13_judge_14 rfl (Nat.le_of_ble_eq_true rfl) rfl rfl (Nat.le_of_ble_eq_true rfl) (fun ru Mu hq => ?_)
  obtain ⟨rfl, rfl⟩ := hq
  refine x_iret dX13_judge_17 rfl ?_
  refine qM_ok (show a_judge V N = (-1, 1) from if_neg (by rw [hz 0 (by decide)]; decide)) hm
set_option maxRecDepth 100000 in
set_option maxHeartbeats 600000 in
theorem m_judge1 (hV : VW V) {bi : Nat} (hb : b = some bi) (hbn : bi < nb) {N : sN} (hW : NW V N) (hB : YB V bi I) (h0 : 0 < V 0 0 0) (hN : YN V N I) : Mt G vX13_judge (d + 1) (0, 0) [.ref (ad 13 0)] (MM ad nb b r I L) (qM ad nb b r I L (a_judge V N)) := by
  have v0 := hV.1
  have v1 := hV.2.1
  have v2 := hV.2.2.1
  have v3 := hV.2.2.2.1
  have v4 := hV.2.2.2.2.1
  have v7 := hV.2.2.2.2.2.2.2.1
  have v9 := hV.2.2.2.2.2.2.2.2.2.1
  have v10 := hV.2.2.2.2.2.2.2.2.2.2.1
  have hB := hB.sm (I' := (xu I 13 0 0 (nI 0))) (fun q hq => by funext x y; rw [xu_ns (by omega)])
  have hN := hN.sm (I' := (xu I 13 0 0 (nI 0))) (by funext x y; rw [xu_ns (by decide)])
  have hm := MX.rf (I := (xu I 13 0 0 (nI 0)))
  have loop20 : ∀ (n : Nat) (k : Nat), V 0 7 0 - k < n → k ≤ V 0 7 0 → k + fst (fun t => decide (0 < V 13 t 0) && !wk1 V N t) k (V 0 7 0 - k) = fst (fun t => decide (0 < V 13 t 0) && !wk1 V N t) 0 (V 0 7 0) → X G vX13_judge (d + 1) (0, 0) 20 [(0, some (.ref (ad 13 0))), (1, some (.int (nI (k))))] [] (MM ad nb b r (xu I 13 0 0 (nI 0)) L) (xT G (qM ad nb b r I L (a_judge V N))) := by
    intro n
    induction n with
    | zero => intro k h0; omega
    | succ n ih =>
      intro k hn hk hf
      refine x_iload_n dX13_judge_20 rfl ?_
      refine x_aload_n dX13_judge_21 rfl ?_
      refine g_M_border hb fX13_397 dX13_judge_22 ?_
      refine g_MB_travellers fX13_343 dX13_judge_25 hbn ?_
      refine x_top (y12_7 hB) ?_
      refine x_icN_ge 51 dX13_judge_28 (by decide) (by omega) (by omega) (fun h28 => ?_) (fun h28 => ?_)
      · refine x_aload_n dX13_judge_51 rfl ?_
        refine x_bipush dX13_judge_52 lb_m2 ?_
        refine x_cvi (m_good) kX13_82 dX13_judge_54 rfl (Nat.le_of_ble_eq_true rfl) rfl rfl (Nat.le_of_ble_eq_true rfl) (fun ru Mu hq => ?_)
        obtain ⟨rfl, rfl⟩ := hq
        refine x_iret dX13_judge_57 rfl ?_
        refine qM_ok (show a_judge V N = _ from ?_) hm
        unfold a_judge
        rw [if_pos h0]
        unfold fsO
        rw [← hf, show V 0 7 0 - k = 0 by omega, fst_0, if_neg (by omega)]
      · have hk2 : k < V 0 7 0 := h28
        refine x_aload_n dX13_judge_31 rfl ?_
        refine x_iload_n dX13_judge_32 rfl ?_
        refine x_cvi (m_canWalk (d := d) (t := k) hV hb hbn hW hB hN hk2) kX13_445 dX13_judge_33 rfl (Nat.le_of_ble_eq_true rfl) rfl rfl (Nat.le_of_ble_eq_true rfl) (fun ru Mu hq => ?_)
        obtain ⟨rfl, rfl⟩ := hq
        refine x_if_ne 45 dX13_judge_36 (by decide) (fun h36 => ?_) (fun h36 => ?_)
        · refine x_iincN 1 dX13_judge_45 li_1 rfl (by decide) rfl ?_
          refine x_goto 20 dX13_judge_48 (by decide) ?_
          refine x_ls ?_ (ih (k + 1) (by omega) (by omega) (by rw [fst_f (P := (fun t => decide (0 < V 13 t 0) && !wk1 V N t)) hk2 (by rw [show wk1 V N k = true from bI_ne.mp h36]; simp)]; exact hf))
          exact ⟨rfl, rfl, trivial⟩
        · have hwf : wk1 V N k = false := bI_eq.mp h36
          have h13 : 0 < V 13 k 0 := by
            rcases Nat.eq_zero_or_pos (V 13 k 0) with e | e
            · exact absurd hwf (by unfold wk1; rw [e]; exact Bool.noConfusion)
            · exact e
          refine x_aload_n dX13_judge_39 rfl ?_
          refine x_iload_n dX13_judge_40 rfl ?_
          refine x_cvi (m_good) kX13_82 dX13_judge_41 rfl (Nat.le_of_ble_eq_true rfl) rfl rfl (Nat.le_of_ble_eq_true rfl) (fun ru Mu hq => ?_)
          obtain ⟨rfl, rfl⟩ := hq
          refine x_iret dX13_judge_44 rfl ?_
          refine qM_ok (show a_judge V N = _ from ?_) hm
          unfold a_judge
          rw [if_pos h0]
          unfold fsO
          rw [← hf, fst_t (P := (fun t => decide (0 < V 13 t 0) && !wk1 V N t)) (by rw [hwf, decide_eq_true h13]; rfl), if_pos (by omega)]
  refine x_start (by decide) (Nat.le_of_ble_eq_true rfl) ?_
  refine x_aload_n dX13_judge_0 rfl ?_
  refine x_iconst dX13_judge_1 li_0 ?_
  refine p_M_thrown fX13_72 dX13_judge_2 ?_
  refine x_aload_n dX13_judge_5 rfl ?_
  refine g_M_border hb fX13_397 dX13_judge_6 ?_
  refine x_ifnonnull 18 dX13_judge_9 (by decide) ?_
  refine x_iconst dX13_judge_18 li_0 ?_
  refine x_istore_n dX13_judge_19 (by decide) rfl ?_
  refine x_ls ?_ (loop20 (V 0 7 0 + 1) 0 (by omega) (by omega) (by rw [Nat.zero_add, Nat.sub_zero]))
  exact ⟨rfl, rfl, trivial⟩
theorem m_judge (hV : VW V) (hO : YO V nb b I) {N : sN} (hW : NW V N) (hN : YN V N I) : Mt G vX13_judge (d + 1) (0, 0) [.ref (ad 13 0)] (MM ad nb b r I L) (qM ad nb b r I L (a_judge V N)) := by
  rcases hO with ⟨hn, hz⟩ | ⟨bi, hb, hbn, hB, h0⟩
  · exact m_judge0 hn hz
  · exact m_judge1 hV hb hbn hW hB h0 hN
set_option maxRecDepth 100000 in
set_option maxHeartbeats 600000 in
theorem m_wrongly0 (hn : b = none) (hz : ∀ k, k < 12 → V 0 k 0 = 0) {N : sN} : Mt G vX13_wrongly (d + 5) (0, 0) [.ref (ad 13 0)] (MM ad nb b r I L) (qM ad nb b r I L (a_wrongly V N)) := by
  have hm := MX.rf (I := (xu I 13 0 0 (nI 0)))
  refine x_start (by decide) (Nat.le_of_ble_eq_true rfl) ?_
  refine x_aload_n dX13_wrongly_0 rfl ?_
  refine x_iconst dX13_wrongly_1 li_0 ?_
  refine p_M_thrown fX13_72 dX13_wrongly_2 ?_
  refine x_aload_n dX13_wrongly_5 rfl ?_
  refine g_M_borderN hn fX13_397 dX13_wrongly_6 ?_
  refine x_ifnonnullN dX13_wrongly_9 ?_
  refine x_aload_n dX13_wrongly_12 rfl ?_
  refine x_iconst dX13_wrongly_13 li_1 ?_
  refine x_cvi (m_refused) kX13_78 dX13_wrongly_14 rfl (Nat.le_of_ble_eq_true rfl) rfl rfl (Nat.le_of_ble_eq_true rfl) (fun ru Mu hq => ?_)
  obtain ⟨rfl, rfl⟩ := hq
  refine x_iret dX13_wrongly_17 rfl ?_
  refine qM_ok (show a_wrongly V N = (-1, 1) from if_neg (by rw [hz 0 (by decide)]; decide)) hm
set_option maxRecDepth 100000 in
set_option maxHeartbeats 600000 in
theorem m_wrongly1 (hV : VW V) {bi : Nat} (hb : b = some bi) (hbn : bi < nb) {N : sN} (hW : NW V N) (hB : YB V bi I) (h0 : 0 < V 0 0 0) (hN : YN V N I) : Mt G vX13_wrongly (d + 5) (0, 0) [.ref (ad 13 0)] (MM ad nb b r I L) (qM ad nb b r I L (a_wrongly V N)) := by
  have v0 := hV.1
  have v1 := hV.2.1
  have v2 := hV.2.2.1
  have v3 := hV.2.2.2.1
  have v4 := hV.2.2.2.2.1
  have v7 := hV.2.2.2.2.2.2.2.1
  have v9 := hV.2.2.2.2.2.2.2.2.2.1
  have v10 := hV.2.2.2.2.2.2.2.2.2.2.1
  have hB := hB.sm (I' := (xu I 13 0 0 (nI 0))) (fun q hq => by funext x y; rw [xu_ns (by omega)])
  have hN := hN.sm (I' := (xu I 13 0 0 (nI 0))) (by funext x y; rw [xu_ns (by decide)])
  have hm := MX.rf (I := (xu I 13 0 0 (nI 0)))
  have loop24 : ∀ (n : Nat) (k : Nat) (I1 : Nat → Nat → Nat → Int32), V 0 9 0 - k < n → MX (xu I 13 0 0 (nI 0)) I1 → (∀ p, p < V 0 4 0 → I1 89 0 p = nO (-2) (V 6 p 0)) → k ≤ V 0 9 0 → k + fst (wrg V N) k (V 0 9 0 - k) = fst (wrg V N) 0 (V 0 9 0) → X G vX13_wrongly (d + 5) (0, 0) 24 [(0, some (.ref (ad 13 0))), (1, some (.int (nI (k))))] [] (MM ad nb b r I1 L) (xT G (qM ad nb b r I L (a_wrongly V N))) := by
    intro n
    induction n with
    | zero => intro k I1 h0; omega
    | succ n ih =>
      intro k I1 hn hm hp hk hf
      have hB1 := hB.mx hm
      refine x_iload_n dX13_wrongly_24 rfl ?_
      refine x_aload_n dX13_wrongly_25 rfl ?_
      refine g_M_border hb fX13_397 dX13_wrongly_26 ?_
      refine g_MB_asks fX13_378 dX13_wrongly_29 hbn ?_
      refine x_top (y12_10 hB1) ?_
      refine x_icN_ge 94 dX13_wrongly_32 (by decide) (by omega) (by omega) (fun h32 => ?_) (fun h32 => ?_)
      · refine x_aload_n dX13_wrongly_94 rfl ?_
        refine x_bipush dX13_wrongly_95 lb_m2 ?_
        refine x_cvi (m_good) kX13_82 dX13_wrongly_97 rfl (Nat.le_of_ble_eq_true rfl) rfl rfl (Nat.le_of_ble_eq_true rfl) (fun ru Mu hq => ?_)
        obtain ⟨rfl, rfl⟩ := hq
        refine x_iret dX13_wrongly_100 rfl ?_
        refine qM_ok (show a_wrongly V N = _ from ?_) hm
        unfold a_wrongly
        rw [if_pos h0]
        unfold fsO
        rw [← hf, show V 0 9 0 - k = 0 by omega, fst_0, if_neg (by omega)]
      · have hk2 : k < V 0 9 0 := h32
        have h15 := hV.2.2.2.2.2.2.2.2.2.2.2.2.2.2.2.2.2.2.2.2.2.2.1 k hk2
        have h13 := hV.2.2.2.2.2.2.2.2.2.2.2.2.2.2.2.2.2.2.2.2.1 (V 15 k 0)
        have hwl := wt_le (V := V) (f := ON N (V 15 k 0)) (nz := fun p => V 6 p 0) (p0 := N (V 15 k 0) 0) (t := V 15 k 0) hV (fun s hs => (hW _ h15.1).2 s hs) (V 13 (V 15 k 0) 0)
        refine x_aload_n dX13_wrongly_35 rfl ?_
        refine g_M_border hb fX13_397 dX13_wrongly_36 ?_
        refine g_MB_askedOf fX13_381 dX13_wrongly_39 hbn ?_
        refine x_iload_n dX13_wrongly_42 rfl ?_
        refine x_iald dX13_wrongly_43 rfl rfl hbn (by first | exact Nat.le_of_ble_eq_true rfl | assumption | omega) ?_
        refine x_top (y78 hB1 (by first | assumption | omega)) ?_
        refine x_istore_n dX13_wrongly_44 (by decide) rfl ?_
        refine x_aload_n dX13_wrongly_45 rfl ?_
        refine g_M_border hb fX13_397 dX13_wrongly_46 ?_
        refine g_MB_walkSize fX13_370 dX13_wrongly_49 hbn ?_
        refine x_iload_n dX13_wrongly_52 rfl ?_
        refine x_iald dX13_wrongly_53 rfl rfl hbn (by first | exact Nat.le_of_ble_eq_true rfl | assumption | omega) ?_
        refine x_top (y76 hB1 (by first | assumption | omega)) ?_
        refine x_ifN_eq 82 dX13_wrongly_54 (by decide) (by omega) (fun h54 => ?_) (fun h54 => ?_)
        · have hwr : wrg V N k = true := by unfold wrg; rw [decide_eq_false (show ¬ 0 < V 13 (V 15 k 0) 0 by omega)]; rfl
          refine x_aload_n dX13_wrongly_82 rfl ?_
          refine x_iload_n dX13_wrongly_83 rfl ?_
          refine x_cvi (m_good) kX13_82 dX13_wrongly_84 rfl (Nat.le_of_ble_eq_true rfl) rfl rfl (Nat.le_of_ble_eq_true rfl) (fun ru Mu hq => ?_)
          obtain ⟨rfl, rfl⟩ := hq
          refine x_iret dX13_wrongly_87 rfl ?_
          first
            | (refine qM_ok (show a_wrongly V N = _ from ?_) m3; unfold a_wrongly; rw [if_pos h0]; unfold fsO; rw [← hf, fst_t (P := (wrg V N)) hwr, if_pos (by omega)])
            | (refine qM_ok (show a_wrongly V N = _ from ?_) hm; unfold a_wrongly; rw [if_pos h0]; unfold fsO; rw [← hf, fst_t (P := (wrg V N)) hwr, if_pos (by omega)])
        · refine x_aload_n dX13_wrongly_57 rfl ?_
          refine x_iload_n dX13_wrongly_58 rfl ?_
          refine x_cvi (m_canWalk (d := d + 4) (t := V 15 k 0) hV hb hbn hW (hB.mx hm) (hN.mx hm) h15.1) kX13_445 dX13_wrongly_59 rfl (Nat.le_of_ble_eq_true rfl) rfl rfl (Nat.le_of_ble_eq_true rfl) (fun ru Mu hq => ?_)
          obtain ⟨rfl, rfl⟩ := hq
          refine x_if_eq 82 dX13_wrongly_62 (by decide) (fun h62 => ?_) (fun h62 => ?_)
          · have hwr : wrg V N k = true := by unfold wrg; rw [show wk1 V N (V 15 k 0) = false from bI_eq.mp h62]; simp
            refine x_aload_n dX13_wrongly_82 rfl ?_
            refine x_iload_n dX13_wrongly_83 rfl ?_
            refine x_cvi (m_good) kX13_82 dX13_wrongly_84 rfl (Nat.le_of_ble_eq_true rfl) rfl rfl (Nat.le_of_ble_eq_true rfl) (fun ru Mu hq => ?_)
            obtain ⟨rfl, rfl⟩ := hq
            refine x_iret dX13_wrongly_87 rfl ?_
            first
              | (refine qM_ok (show a_wrongly V N = _ from ?_) m3; unfold a_wrongly; rw [if_pos h0]; unfold fsO; rw [← hf, fst_t (P := (wrg V N)) hwr, if_pos (by omega)])
              | (refine qM_ok (show a_wrongly V N = _ from ?_) hm; unfold a_wrongly; rw [if_pos h0]; unfold fsO; rw [← hf, fst_t (P := (wrg V N)) hwr, if_pos (by omega)])
          · refine x_aload_n dX13_wrongly_65 rfl ?_
            refine x_iload_n dX13_wrongly_66 rfl ?_
            refine x_cvi (m_walks (d := d) hV hb hbn hW (hB.mx hm) (hN.mx hm) h15.1 (nz := (fun p => V 6 p 0)) hp (fun p hp => (hV.2.2.2.2.2.2.2.2.2.2.2.2.2.2.2.1 p hp).2)) kX13_448 dX13_wrongly_67 rfl (Nat.le_of_ble_eq_true rfl) rfl rfl (Nat.le_of_ble_eq_true rfl) (fun ru Mu hq => ?_)
            obtain ⟨rfl, I3, rfl, w1, w2⟩ := hq
            have m3 : MX (xu I 13 0 0 (nI 0)) I3 := hm.tr ⟨fun s h1 h2 => w2 s (fun z => h1 (by unfold msc; omega)) (fun z => h1 (by unfold msc; omega)), fun k _ => by rw [w2 13 (by decide) (by decide)]⟩
            refine x_aload_n dX13_wrongly_70 rfl ?_
            refine g_M_border hb fX13_397 dX13_wrongly_71 ?_
            refine g_MB_askedMuch fX13_384 dX13_wrongly_74 hbn ?_
            refine x_iload_n dX13_wrongly_77 rfl ?_
            refine x_iald dX13_wrongly_78 rfl rfl hbn (by first | exact Nat.le_of_ble_eq_true rfl | assumption | omega) ?_
            rw [y79 (hB.mx m3) hk2]
            refine x_icN_eq 88 dX13_wrongly_79 (by decide) (by omega) (by omega) (fun h79 => ?_) (fun h79 => ?_)
            · refine x_iincN 1 dX13_wrongly_88 li_1 rfl (by decide) rfl ?_
              refine x_goto 24 dX13_wrongly_91 (by decide) ?_
              refine x_ls ?_ (ih (k + 1) I3 (by omega) m3 (fun p hp4 => by rw [w2 89 (by decide) (by decide)]; exact hp p hp4) (by omega) (by rw [fst_f (P := (wrg V N)) hk2 (by unfold wrg; rw [decide_eq_true (show 0 < V 13 (V 15 k 0) 0 by omega), show wk1 V N (V 15 k 0) = true from bI_ne.mp h62, decide_eq_true (show wk2 V N (V 15 k 0) = V 16 k 0 from h79)]; rfl)]; exact hf))
              exact ⟨rfl, rfl, trivial⟩
            · have hwr : wrg V N k = true := by unfold wrg; rw [decide_eq_false (show ¬ wk2 V N (V 15 k 0) = V 16 k 0 from h79)]; simp
              refine x_aload_n dX13_wrongly_82 rfl ?_
              refine x_iload_n dX13_wrongly_83 rfl ?_
              refine x_cvi (m_good) kX13_82 dX13_wrongly_84 rfl (Nat.le_of_ble_eq_true rfl) rfl rfl (Nat.le_of_ble_eq_true rfl) (fun ru Mu hq => ?_)
              obtain ⟨rfl, rfl⟩ := hq
              refine x_iret dX13_wrongly_87 rfl ?_
              first
                | (refine qM_ok (show a_wrongly V N = _ from ?_) m3; unfold a_wrongly; rw [if_pos h0]; unfold fsO; rw [← hf, fst_t (P := (wrg V N)) hwr, if_pos (by omega)])
                | (refine qM_ok (show a_wrongly V N = _ from ?_) hm; unfold a_wrongly; rw [if_pos h0]; unfold fsO; rw [← hf, fst_t (P := (wrg V N)) hwr, if_pos (by omega)])
  refine x_start (by decide) (Nat.le_of_ble_eq_true rfl) ?_
  refine x_aload_n dX13_wrongly_0 rfl ?_
  refine x_iconst dX13_wrongly_1 li_0 ?_
  refine p_M_thrown fX13_72 dX13_wrongly_2 ?_
  refine x_aload_n dX13_wrongly_5 rfl ?_
  refine g_M_border hb fX13_397 dX13_wrongly_6 ?_
  refine x_ifnonnull 18 dX13_wrongly_9 (by decide) ?_
  refine x_aload_n dX13_wrongly_18 rfl ?_
  refine x_cvv (m_posted (d := d + 4) hV hb hbn (hB.mx hm)) kX13_433 dX13_wrongly_19 rfl (Nat.le_of_ble_eq_true rfl) rfl rfl (Nat.le_of_ble_eq_true rfl) (fun Mu hq => ?_)
  obtain ⟨I2, rfl, g1, g2⟩ := hq
  have m2 := hm.tr (MX.of g2 (by unfold msc; omega))
  refine x_iconst dX13_wrongly_22 li_0 ?_
  refine x_istore_n dX13_wrongly_23 (by decide) rfl ?_
  refine x_ls ?_ (loop24 (V 0 9 0 + 1) 0 I2 (by omega) m2 g1 (by omega) (by rw [Nat.zero_add, Nat.sub_zero]))
  exact ⟨rfl, rfl, trivial⟩
theorem m_wrongly (hV : VW V) (hO : YO V nb b I) {N : sN} (hW : NW V N) (hN : YN V N I) : Mt G vX13_wrongly (d + 5) (0, 0) [.ref (ad 13 0)] (MM ad nb b r I L) (qM ad nb b r I L (a_wrongly V N)) := by
  rcases hO with ⟨hn, hz⟩ | ⟨bi, hb, hbn, hB, h0⟩
  · exact m_wrongly0 hn hz
  · exact m_wrongly1 hV hb hbn hW hB h0 hN
end M7
