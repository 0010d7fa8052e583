section M8
variable {G : xG} {ad : Nat → Nat → Nat} {nb : Nat} {b r : Option Nat} {L : Nat → Nat → Nat → Int64} {V : sV} {I : Nat → Nat → Nat → Int32} {d : Nat}
theorem bm64 {x : Int} (h1 : -(2:Int)^62 ≤ x) (h2 : x < (2:Int)^62) : x.bmod (2^64) = x := by
  rw [Int.bmod_eq_of_le] <;> omega
theorem i64_toInt {n : Nat} (h : n < 2^31) : ((nI n).toInt64).toInt = (n : Int) := by
  rw [Int32.toInt_toInt64]; exact Int32.toInt_ofNat_of_lt h
theorem drw64 {n : Nat} (h : n < 65537) : ((75 * (nI n).toInt64 + 74) - (75 * (nI n).toInt64 + 74) / 65537 * 65537 : Int64).toInt32 = nI ((75 * n + 74) % 65537) := by
  have e1 : ((75 : Int64) * (nI n).toInt64 + 74).toInt = ((75 * n + 74 : Nat) : Int) := by
    rw [Int64.toInt_add, Int64.toInt_mul, i64_toInt (by omega)]
    rw [show (75 : Int64).toInt = 75 from by decide, show (74 : Int64).toInt = 74 from by decide]
    rw [bm64 (x := 75 * (n : Int)) (by omega) (by omega), bm64 (by omega) (by omega)]
    omega
  generalize hx : (75 : Int64) * (nI n).toInt64 + 74 = x at e1
  have hm := Nat.mod_lt (75 * n + 74) (show 0 < 65537 by decide)
  have e2 : (x / 65537).toInt = (((75 * n + 74) / 65537 : Nat) : Int) := by
    rw [Int64.toInt_div, e1, show (65537 : Int64).toInt = 65537 from by decide, Int.tdiv_eq_ediv_of_nonneg (by omega)]
    rw [bm64 (by omega) (by omega)]
    omega
  apply Int32.toInt_inj.mp
  rw [Int64.toInt_toInt32, Int64.toInt_sub, Int64.toInt_mul, e2, e1, show (65537 : Int64).toInt = 65537 from by decide, nI_toInt (by omega)]
  rw [bm64 (x := (((75 * n + 74) / 65537 : Nat) : Int) * 65537) (by omega) (by omega), bm64 (by omega) (by omega)]
  rw [Int.bmod_eq_of_le] <;> omega
/-- half units behind hours and winds -/
def xhw (V : sV) (f : Nat → Nat) (H w : Nat) : Nat → Nat := fun s => f s - (fd (V 2 s 0) * H + w)
theorem xhw_le {f : Nat → Nat} {H w s : Nat} (h : f s ≤ 198) : xhw V f H w s ≤ 198 := by unfold xhw; omega
theorem xhw_up {f : Nat → Nat} {H w d s : Nat} : xhw V f H w s - fd (V 2 s 0) * 1 - d = xhw V f (H + 1) (w + d) s := by unfold xhw; rw [Nat.mul_add]; omega
theorem xhw_0 {f : Nat → Nat} {s : Nat} : xhw V f 0 0 s = f s := by unfold xhw; rw [Nat.mul_zero]; rfl

set_option maxRecDepth 100000 in
set_option maxHeartbeats 600000 in
theorem lp_mblw (hV : VW V) {bi : Nat} (hb : b = some bi) (hbn : bi < nb) {N : sN} (hW : NW V N) (h0 : 0 < V 0 0 0) {t sd H : Nat} (ht : t < V 0 7 0) (hsd : sd < 65537) (hH : H ≤ 99) {k dr : Nat} (hdr : dr < 65537) {g : Nat → Nat} {Iq : Nat → Nat → Nat → Int32} (hg : ∀ s, s < V 0 2 0 → g s ≤ 198) (hBq : YB V bi Iq) (kc : ∀ I', (∀ s, s < V 0 2 0 → I' 88 0 s = nI (g s - dr % V 0 0 0)) → (∀ q, q ≠ 88 → I' q = Iq q) → X G vX13_blows (d + 2) (0, 0) 114 [(0, some (.ref (ad 13 0))), (1, some (.int (nI (t)))), (2, some (.int (nI (sd)))), (3, some (.int (nI (H)))), (4, some (.int (nI (dr)))), (5, some (.int (nI (k))))] [] (MM ad nb b r I' L) (xT G (qV (fun M' => ∃ I', M' = MM ad nb b r I' L ∧ MX I I' ∧ (∀ s, s < V 0 2 0 → I' 88 0 s = nI (xhw V (ON N t) H (blw (V 0 0 0) sd H) s)) ∧ ∀ p, p < V 0 4 0 → I' 89 0 p = nO (-2) (V 6 p 0))))) : ∀ (n : Nat) (j : Nat) (I1 : Nat → Nat → Nat → Int32), V 0 2 0 - j < n → j ≤ V 0 2 0 → (∀ s, s < j → I1 88 0 s = nI (g s - dr % V 0 0 0)) → (∀ s, j ≤ s → s < V 0 2 0 → I1 88 0 s = nI (g s)) → (∀ q, q ≠ 88 → I1 q = Iq q) → X G vX13_blows (d + 2) (0, 0) 47 [(0, some (.ref (ad 13 0))), (1, some (.int (nI (t)))), (2, some (.int (nI (sd)))), (3, some (.int (nI (H)))), (4, some (.int (nI (dr)))), (5, some (.int (nI (k)))), (6, some (.int (nI (j))))] [] (MM ad nb b r I1 L) (xT G (qV (fun M' => ∃ I', M' = MM ad nb b r I' L ∧ MX I I' ∧ (∀ s, s < V 0 2 0 → I' 88 0 s = nI (xhw V (ON N t) H (blw (V 0 0 0) sd H) s)) ∧ ∀ p, p < V 0 4 0 → I' 89 0 p = nO (-2) (V 6 p 0)))) := by
  have v0 := hV.1
  have v1 := hV.2.1
  have v2 := hV.2.2.1
  have v3 := hV.2.2.2.1
  have v4 := hV.2.2.2.2.1
  have v7 := hV.2.2.2.2.2.2.2.1
  have v9 := hV.2.2.2.2.2.2.2.2.2.1
  have v10 := hV.2.2.2.2.2.2.2.2.2.2.1
  intro n
  induction n with
  | zero => intro j I1 h0; omega
  | succ n ih =>
    intro j I1 hn hj h1 h2 hs
    have hB := hBq.sm (I' := I1) (fun q hq => hs q (by omega))
    have hmd := Nat.mod_lt dr h0
    refine x_iload dX13_blows_47 rfl ?_
    refine x_aload_n dX13_blows_49 rfl ?_
    refine g_M_border hb fX13_397 dX13_blows_50 ?_
    refine g_MB_smells fX13_301 dX13_blows_53 hbn ?_
    refine x_top (y12_2 hB) ?_
    refine x_icN_ge 114 dX13_blows_56 (by decide) (by omega) (by omega) (fun h56 => ?_) (fun h56 => ?_)
    · obtain rfl : j = V 0 2 0 := by omega
      refine x_ls ?_ (kc I1 h1 hs)
      exact ⟨rfl, rfl, rfl, rfl, rfl, rfl, trivial⟩
    · have hj2 : j < V 0 2 0 := h56
      have hgj := hg j hj2
      refine x_aload_n dX13_blows_59 rfl ?_
      refine g_M_x fX13_27 dX13_blows_60 ?_
      refine x_iload dX13_blows_63 rfl ?_
      refine x_aload_n dX13_blows_65 rfl ?_
      refine g_M_x fX13_27 dX13_blows_66 ?_
      refine x_iload dX13_blows_69 rfl ?_
      refine x_iald dX13_blows_71 rfl rfl (Nat.le_of_ble_eq_true rfl) (by first | exact Nat.le_of_ble_eq_true rfl | assumption | omega) ?_
      rw [h2 j (Nat.le_refl j) hj2]
      refine x_iload dX13_blows_72 rfl ?_
      refine x_aload_n dX13_blows_74 rfl ?_
      refine g_M_border hb fX13_397 dX13_blows_75 ?_
      refine g_MB_wind fX13_189 dX13_blows_78 hbn ?_
      refine x_top (y12_0 hB) ?_
      refine x_iremN dX13_blows_81 (by omega) (by omega) (by omega) ?_
      refine x_icN_le 106 dX13_blows_82 (by decide) (by omega) (by omega) (fun h82 => ?_) (fun h82 => ?_)
      · have en : g j - dr % V 0 0 0 = 0 := by omega
        refine x_iconst dX13_blows_106 li_0 ?_
        refine x_iast dX13_blows_107 rfl rfl (Nat.le_of_ble_eq_true rfl) (by first | exact Nat.le_of_ble_eq_true rfl | assumption | omega) ?_
        refine x_iincN 1 dX13_blows_108 li_1 rfl (by decide) rfl ?_
        refine x_goto 47 dX13_blows_111 (by decide) ?_
        refine x_ls ?_ (ih (j + 1) _ (by omega) (by omega) (fun s h => ?_) (fun s h h3 => ?_) (fun q hq => ?_))
        · exact ⟨rfl, rfl, rfl, rfl, rfl, rfl, rfl, trivial⟩
        · rw [xu_at]
          by_cases e0 : s = j
          · rw [if_pos e0, e0]
            try rw [en]
          · rw [if_neg e0]; exact h1 s (by omega)
        · rw [xu_nk (by omega)]; exact h2 s (by omega) h3
        · rw [← hs q hq]; funext x y; rw [xu_ns hq]
      · have en : True := trivial
        refine x_aload_n dX13_blows_85 rfl ?_
        refine g_M_x fX13_27 dX13_blows_86 ?_
        refine x_iload dX13_blows_89 rfl ?_
        refine x_iald dX13_blows_91 rfl rfl (Nat.le_of_ble_eq_true rfl) (by first | exact Nat.le_of_ble_eq_true rfl | assumption | omega) ?_
        rw [h2 j (Nat.le_refl j) hj2]
        refine x_iload dX13_blows_92 rfl ?_
        refine x_aload_n dX13_blows_94 rfl ?_
        refine g_M_border hb fX13_397 dX13_blows_95 ?_
        refine g_MB_wind fX13_189 dX13_blows_98 hbn ?_
        refine x_top (y12_0 hB) ?_
        refine x_iremN dX13_blows_101 (by omega) (by omega) (by omega) ?_
        refine x_isubN dX13_blows_102 (by omega) ?_
        refine x_goto 107 dX13_blows_103 (by decide) ?_
        refine x_iast dX13_blows_107 rfl rfl (Nat.le_of_ble_eq_true rfl) (by first | exact Nat.le_of_ble_eq_true rfl | assumption | omega) ?_
        refine x_iincN 1 dX13_blows_108 li_1 rfl (by decide) rfl ?_
        refine x_goto 47 dX13_blows_111 (by decide) ?_
        refine x_ls ?_ (ih (j + 1) _ (by omega) (by omega) (fun s h => ?_) (fun s h h3 => ?_) (fun q hq => ?_))
        · exact ⟨rfl, rfl, rfl, rfl, rfl, rfl, rfl, trivial⟩
        · rw [xu_at]
          by_cases e0 : s = j
          · rw [if_pos e0, e0]
            try rw [en]
          · rw [if_neg e0]; exact h1 s (by omega)
        · rw [xu_nk (by omega)]; exact h2 s (by omega) h3
        · rw [← hs q hq]; funext x y; rw [xu_ns hq]
set_option maxRecDepth 100000 in
set_option maxHeartbeats 600000 in
theorem lp_mblo (hV : VW V) {bi : Nat} (hb : b = some bi) (hbn : bi < nb) {N : sN} (hW : NW V N) (h0 : 0 < V 0 0 0) {t sd H : Nat} (ht : t < V 0 7 0) (hsd : sd < 65537) (hH : H ≤ 99)  : ∀ (n : Nat) (k : Nat) (I1 : Nat → Nat → Nat → Int32), H - k < n → k ≤ H → MX I I1 → YB V bi I1 → (∀ s, s < V 0 2 0 → I1 88 0 s = nI (xhw V (ON N t) k (blw (V 0 0 0) sd k) s)) → (∀ p, p < V 0 4 0 → I1 89 0 p = nO (-2) (V 6 p 0)) → X G vX13_blows (d + 2) (0, 0) 15 [(0, some (.ref (ad 13 0))), (1, some (.int (nI (t)))), (2, some (.int (nI (sd)))), (3, some (.int (nI (H)))), (4, some (.int (nI (drw sd k)))), (5, some (.int (nI (k))))] [] (MM ad nb b r I1 L) (xT G (qV (fun M' => ∃ I', M' = MM ad nb b r I' L ∧ MX I I' ∧ (∀ s, s < V 0 2 0 → I' 88 0 s = nI (xhw V (ON N t) H (blw (V 0 0 0) sd H) s)) ∧ ∀ p, p < V 0 4 0 → I' 89 0 p = nO (-2) (V 6 p 0)))) := by
  have v0 := hV.1
  have v1 := hV.2.1
  have v2 := hV.2.2.1
  have v3 := hV.2.2.2.1
  have v4 := hV.2.2.2.2.1
  have v7 := hV.2.2.2.2.2.2.2.1
  have v9 := hV.2.2.2.2.2.2.2.2.2.1
  have v10 := hV.2.2.2.2.2.2.2.2.2.2.1
  intro n
  induction n with
  | zero => intro k I1 h0; omega
  | succ n ih =>
    intro k I1 hn hk hm hB hx hp
    have hd := drw_lt hsd k
    have hd1 := drw_lt hsd (k + 1)
    have hg : ∀ s, s < V 0 2 0 → xhw V (ON N t) k (blw (V 0 0 0) sd k) s ≤ 198 := fun i hi => xhw_le ((hW t ht).2 i (by omega))
    refine x_iload dX13_blows_15 rfl ?_
    refine x_iload_n dX13_blows_17 rfl ?_
    refine x_icN_ge 120 dX13_blows_18 (by decide) (by omega) (by omega) (fun h18 => ?_) (fun h18 => ?_)
    · refine x_vret dX13_blows_120 rfl ?_
      obtain rfl : k = H := by omega
      exact ⟨rfl, _, rfl, hm, hx, hp⟩
    · refine x_ldc2 dX13_blows_21 (xm8 223 rfl rfl) ?_
      refine x_iload dX13_blows_24 rfl ?_
      refine x_i2l dX13_blows_26 rfl ?_
      refine x_lmul dX13_blows_27 ?_
      refine x_ldc2 dX13_blows_28 (xm8 224 rfl rfl) ?_
      refine x_ladd dX13_blows_31 ?_
      refine x_ldc2 dX13_blows_32 (xm8 225 rfl rfl) ?_
      refine x_lrem dX13_blows_35 (by decide) ?_
      refine x_l2i dX13_blows_36 rfl ?_
      refine x_top (v := nI (drw sd (k + 1))) (drw64 hd) ?_
      refine x_istore dX13_blows_37 (by decide) rfl ?_
      refine x_aload_n dX13_blows_39 rfl ?_
      refine x_iconst dX13_blows_40 li_1 ?_
      refine x_cvv (m_fades (d := d) (g := fun s => xhw V (ON N t) k (blw (V 0 0 0) sd k) s) (H := 1) hV hb hbn hB (by omega) hx hg) kX13_431 dX13_blows_41 rfl (Nat.le_of_ble_eq_true rfl) rfl rfl (Nat.le_of_ble_eq_true rfl) (fun Mu hq => ?_)
      obtain ⟨I2, rfl, f1, f2, f3⟩ := hq
      refine x_iconst dX13_blows_44 li_0 ?_
      refine x_istore dX13_blows_45 (by decide) rfl ?_
      refine x_ls ?_ (lp_mblw (k := k) (Iq := I2) (dr := drw sd (k + 1)) (g := fun s => xhw V (ON N t) k (blw (V 0 0 0) sd k) s - fd (V 2 s 0) * 1) hV hb hbn hW h0 ht hsd hH hd1 (fun s hs => Nat.le_trans (Nat.sub_le _ _) (hg s hs)) (hB.sm (fun q hq => f3 q (by omega))) ?_ (V 0 2 0 + 1) 0 I2 (by omega) (by omega) (fun s h => absurd h (Nat.not_lt_zero s)) (fun s _ h => f1 s h) (fun _ _ => rfl))
      · exact ⟨rfl, rfl, rfl, rfl, rfl, rfl, rfl, trivial⟩
      · intro I3 k1 k2
        refine x_iincN 1 dX13_blows_114 li_1 rfl (by decide) rfl ?_
        refine x_goto 15 dX13_blows_117 (by decide) ?_
        refine x_ls ?_ (ih (k + 1) I3 (by omega) (by omega) ((hm.tr (MX.of f3 (by unfold msc; omega))).tr (MX.of k2 (by unfold msc; omega))) ((hB.sm (fun q hq => f3 q (by omega))).sm (fun q hq => k2 q (by omega))) (fun s hs => by rw [k1 s hs, xhw_up]; rfl) (fun p hp4 => by rw [k2 89 (by decide), f3 89 (by decide)]; exact hp p hp4))
        exact ⟨rfl, rfl, rfl, rfl, rfl, rfl, trivial⟩
set_option maxRecDepth 100000 in
set_option maxHeartbeats 600000 in
theorem m_blows (hV : VW V) {bi : Nat} (hb : b = some bi) (hbn : bi < nb) {N : sN} (hW : NW V N) (h0 : 0 < V 0 0 0) {t sd H : Nat} (ht : t < V 0 7 0) (hsd : sd < 65537) (hH : H ≤ 99) (hB : YB V bi I) (hN : YN V N I) : Mt G vX13_blows (d + 2) (0, 0) [.ref (ad 13 0), .int (nI (t)), .int (nI (sd)), .int (nI (H))] (MM ad nb b r I L) (qV (fun M' => ∃ I', M' = MM ad nb b r I' L ∧ MX I I' ∧ (∀ s, s < V 0 2 0 → I' 88 0 s = nI (xhw V (ON N t) H (blw (V 0 0 0) sd H) s)) ∧ ∀ p, p < V 0 4 0 → I' 89 0 p = nO (-2) (V 6 p 0))) := by
  have v0 := hV.1
  have v1 := hV.2.1
  have v2 := hV.2.2.1
  have v3 := hV.2.2.2.1
  have v4 := hV.2.2.2.2.1
  have v7 := hV.2.2.2.2.2.2.2.1
  have v9 := hV.2.2.2.2.2.2.2.2.2.1
  have v10 := hV.2.2.2.2.2.2.2.2.2.2.1
  refine x_start (by decide) (Nat.le_of_ble_eq_true rfl) ?_
  refine x_iload_n dX13_blows_0 rfl ?_
  refine x_istore dX13_blows_1 (by decide) rfl ?_
  refine x_aload_n dX13_blows_3 rfl ?_
  refine x_iload_n dX13_blows_4 rfl ?_
  refine x_cvv (m_tries (d := d + 1) (t := t) (by omega)) kX13_428 dX13_blows_5 rfl (Nat.le_of_ble_eq_true rfl) rfl rfl (Nat.le_of_ble_eq_true rfl) (fun Mu hq => ?_)
  obtain ⟨I1, rfl, t1, t2⟩ := hq
  have m1 : MX I I1 := MX.of t2 (by unfold msc; omega)
  refine x_aload_n dX13_blows_8 rfl ?_
  refine x_cvv (m_posted (d := d + 1) hV hb hbn (hB.mx m1)) kX13_433 dX13_blows_9 rfl (Nat.le_of_ble_eq_true rfl) rfl rfl (Nat.le_of_ble_eq_true rfl) (fun Mu hq => ?_)
  obtain ⟨I2, rfl, g1, g2⟩ := hq
  have m2 := m1.tr (MX.of g2 (by unfold msc; omega))
  refine x_iconst dX13_blows_12 li_0 ?_
  refine x_istore dX13_blows_13 (by decide) rfl ?_
  refine x_ls ?_ (lp_mblo hV hb hbn hW h0 ht hsd hH (H + 1) 0 I2 (by omega) (by omega) m2 (hB.mx m2) (fun s hs => by rw [g2 88 (by decide), t1 s (by omega)]; show _ = nI (xhw V (ON N t) 0 0 s); rw [xhw_0]; exact (hN t ht).1 s (by omega)) g1)
  exact ⟨rfl, rfl, rfl, rfl, rfl, rfl, trivial⟩
set_option maxRecDepth 100000 in
set_option maxHeartbeats 600000 in
theorem m_refusesWinds {c : Nat} (hc1 : c ≤ 1) {z1 z2 : Int32} : Mt G vX13_refusesWinds (d + 1) (0, 0) [.ref (ad 13 0), .int (nI (c)), .int (z1), .int (z2)] (MM ad nb b r I L) (qE (nI (if c = 1 then (if (wth z1 0 65536 && wth z2 0 99) = true then 0 else 2) else 1)) (MM ad nb b r I L)) := by
  refine x_start (by decide) (Nat.le_of_ble_eq_true rfl) ?_
  refine x_iload_n dX13_refusesWinds_0 rfl ?_
  refine x_ifN_ne 8 dX13_refusesWinds_1 (by decide) (by omega) (fun h1 => ?_) (fun h1 => ?_)
  · refine x_iload_n dX13_refusesWinds_8 rfl ?_
    refine x_iconst dX13_refusesWinds_9 li_0 ?_
    refine x_ldcw dX13_refusesWinds_10 (xm8 218 rfl rfl) ?_
    refine x_top (v := nI 65536) (by decide) ?_
    refine x_csi (m_in (d := d)) kX13_150 dX13_refusesWinds_13 rfl rfl (Nat.le_of_ble_eq_true rfl) (fun ru Mu hq => ?_)
    obtain ⟨rfl, rfl⟩ := hq
    refine x_if_eq 33 dX13_refusesWinds_16 (by decide) (fun h16 => ?_) (fun h16 => ?_)
    · refine x_iconst dX13_refusesWinds_33 li_2 ?_
      refine x_iret dX13_refusesWinds_34 rfl ?_
      first
        | (rw [if_neg (by omega)]; exact ⟨_, rfl, rfl, rfl⟩)
        | (rw [if_pos (by omega), if_neg (by rw [bI_eq.mp h16]; simp)]; exact ⟨_, rfl, rfl, rfl⟩)
        | (rw [if_pos (by omega), if_neg (by rw [bI_eq.mp h26]; simp)]; exact ⟨_, rfl, rfl, rfl⟩)
        | (rw [if_pos (by omega), if_pos (by rw [bI_ne.mp h16, bI_ne.mp h26]; rfl)]; exact ⟨_, rfl, rfl, rfl⟩)
    · refine x_iload_n dX13_refusesWinds_19 rfl ?_
      refine x_iconst dX13_refusesWinds_20 li_0 ?_
      refine x_bipush dX13_refusesWinds_21 lb_99 ?_
      refine x_csi (m_in (d := d)) kX13_150 dX13_refusesWinds_23 rfl rfl (Nat.le_of_ble_eq_true rfl) (fun ru Mu hq => ?_)
      obtain ⟨rfl, rfl⟩ := hq
      refine x_if_eq 33 dX13_refusesWinds_26 (by decide) (fun h26 => ?_) (fun h26 => ?_)
      · refine x_iconst dX13_refusesWinds_33 li_2 ?_
        refine x_iret dX13_refusesWinds_34 rfl ?_
        first
          | (rw [if_neg (by omega)]; exact ⟨_, rfl, rfl, rfl⟩)
          | (rw [if_pos (by omega), if_neg (by rw [bI_eq.mp h16]; simp)]; exact ⟨_, rfl, rfl, rfl⟩)
          | (rw [if_pos (by omega), if_neg (by rw [bI_eq.mp h26]; simp)]; exact ⟨_, rfl, rfl, rfl⟩)
          | (rw [if_pos (by omega), if_pos (by rw [bI_ne.mp h16, bI_ne.mp h26]; rfl)]; exact ⟨_, rfl, rfl, rfl⟩)
      · refine x_iconst dX13_refusesWinds_29 li_0 ?_
        refine x_goto 34 dX13_refusesWinds_30 (by decide) ?_
        refine x_iret dX13_refusesWinds_34 rfl ?_
        first
          | (rw [if_neg (by omega)]; exact ⟨_, rfl, rfl, rfl⟩)
          | (rw [if_pos (by omega), if_neg (by rw [bI_eq.mp h16]; simp)]; exact ⟨_, rfl, rfl, rfl⟩)
          | (rw [if_pos (by omega), if_neg (by rw [bI_eq.mp h26]; simp)]; exact ⟨_, rfl, rfl, rfl⟩)
          | (rw [if_pos (by omega), if_pos (by rw [bI_ne.mp h16, bI_ne.mp h26]; rfl)]; exact ⟨_, rfl, rfl, rfl⟩)
  · refine x_iconst dX13_refusesWinds_4 li_1 ?_
    refine x_goto 34 dX13_refusesWinds_5 (by decide) ?_
    refine x_iret dX13_refusesWinds_34 rfl ?_
    first
      | (rw [if_neg (by omega)]; exact ⟨_, rfl, rfl, rfl⟩)
      | (rw [if_pos (by omega), if_neg (by rw [bI_eq.mp h16]; simp)]; exact ⟨_, rfl, rfl, rfl⟩)
      | (rw [if_pos (by omega), if_neg (by rw [bI_eq.mp h26]; simp)]; exact ⟨_, rfl, rfl, rfl⟩)
      | (rw [if_pos (by omega), if_pos (by rw [bI_ne.mp h16, bI_ne.mp h26]; rfl)]; exact ⟨_, rfl, rfl, rfl⟩)
set_option maxRecDepth 100000 in
set_option maxHeartbeats 600000 in
theorem lp_mwin (hV : VW V) {bi : Nat} (hb : b = some bi) (hbn : bi < nb) {N : sN} (hW : NW V N) (h0 : 0 < V 0 0 0) {t sd H : Nat} (ht : t < V 0 7 0) (hsd : sd < 65537) (hH : H ≤ 99)  : ∀ (n : Nat) (k : Nat) (I1 : Nat → Nat → Nat → Int32), V 0 2 0 - k < n → k ≤ V 0 2 0 → MX (xu I 13 0 0 (nI 0)) I1 → YB V bi I1 → (∀ s, s < V 0 2 0 → I1 88 0 s = nI (xhw V (ON N t) H (blw (V 0 0 0) sd H) s)) → X G vX13_winds (d + 3) (0, 0) 43 [(0, some (.ref (ad 13 0))), (1, some (.int (nI (t)))), (2, some (.int (nI (sd)))), (3, some (.int (nI (H)))), (5, some (.int (nI (tgt V (str V (ON N t) H (blw (V 0 0 0) sd H)) k)))), (6, some (.int (nI (k))))] [] (MM ad nb b r I1 L) (xT G (qM ad nb b r I L (a_winds V N (nI t) (nI sd) (nI H)))) := by
  have v0 := hV.1
  have v1 := hV.2.1
  have v2 := hV.2.2.1
  have v3 := hV.2.2.2.1
  have v4 := hV.2.2.2.2.1
  have v7 := hV.2.2.2.2.2.2.2.1
  have v9 := hV.2.2.2.2.2.2.2.2.2.1
  have v10 := hV.2.2.2.2.2.2.2.2.2.2.1
  intro n
  induction n with
  | zero => intro k I1 h0; omega
  | succ n ih =>
    intro k I1 hn hk hm hB hx
    have hg : ∀ s, s < V 0 2 0 → xhw V (ON N t) H (blw (V 0 0 0) sd H) s ≤ 198 := fun i hi => xhw_le ((hW t ht).2 i (by omega))
    refine x_iload dX13_winds_43 rfl ?_
    refine x_aload_n dX13_winds_45 rfl ?_
    refine g_M_border hb fX13_397 dX13_winds_46 ?_
    refine g_MB_smells fX13_301 dX13_winds_49 hbn ?_
    refine x_top (y12_2 hB) ?_
    refine x_icN_ge 75 dX13_winds_52 (by decide) (by omega) (by omega) (fun h52 => ?_) (fun h52 => ?_)
    · refine x_aload_n dX13_winds_75 rfl ?_
      refine x_iload dX13_winds_76 rfl ?_
      refine x_cvi (m_good) kX13_82 dX13_winds_78 rfl (Nat.le_of_ble_eq_true rfl) rfl rfl (Nat.le_of_ble_eq_true rfl) (fun ru Mu hq => ?_)
      obtain ⟨rfl, rfl⟩ := hq
      refine x_iret dX13_winds_81 rfl ?_
      obtain rfl : k = V 0 2 0 := by omega
      refine qM_ok ?_ hm
      unfold a_winds
      rw [inr_nI (by omega) (by omega), decide_eq_true ht, wth_nI (by omega) (by omega) (by omega), wth_nI (by omega) (by omega) (by omega), decide_eq_true (show 0 ≤ sd ∧ sd ≤ 65536 by omega), decide_eq_true ⟨Nat.zero_le H, hH⟩, zN_nI (by omega), zN_nI (by omega), zN_nI (by omega)]
      rfl
    · refine x_iload dX13_winds_55 rfl ?_
      refine x_aload_n dX13_winds_57 rfl ?_
      refine g_M_x fX13_27 dX13_winds_58 ?_
      refine x_iload dX13_winds_61 rfl ?_
      refine x_iald dX13_winds_63 rfl rfl (Nat.le_of_ble_eq_true rfl) (by first | exact Nat.le_of_ble_eq_true rfl | assumption | omega) ?_
      refine x_top (hx _ (by first | assumption | omega)) ?_
      have hgk := hg k h52
      refine x_iconst dX13_winds_64 li_2 ?_
      refine x_idivN dX13_winds_65 (by omega) (by omega) (by omega) ?_
      refine x_iaddN dX13_winds_66 ?_
      refine x_istore dX13_winds_67 (by decide) rfl ?_
      refine x_iincN 1 dX13_winds_69 li_1 rfl (by decide) rfl ?_
      refine x_goto 43 dX13_winds_72 (by decide) ?_
      refine x_ls ?_ (ih (k + 1) I1 (by omega) (by omega) hm hB hx)
      exact ⟨rfl, rfl, rfl, rfl, rfl, rfl, trivial⟩
set_option maxRecDepth 100000 in
set_option maxHeartbeats 600000 in
theorem m_winds (hV : VW V) (hO : YO V nb b I) {N : sN} (hW : NW V N) (hN : YN V N I) {z1 z2 z3 : Int32} : Mt G vX13_winds (d + 3) (0, 0) [.ref (ad 13 0), .int (z1), .int (z2), .int (z3)] (MM ad nb b r I L) (qM ad nb b r I L (a_winds V N z1 z2 z3)) := by
  have v0 := hV.1
  have v1 := hV.2.1
  have v2 := hV.2.2.1
  have v3 := hV.2.2.2.1
  have v4 := hV.2.2.2.2.1
  have v7 := hV.2.2.2.2.2.2.2.1
  have v9 := hV.2.2.2.2.2.2.2.2.2.1
  have v10 := hV.2.2.2.2.2.2.2.2.2.2.1
  have hO := hO.sm (I' := (xu I 13 0 0 (nI 0))) (fun q hq => by funext x y; rw [xu_ns (by omega)])
  have hN := hN.sm (I' := (xu I 13 0 0 (nI 0))) (by funext x y; rw [xu_ns (by decide)])
  have hm := MX.rf (I := (xu I 13 0 0 (nI 0)))
  refine x_start (by decide) (Nat.le_of_ble_eq_true rfl) ?_
  refine x_aload_n dX13_winds_0 rfl ?_
  refine x_iconst dX13_winds_1 li_0 ?_
  refine p_M_thrown fX13_72 dX13_winds_2 ?_
  refine x_aload_n dX13_winds_5 rfl ?_
  refine x_aload_n dX13_winds_6 rfl ?_
  refine x_iload_n dX13_winds_7 rfl ?_
  refine x_cvi (m_isTraveller' hV hO) kX13_425 dX13_winds_8 rfl (Nat.le_of_ble_eq_true rfl) rfl rfl (Nat.le_of_ble_eq_true rfl) (fun ru Mu hq => ?_)
  obtain ⟨rfl, rfl⟩ := hq
  rw [bI_one]
  refine x_iload_n dX13_winds_11 rfl ?_
  refine x_iload_n dX13_winds_12 rfl ?_
  refine x_cvi (m_refusesWinds (d := d + 1) (c := if inr z1 (V 0 7 0) = true then 1 else 0) (by split <;> omega)) kX13_527 dX13_winds_13 rfl (Nat.le_of_ble_eq_true rfl) rfl rfl (Nat.le_of_ble_eq_true rfl) (fun ru Mu hq => ?_)
  obtain ⟨rfl, rfl⟩ := hq
  have hwb : (if (if inr z1 (V 0 7 0) = true then 1 else 0) = 1 then (if (wth z2 0 65536 && wth z3 0 99) = true then 0 else 2) else 1) ≤ 2 := by repeat (first | omega | split)
  generalize hw : (if (if inr z1 (V 0 7 0) = true then 1 else 0) = 1 then (if (wth z2 0 65536 && wth z3 0 99) = true then 0 else 2) else 1) = w at hwb ⊢
  refine x_istore dX13_winds_16 (by decide) rfl ?_
  refine x_iload dX13_winds_18 rfl ?_
  refine x_ifN_le 30 dX13_winds_20 (by decide) (by omega) (fun h20 => ?_) (fun h20 => ?_)
  · have k1 : inr z1 (V 0 7 0) = true := by
      cases hq : inr z1 (V 0 7 0) with
      | true => rfl
      | false => rw [hq] at hw; simp at hw; omega
    have k2 : (wth z2 0 65536 && wth z3 0 99) = true := by
      cases hq : (wth z2 0 65536 && wth z3 0 99) with
      | true => rfl
      | false => rw [hq, k1] at hw; simp at hw; omega
    obtain ⟨k3, k4⟩ := Bool.and_eq_true_iff.mp k2
    obtain ⟨t, ht, rfl⟩ := inr_of k1 (by omega)
    obtain ⟨sd, _, hsd, rfl⟩ := wth_of k3 (by omega) (by omega)
    obtain ⟨H, _, hH, rfl⟩ := wth_of k4 (by omega) (by omega)
    obtain ⟨bi, hb, hbn, hB⟩ := hO.some (show V 0 7 0 ≠ 0 by omega) (by decide)
    have h0 : 0 < V 0 0 0 := by
      rcases hO with y | ⟨_, _, _, _, y⟩
      · exact absurd (y.2 7 (by decide)) (by omega)
      · exact y
    refine x_aload_n dX13_winds_30 rfl ?_
    refine x_iload_n dX13_winds_31 rfl ?_
    refine x_iload_n dX13_winds_32 rfl ?_
    refine x_iload_n dX13_winds_33 rfl ?_
    refine x_cvv (m_blows (d := d) hV hb hbn hW h0 ht (by omega) hH hB hN) kX13_530 dX13_winds_34 rfl (Nat.le_of_ble_eq_true rfl) rfl rfl (Nat.le_of_ble_eq_true rfl) (fun Mu hq => ?_)
    obtain ⟨I1, rfl, m1, x1, -⟩ := hq
    refine x_iconst dX13_winds_37 li_0 ?_
    refine x_istore dX13_winds_38 (by decide) rfl ?_
    refine x_iconst dX13_winds_40 li_0 ?_
    refine x_istore dX13_winds_41 (by decide) rfl ?_
    refine x_ls ?_ (lp_mwin hV hb hbn hW h0 ht (by omega) hH (V 0 2 0 + 1) 0 I1 (by omega) (by omega) m1 (hB.mx m1) x1)
    exact ⟨rfl, rfl, rfl, rfl, rfl, rfl, trivial⟩
  · refine x_aload_n dX13_winds_23 rfl ?_
    refine x_iload dX13_winds_24 rfl ?_
    refine x_cvi (m_refused) kX13_78 dX13_winds_26 rfl (Nat.le_of_ble_eq_true rfl) rfl rfl (Nat.le_of_ble_eq_true rfl) (fun ru Mu hq => ?_)
    obtain ⟨rfl, rfl⟩ := hq
    refine x_iret dX13_winds_29 rfl ?_
    refine qM_ok ?_ hm
    unfold a_winds
    rw [← hw]
    cases hq : inr z1 (V 0 7 0) with
    | true =>
      cases hq2 : (wth z2 0 65536 && wth z3 0 99) with
      | true => rw [hq, hq2] at hw; simp at hw; omega
      | false => rfl
    | false => rfl
set_option maxRecDepth 100000 in
set_option maxHeartbeats 600000 in
theorem m_windDuty (hV : VW V) (hO : YO V nb b I) {N : sN} (hW : NW V N) (hN : YN V N I) {z1 z2 z3 z4 : Int32} : Mt G vX13_windDuty (d + 4) (0, 0) [.ref (ad 13 0), .int (z1), .int (z2), .int (z3), .int (z4)] (MM ad nb b r I L) (qM ad nb b r I L (a_windDuty V N z1 z2 z3 z4)) := by
  have v0 := hV.1
  have v1 := hV.2.1
  have v2 := hV.2.2.1
  have v3 := hV.2.2.2.1
  have v4 := hV.2.2.2.2.1
  have v7 := hV.2.2.2.2.2.2.2.1
  have v9 := hV.2.2.2.2.2.2.2.2.2.1
  have v10 := hV.2.2.2.2.2.2.2.2.2.2.1
  have hO := hO.sm (I' := (xu I 13 0 0 (nI 0))) (fun q hq => by funext x y; rw [xu_ns (by omega)])
  have hN := hN.sm (I' := (xu I 13 0 0 (nI 0))) (by funext x y; rw [xu_ns (by decide)])
  have hm := MX.rf (I := (xu I 13 0 0 (nI 0)))
  refine x_start (by decide) (Nat.le_of_ble_eq_true rfl) ?_
  refine x_aload_n dX13_windDuty_0 rfl ?_
  refine x_iconst dX13_windDuty_1 li_0 ?_
  refine p_M_thrown fX13_72 dX13_windDuty_2 ?_
  refine x_aload_n dX13_windDuty_5 rfl ?_
  refine x_aload_n dX13_windDuty_6 rfl ?_
  refine x_iload_n dX13_windDuty_7 rfl ?_
  refine x_cvi (m_isTraveller' hV hO) kX13_425 dX13_windDuty_8 rfl (Nat.le_of_ble_eq_true rfl) rfl rfl (Nat.le_of_ble_eq_true rfl) (fun ru Mu hq => ?_)
  obtain ⟨rfl, rfl⟩ := hq
  refine x_if_eq 26 dX13_windDuty_11 (by decide) (fun h11 => ?_) (fun h11 => ?_)
  · have ec : (if 0 = 1 then (if (wth z3 0 65536 && wth z4 0 99) = true then 0 else 2) else 1) = (if (inr z1 (V 0 7 0) && inr z2 (V 0 4 0)) = true then (if (wth z3 0 65536 && wth z4 0 99) = true then 0 else 2) else 1) := by rw [bI_eq.mp h11]; rfl
    refine x_iconst dX13_windDuty_26 li_0 ?_
    refine x_iload_n dX13_windDuty_27 rfl ?_
    refine x_iload dX13_windDuty_28 rfl ?_
    refine x_cvi (m_refusesWinds (d := d + 2) (by omega)) kX13_527 dX13_windDuty_30 rfl (Nat.le_of_ble_eq_true rfl) rfl rfl (Nat.le_of_ble_eq_true rfl) (fun ru Mu hq => ?_)
    obtain ⟨rfl, rfl⟩ := hq
    rw [ec]
    have hwb : (if (inr z1 (V 0 7 0) && inr z2 (V 0 4 0)) = true then (if (wth z3 0 65536 && wth z4 0 99) = true then 0 else 2) else 1) ≤ 2 := by repeat (first | omega | split)
    generalize hw : (if (inr z1 (V 0 7 0) && inr z2 (V 0 4 0)) = true then (if (wth z3 0 65536 && wth z4 0 99) = true then 0 else 2) else 1) = w at hwb ⊢
    refine x_istore dX13_windDuty_33 (by decide) rfl ?_
    refine x_iload dX13_windDuty_35 rfl ?_
    refine x_ifN_le 47 dX13_windDuty_37 (by decide) (by omega) (fun h37 => ?_) (fun h37 => ?_)
    · have k0 : (inr z1 (V 0 7 0) && inr z2 (V 0 4 0)) = true := by
        cases hq : (inr z1 (V 0 7 0) && inr z2 (V 0 4 0)) with
        | true => rfl
        | false => rw [hq] at hw; simp at hw; omega
      have k2 : (wth z3 0 65536 && wth z4 0 99) = true := by
        cases hq : (wth z3 0 65536 && wth z4 0 99) with
        | true => rfl
        | false => rw [hq, k0] at hw; simp at hw; omega
      obtain ⟨k1, k1b⟩ := Bool.and_eq_true_iff.mp k0
      obtain ⟨k3, k4⟩ := Bool.and_eq_true_iff.mp k2
      obtain ⟨t, ht, rfl⟩ := inr_of k1 (by omega)
      obtain ⟨q, hq4, rfl⟩ := inr_of k1b (by omega)
      obtain ⟨sd, _, hsd, rfl⟩ := wth_of k3 (by omega) (by omega)
      obtain ⟨H, _, hH, rfl⟩ := wth_of k4 (by omega) (by omega)
      obtain ⟨bi, hb, hbn, hB⟩ := hO.some (show V 0 7 0 ≠ 0 by omega) (by decide)
      have h0 : 0 < V 0 0 0 := by
        rcases hO with y | ⟨_, _, _, _, y⟩
        · exact absurd (y.2 7 (by decide)) (by omega)
        · exact y
      refine x_aload_n dX13_windDuty_47 rfl ?_
      refine x_iload_n dX13_windDuty_48 rfl ?_
      refine x_iload_n dX13_windDuty_49 rfl ?_
      refine x_iload dX13_windDuty_50 rfl ?_
      refine x_cvv (m_blows (d := d + 1) hV hb hbn hW h0 ht (by omega) hH hB hN) kX13_530 dX13_windDuty_52 rfl (Nat.le_of_ble_eq_true rfl) rfl rfl (Nat.le_of_ble_eq_true rfl) (fun Mu hq => ?_)
      obtain ⟨I1, rfl, m1, x1, x2⟩ := hq
      refine x_aload_n dX13_windDuty_55 rfl ?_
      refine x_aload_n dX13_windDuty_56 rfl ?_
      refine x_iload_n dX13_windDuty_57 rfl ?_
      refine x_iload_n dX13_windDuty_58 rfl ?_
      refine x_cvi (m_dutyAt (d := d) hV hb hbn (hB.mx m1) x1 (fun s hs => xhw_le ((hW t ht).2 s (by omega))) (nz := fun p => V 6 p 0) x2 (fun p hp => (hV.2.2.2.2.2.2.2.2.2.2.2.2.2.2.2.1 p hp).2) ht hq4) kX13_442 dX13_windDuty_59 rfl (Nat.le_of_ble_eq_true rfl) rfl rfl (Nat.le_of_ble_eq_true rfl) (fun ru Mu hq => ?_)
      obtain ⟨rfl, rfl⟩ := hq
      refine x_cvi (m_good) kX13_82 dX13_windDuty_62 rfl (Nat.le_of_ble_eq_true rfl) rfl rfl (Nat.le_of_ble_eq_true rfl) (fun ru Mu hq => ?_)
      obtain ⟨rfl, rfl⟩ := hq
      refine x_iret dX13_windDuty_65 rfl ?_
      refine qM_ok ?_ m1
      unfold a_windDuty
      rw [if_pos k0, if_pos k2, zN_nI (by omega), zN_nI (by omega), zN_nI (by omega), zN_nI (by omega)]
      rfl
    · refine x_aload_n dX13_windDuty_40 rfl ?_
      refine x_iload dX13_windDuty_41 rfl ?_
      refine x_cvi (m_refused) kX13_78 dX13_windDuty_43 rfl (Nat.le_of_ble_eq_true rfl) rfl rfl (Nat.le_of_ble_eq_true rfl) (fun ru Mu hq => ?_)
      obtain ⟨rfl, rfl⟩ := hq
      refine x_iret dX13_windDuty_46 rfl ?_
      refine qM_ok ?_ hm
      unfold a_windDuty
      rw [← hw]
      cases hq : (inr z1 (V 0 7 0) && inr z2 (V 0 4 0)) with
      | true =>
        cases hq2 : (wth z3 0 65536 && wth z4 0 99) with
        | true => rw [hq, hq2] at hw; simp at hw; omega
        | false => rfl
      | false => rfl
  · refine x_aload_n dX13_windDuty_14 rfl ?_
    refine x_iload_n dX13_windDuty_15 rfl ?_
    refine x_cvi (m_isPlace' hV hO) kX13_422 dX13_windDuty_16 rfl (Nat.le_of_ble_eq_true rfl) rfl rfl (Nat.le_of_ble_eq_true rfl) (fun ru Mu hq => ?_)
    obtain ⟨rfl, rfl⟩ := hq
    refine x_if_eq 26 dX13_windDuty_19 (by decide) (fun h19 => ?_) (fun h19 => ?_)
    · have ec : (if 0 = 1 then (if (wth z3 0 65536 && wth z4 0 99) = true then 0 else 2) else 1) = (if (inr z1 (V 0 7 0) && inr z2 (V 0 4 0)) = true then (if (wth z3 0 65536 && wth z4 0 99) = true then 0 else 2) else 1) := by rw [bI_eq.mp h19, Bool.and_false]; rfl
      refine x_iconst dX13_windDuty_26 li_0 ?_
      refine x_iload_n dX13_windDuty_27 rfl ?_
      refine x_iload dX13_windDuty_28 rfl ?_
      refine x_cvi (m_refusesWinds (d := d + 2) (by omega)) kX13_527 dX13_windDuty_30 rfl (Nat.le_of_ble_eq_true rfl) rfl rfl (Nat.le_of_ble_eq_true rfl) (fun ru Mu hq => ?_)
      obtain ⟨rfl, rfl⟩ := hq
      rw [ec]
      have hwb : (if (inr z1 (V 0 7 0) && inr z2 (V 0 4 0)) = true then (if (wth z3 0 65536 && wth z4 0 99) = true then 0 else 2) else 1) ≤ 2 := by repeat (first | omega | split)
      generalize hw : (if (inr z1 (V 0 7 0) && inr z2 (V 0 4 0)) = true then (if (wth z3 0 65536 && wth z4 0 99) = true then 0 else 2) else 1) = w at hwb ⊢
      refine x_istore dX13_windDuty_33 (by decide) rfl ?_
      refine x_iload dX13_windDuty_35 rfl ?_
      refine x_ifN_le 47 dX13_windDuty_37 (by decide) (by omega) (fun h37 => ?_) (fun h37 => ?_)
      · have k0 : (inr z1 (V 0 7 0) && inr z2 (V 0 4 0)) = true := by
          cases hq : (inr z1 (V 0 7 0) && inr z2 (V 0 4 0)) with
          | true => rfl
          | false => rw [hq] at hw; simp at hw; omega
        have k2 : (wth z3 0 65536 && wth z4 0 99) = true := by
          cases hq : (wth z3 0 65536 && wth z4 0 99) with
          | true => rfl
          | false => rw [hq, k0] at hw; simp at hw; omega
        obtain ⟨k1, k1b⟩ := Bool.and_eq_true_iff.mp k0
        obtain ⟨k3, k4⟩ := Bool.and_eq_true_iff.mp k2
        obtain ⟨t, ht, rfl⟩ := inr_of k1 (by omega)
        obtain ⟨q, hq4, rfl⟩ := inr_of k1b (by omega)
        obtain ⟨sd, _, hsd, rfl⟩ := wth_of k3 (by omega) (by omega)
        obtain ⟨H, _, hH, rfl⟩ := wth_of k4 (by omega) (by omega)
        obtain ⟨bi, hb, hbn, hB⟩ := hO.some (show V 0 7 0 ≠ 0 by omega) (by decide)
        have h0 : 0 < V 0 0 0 := by
          rcases hO with y | ⟨_, _, _, _, y⟩
          · exact absurd (y.2 7 (by decide)) (by omega)
          · exact y
        refine x_aload_n dX13_windDuty_47 rfl ?_
        refine x_iload_n dX13_windDuty_48 rfl ?_
        refine x_iload_n dX13_windDuty_49 rfl ?_
        refine x_iload dX13_windDuty_50 rfl ?_
        refine x_cvv (m_blows (d := d + 1) hV hb hbn hW h0 ht (by omega) hH hB hN) kX13_530 dX13_windDuty_52 rfl (Nat.le_of_ble_eq_true rfl) rfl rfl (Nat.le_of_ble_eq_true rfl) (fun Mu hq => ?_)
        obtain ⟨I1, rfl, m1, x1, x2⟩ := hq
        refine x_aload_n dX13_windDuty_55 rfl ?_
        refine x_aload_n dX13_windDuty_56 rfl ?_
        refine x_iload_n dX13_windDuty_57 rfl ?_
        refine x_iload_n dX13_windDuty_58 rfl ?_
        refine x_cvi (m_dutyAt (d := d) hV hb hbn (hB.mx m1) x1 (fun s hs => xhw_le ((hW t ht).2 s (by omega))) (nz := fun p => V 6 p 0) x2 (fun p hp => (hV.2.2.2.2.2.2.2.2.2.2.2.2.2.2.2.1 p hp).2) ht hq4) kX13_442 dX13_windDuty_59 rfl (Nat.le_of_ble_eq_true rfl) rfl rfl (Nat.le_of_ble_eq_true rfl) (fun ru Mu hq => ?_)
        obtain ⟨rfl, rfl⟩ := hq
        refine x_cvi (m_good) kX13_82 dX13_windDuty_62 rfl (Nat.le_of_ble_eq_true rfl) rfl rfl (Nat.le_of_ble_eq_true rfl) (fun ru Mu hq => ?_)
        obtain ⟨rfl, rfl⟩ := hq
        refine x_iret dX13_windDuty_65 rfl ?_
        refine qM_ok ?_ m1
        unfold a_windDuty
        rw [if_pos k0, if_pos k2, zN_nI (by omega), zN_nI (by omega), zN_nI (by omega), zN_nI (by omega)]
        rfl
      · refine x_aload_n dX13_windDuty_40 rfl ?_
        refine x_iload dX13_windDuty_41 rfl ?_
        refine x_cvi (m_refused) kX13_78 dX13_windDuty_43 rfl (Nat.le_of_ble_eq_true rfl) rfl rfl (Nat.le_of_ble_eq_true rfl) (fun ru Mu hq => ?_)
        obtain ⟨rfl, rfl⟩ := hq
        refine x_iret dX13_windDuty_46 rfl ?_
        refine qM_ok ?_ hm
        unfold a_windDuty
        rw [← hw]
        cases hq : (inr z1 (V 0 7 0) && inr z2 (V 0 4 0)) with
        | true =>
          cases hq2 : (wth z3 0 65536 && wth z4 0 99) with
          | true => rw [hq, hq2] at hw; simp at hw; omega
          | false => rfl
        | false => rfl
    · have ec : (if 1 = 1 then (if (wth z3 0 65536 && wth z4 0 99) = true then 0 else 2) else 1) = (if (inr z1 (V 0 7 0) && inr z2 (V 0 4 0)) = true then (if (wth z3 0 65536 && wth z4 0 99) = true then 0 else 2) else 1) := by rw [bI_ne.mp h11, bI_ne.mp h19]; rfl
      refine x_iconst dX13_windDuty_22 li_1 ?_
      refine x_goto 27 dX13_windDuty_23 (by decide) ?_
      refine x_iload_n dX13_windDuty_27 rfl ?_
      refine x_iload dX13_windDuty_28 rfl ?_
      refine x_cvi (m_refusesWinds (d := d + 2) (by omega)) kX13_527 dX13_windDuty_30 rfl (Nat.le_of_ble_eq_true rfl) rfl rfl (Nat.le_of_ble_eq_true rfl) (fun ru Mu hq => ?_)
      obtain ⟨rfl, rfl⟩ := hq
      rw [ec]
      have hwb : (if (inr z1 (V 0 7 0) && inr z2 (V 0 4 0)) = true then (if (wth z3 0 65536 && wth z4 0 99) = true then 0 else 2) else 1) ≤ 2 := by repeat (first | omega | split)
      generalize hw : (if (inr z1 (V 0 7 0) && inr z2 (V 0 4 0)) = true then (if (wth z3 0 65536 && wth z4 0 99) = true then 0 else 2) else 1) = w at hwb ⊢
      refine x_istore dX13_windDuty_33 (by decide) rfl ?_
      refine x_iload dX13_windDuty_35 rfl ?_
      refine x_ifN_le 47 dX13_windDuty_37 (by decide) (by omega) (fun h37 => ?_) (fun h37 => ?_)
      · have k0 : (inr z1 (V 0 7 0) && inr z2 (V 0 4 0)) = true := by
          cases hq : (inr z1 (V 0 7 0) && inr z2 (V 0 4 0)) with
          | true => rfl
          | false => rw [hq] at hw; simp at hw; omega
        have k2 : (wth z3 0 65536 && wth z4 0 99) = true := by
          cases hq : (wth z3 0 65536 && wth z4 0 99) with
          | true => rfl
          | false => rw [hq, k0] at hw; simp at hw; omega
        obtain ⟨k1, k1b⟩ := Bool.and_eq_true_iff.mp k0
        obtain ⟨k3, k4⟩ := Bool.and_eq_true_iff.mp k2
        obtain ⟨t, ht, rfl⟩ := inr_of k1 (by omega)
        obtain ⟨q, hq4, rfl⟩ := inr_of k1b (by omega)
        obtain ⟨sd, _, hsd, rfl⟩ := wth_of k3 (by omega) (by omega)
        obtain ⟨H, _, hH, rfl⟩ := wth_of k4 (by omega) (by omega)
        obtain ⟨bi, hb, hbn, hB⟩ := hO.some (show V 0 7 0 ≠ 0 by omega) (by decide)
        have h0 : 0 < V 0 0 0 := by
          rcases hO with y | ⟨_, _, _, _, y⟩
          · exact absurd (y.2 7 (by decide)) (by omega)
          · exact y
        refine x_aload_n dX13_windDuty_47 rfl ?_
        refine x_iload_n dX13_windDuty_48 rfl ?_
        refine x_iload_n dX13_windDuty_49 rfl ?_
        refine x_iload dX13_windDuty_50 rfl ?_
        refine x_cvv (m_blows (d := d + 1) hV hb hbn hW h0 ht (by omega) hH hB hN) kX13_530 dX13_windDuty_52 rfl (Nat.le_of_ble_eq_true rfl) rfl rfl (Nat.le_of_ble_eq_true rfl) (fun Mu hq => ?_)
        obtain ⟨I1, rfl, m1, x1, x2⟩ := hq
        refine x_aload_n dX13_windDuty_55 rfl ?_
        refine x_aload_n dX13_windDuty_56 rfl ?_
        refine x_iload_n dX13_windDuty_57 rfl ?_
        refine x_iload_n dX13_windDuty_58 rfl ?_
        refine x_cvi (m_dutyAt (d := d) hV hb hbn (hB.mx m1) x1 (fun s hs => xhw_le ((hW t ht).2 s (by omega))) (nz := fun p => V 6 p 0) x2 (fun p hp => (hV.2.2.2.2.2.2.2.2.2.2.2.2.2.2.2.1 p hp).2) ht hq4) kX13_442 dX13_windDuty_59 rfl (Nat.le_of_ble_eq_true rfl) rfl rfl (Nat.le_of_ble_eq_true rfl) (fun ru Mu hq => ?_)
        obtain ⟨rfl, rfl⟩ := hq
        refine x_cvi (m_good) kX13_82 dX13_windDuty_62 rfl (Nat.le_of_ble_eq_true rfl) rfl rfl (Nat.le_of_ble_eq_true rfl) (fun ru Mu hq => ?_)
        obtain ⟨rfl, rfl⟩ := hq
        refine x_iret dX13_windDuty_65 rfl ?_
        refine qM_ok ?_ m1
        unfold a_windDuty
        rw [if_pos k0, if_pos k2, zN_nI (by omega), zN_nI (by omega), zN_nI (by omega), zN_nI (by omega)]
        rfl
      · refine x_aload_n dX13_windDuty_40 rfl ?_
        refine x_iload dX13_windDuty_41 rfl ?_
        refine x_cvi (m_refused) kX13_78 dX13_windDuty_43 rfl (Nat.le_of_ble_eq_true rfl) rfl rfl (Nat.le_of_ble_eq_true rfl) (fun ru Mu hq => ?_)
        obtain ⟨rfl, rfl⟩ := hq
        refine x_iret dX13_windDuty_46 rfl ?_
        refine qM_ok ?_ hm
        unfold a_windDuty
        rw [← hw]
        cases hq : (inr z1 (V 0 7 0) && inr z2 (V 0 4 0)) with
        | true =>
          cases hq2 : (wth z3 0 65536 && wth z4 0 99) with
          | true => rw [hq, hq2] at hw; simp at hw; omega
          | false => rfl
        | false => rfl
end M8
