section Xp6
variable {G : xG} {ad : Nat → Nat → Nat} {nb : Nat} {b r : Option Nat} {L : Nat → Nat → Nat → Int64} {V : sV} {I : Nat → Nat → Nat → Int32} {d : Nat}
variable {N : sN} {h : sH} {mk : List sN}

theorem nI_ne_m1 {n : Nat} (h : n < 2 ^ 31) : ¬ nI n = -1 := by
  intro q
  have := nI_pos (n := n) h
  rw [q] at this
  exact absurd (by decide) this
theorem FY.of3 {I' : Nat → Nat → Nat → Int32} {P : Nat → Prop} (hs : ∀ a c, ¬ (a = 0 ∨ ((a = 4 ∨ a = 43) ∧ P c)) → I' a c = I a c) : FY I I' := fun s a b c d e => funext fun x => hs s x (by omega)
theorem XS.undone {N' : sN} {h' : sH} {I' : Nat → Nat → Nat → Int32} (hX : XS V N h mk I) (hN : XN V N' I') (hH : XH V h' I') (hs : ∀ a c, ¬ (a = 0 ∨ ((a = 4 ∨ a = 43) ∧ c < 4)) → I' a c = I a c) (h03 : I' 0 0 3 = I 0 0 3) : XS V N' h' mk I' := by
  obtain ⟨h1, h2, h3, h4⟩ := hX
  refine ⟨h1.sm (fun s a b => funext fun c => hs s c (by omega)), hN, hH, ?_⟩
  obtain ⟨a1, a2, a3⟩ := h4
  refine ⟨by rw [h03]; exact a1, a2, fun m q hq u hu => ?_⟩
  exact (a3 m q hq u hu).to (hs 4 _ (by omega)) (hs 43 _ (by omega))
theorem XS.marked {mk' : List sN} {I' : Nat → Nat → Nat → Int32} (hX : XS V N h mk I) (hv : V 0 7 0 ≤ 4) (hK : XK V mk' I') (hs : ∀ a c, ¬ (a = 0 ∨ ((a = 4 ∨ a = 43) ∧ 20 ≤ c)) → I' a c = I a c) (h0 : ∀ k, k ≠ 3 → I' 0 0 k = I 0 0 k) : XS V N h mk' I' := by
  obtain ⟨h1, h2, h3, h4⟩ := hX
  refine ⟨h1.sm (fun s a b => funext fun c => hs s c (by omega)), fun u hu => (h2 u hu).to (hs 4 u (by omega)) (hs 43 u (by omega)), ?_, hK⟩
  obtain ⟨nx, a1, a2, a3, a4, a5⟩ := h3
  refine ⟨nx, a1, by rw [h0 6 (by omega)]; exact a2, by rw [h0 2 (by omega)]; exact a3, a4, fun i q hq => ?_⟩
  obtain ⟨b1, b2, b3⟩ := a5 i q hq
  exact ⟨b1, by rw [hs 42 0 (by omega)]; exact b2, b3.to (hs 4 _ (by omega)) (hs 43 _ (by omega))⟩

set_option maxRecDepth 100000 in
set_option maxHeartbeats 4000000 in
theorem x_undo_0 (hS : SW V N [] mk) (hX : XS V N [] mk I) : Mt G vX11_undo (d + 1 + 1 + 1) (0, 0) [.ref (ad 11 0)] (MM ad nb b r I L) (qS V ad nb b r I L (t_undo N [] mk)) := by
  have hV := hS.1
  obtain ⟨hB, hN, hH, hK⟩ := hX
  have hW := hS.2.1
  have v0 := hV.1
  have v1 := hV.2.1
  have v2 := hV.2.2.1
  have v3 := hV.2.2.2.1
  have v4 := hV.2.2.2.2.1
  have v7 := hV.2.2.2.2.2.2.2.1
  have v9 := hV.2.2.2.2.2.2.2.2.2.1
  have v10 := hV.2.2.2.2.2.2.2.2.2.2.1
  refine x_start (by decide) (Nat.le_of_ble_eq_true rfl) ?_
  refine x_aload_n dX11_undo_0 rfl ?_
  refine g_X_acts fX11_41 dX11_undo_1 ?_
  refine x_cvi (c_takeBack0 (d := d + 1) hH) kX11_326 dX11_undo_4 rfl (Nat.le_of_ble_eq_true rfl) rfl rfl (Nat.le_of_ble_eq_true rfl) (fun ru M2 hq2 => ?_)
  obtain ⟨rfl, rfl⟩ := hq2
  refine x_ifN_ne 17 dX11_undo_7 (by decide) (by omega) (fun h7 => absurd h7 (by decide)) (fun h7 => ?_)
  refine x_aload_n dX11_undo_10 rfl ?_
  refine x_bipush dX11_undo_11 lb_6 ?_
  refine x_cvi (c_deny) kX11_317 dX11_undo_13 rfl (Nat.le_of_ble_eq_true rfl) rfl rfl (Nat.le_of_ble_eq_true rfl) (fun ru Mu hq => ?_)
  obtain ⟨rfl, rfl⟩ := hq
  refine x_zret dX11_undo_16 rfl rfl ?_
  exact qS_no ⟨hB, hN, hH, hK⟩ rfl
set_option maxRecDepth 100000 in
set_option maxHeartbeats 4000000 in
theorem x_undo_1 {t : Nat} {f : Nat → Nat} (hS : SW V N ((t, f) :: h) mk) (hX : XS V N ((t, f) :: h) mk I) : Mt G vX11_undo (d + 1 + 1 + 1) (0, 0) [.ref (ad 11 0)] (MM ad nb b r I L) (qS V ad nb b r I L (t_undo N ((t, f) :: h) mk)) := by
  have hV := hS.1
  obtain ⟨hB, hN, hH, hK⟩ := hX
  have hW := hS.2.1
  have v0 := hV.1
  have v1 := hV.2.1
  have v2 := hV.2.2.1
  have v3 := hV.2.2.2.1
  have v4 := hV.2.2.2.2.1
  have v7 := hV.2.2.2.2.2.2.2.1
  have v9 := hV.2.2.2.2.2.2.2.2.2.1
  have v10 := hV.2.2.2.2.2.2.2.2.2.2.1
  refine x_start (by decide) (Nat.le_of_ble_eq_true rfl) ?_
  refine x_aload_n dX11_undo_0 rfl ?_
  refine g_X_acts fX11_41 dX11_undo_1 ?_
  refine x_cvi (c_takeBack1 (d := d) hV hN hH) kX11_326 dX11_undo_4 rfl (Nat.le_of_ble_eq_true rfl) rfl rfl (Nat.le_of_ble_eq_true rfl) (fun ru M2 hq2 => ?_)
  obtain ⟨rfl, I2, rfl, k1, k2, k3, k4⟩ := hq2
  refine x_ifN_ne 17 dX11_undo_7 (by decide) (by omega) (fun h7 => ?_) (fun h7 => absurd h7 (by decide))
  refine x_aload_n dX11_undo_17 rfl ?_
  refine x_cvi (c_agree) kX11_320 dX11_undo_18 rfl (Nat.le_of_ble_eq_true rfl) rfl rfl (Nat.le_of_ble_eq_true rfl) (fun ru Mu hq => ?_)
  obtain ⟨rfl, rfl⟩ := hq
  refine x_zret dX11_undo_21 rfl rfl ?_
  exact qS_ok (XS.undone ⟨hB, hN, hH, hK⟩ k2 k1 k3 k4) (FY.of3 (P := fun c => c < 4) k3) rfl
theorem x_undo_c (hS : SW V N h mk) (hX : XS V N h mk I) : Mt G vX11_undo (d + 3) (0, 0) [.ref (ad 11 0)] (MM ad nb b r I L) (qS V ad nb b r I L (t_undo N h mk)) := by
  cases h with
  | nil => exact x_undo_0 hS hX
  | cons q h => exact x_undo_1 hS hX
set_option maxRecDepth 100000 in
set_option maxHeartbeats 4000000 in
theorem x_mark_0 (hS : SW V N h mk) (hX : XS V N h mk I) (h3 : mk.length = 3) : Mt G vX11_mark (d + 1 + 1 + 1) (0, 0) [.ref (ad 11 0)] (MM ad nb b r I L) (qS V ad nb b r I L (t_mark V N h mk)) := by
  have hV := hS.1
  obtain ⟨hB, hN, hH, hK⟩ := hX
  have hW := hS.2.1
  have v0 := hV.1
  have v1 := hV.2.1
  have v2 := hV.2.2.1
  have v3 := hV.2.2.2.1
  have v4 := hV.2.2.2.2.1
  have v7 := hV.2.2.2.2.2.2.2.1
  have v9 := hV.2.2.2.2.2.2.2.2.2.1
  have v10 := hV.2.2.2.2.2.2.2.2.2.2.1
  refine x_start (by decide) (Nat.le_of_ble_eq_true rfl) ?_
  refine x_aload_n dX11_mark_0 rfl ?_
  refine g_X_told fX11_16 dX11_mark_1 ?_
  refine x_cvi (c_stands (V := V) (bd := 0) (by omega) (hB.1 0 (by omega)) v0) kX11_227 dX11_mark_4 rfl (Nat.le_of_ble_eq_true rfl) rfl rfl (Nat.le_of_ble_eq_true rfl) (fun ru Mu hq => ?_)
  obtain ⟨rfl, rfl⟩ := hq
  refine x_if_ne 16 dX11_mark_7 (by decide) (fun h7 => ?_) (fun h7 => ?_)
  · have p0 : 0 < V 0 0 0 := of_decide_eq_true (bI_ne.mp h7)
    refine x_aload_n dX11_mark_16 rfl ?_
    refine g_X_acts fX11_41 dX11_mark_17 ?_
    refine x_cvi (c_setMark0 (d := d + 1) hK h3) kX11_329 dX11_mark_20 rfl (Nat.le_of_ble_eq_true rfl) rfl rfl (Nat.le_of_ble_eq_true rfl) (fun ru M2 hq2 => ?_)
    obtain ⟨rfl, rfl⟩ := hq2
    refine x_istore_n dX11_mark_23 (by decide) rfl ?_
    refine x_iload_n dX11_mark_24 rfl ?_
    refine x_iconst dX11_mark_25 li_m1 ?_
    refine x_ic_ne 37 dX11_mark_26 (by decide) (fun h26 => absurd rfl h26) (fun h26 => ?_)
    refine x_aload_n dX11_mark_29 rfl ?_
    refine x_iconst dX11_mark_30 li_3 ?_
    refine x_cvi (c_refuse) kX11_102 dX11_mark_31 rfl (Nat.le_of_ble_eq_true rfl) rfl rfl (Nat.le_of_ble_eq_true rfl) (fun ru Mu hq => ?_)
    obtain ⟨rfl, rfl⟩ := hq
    refine x_goto 42 dX11_mark_34 (by decide) ?_
    refine x_iret dX11_mark_42 rfl ?_
    refine qS_no ⟨hB, hN, hH, hK⟩ ?_
    unfold t_mark
    rw [if_pos p0, if_neg (by omega)]
  · refine x_aload_n dX11_mark_10 rfl ?_
    refine x_iconst dX11_mark_11 li_1 ?_
    refine x_cvi (c_refuse) kX11_102 dX11_mark_12 rfl (Nat.le_of_ble_eq_true rfl) rfl rfl (Nat.le_of_ble_eq_true rfl) (fun ru Mu hq => ?_)
    obtain ⟨rfl, rfl⟩ := hq
    refine x_iret dX11_mark_15 rfl ?_
    refine qS_no ⟨hB, hN, hH, hK⟩ ?_
    have p0 := of_decide_eq_false (bI_eq.mp h7)
    unfold t_mark
    rw [if_neg p0]
set_option maxRecDepth 100000 in
set_option maxHeartbeats 4000000 in
theorem x_mark_1 (hS : SW V N h mk) (hX : XS V N h mk I) (h3 : mk.length < 3) : Mt G vX11_mark (d + 1 + 1 + 1) (0, 0) [.ref (ad 11 0)] (MM ad nb b r I L) (qS V ad nb b r I L (t_mark V N h mk)) := by
  have hV := hS.1
  obtain ⟨hB, hN, hH, hK⟩ := hX
  have hW := hS.2.1
  have v0 := hV.1
  have v1 := hV.2.1
  have v2 := hV.2.2.1
  have v3 := hV.2.2.2.1
  have v4 := hV.2.2.2.2.1
  have v7 := hV.2.2.2.2.2.2.2.1
  have v9 := hV.2.2.2.2.2.2.2.2.2.1
  have v10 := hV.2.2.2.2.2.2.2.2.2.2.1
  refine x_start (by decide) (Nat.le_of_ble_eq_true rfl) ?_
  refine x_aload_n dX11_mark_0 rfl ?_
  refine g_X_told fX11_16 dX11_mark_1 ?_
  refine x_cvi (c_stands (V := V) (bd := 0) (by omega) (hB.1 0 (by omega)) v0) kX11_227 dX11_mark_4 rfl (Nat.le_of_ble_eq_true rfl) rfl rfl (Nat.le_of_ble_eq_true rfl) (fun ru Mu hq => ?_)
  obtain ⟨rfl, rfl⟩ := hq
  refine x_if_ne 16 dX11_mark_7 (by decide) (fun h7 => ?_) (fun h7 => ?_)
  · have p0 : 0 < V 0 0 0 := of_decide_eq_true (bI_ne.mp h7)
    refine x_aload_n dX11_mark_16 rfl ?_
    refine g_X_acts fX11_41 dX11_mark_17 ?_
    refine x_cvi (c_setMark1 (d := d) hV hK hN h3) kX11_329 dX11_mark_20 rfl (Nat.le_of_ble_eq_true rfl) rfl rfl (Nat.le_of_ble_eq_true rfl) (fun ru M2 hq2 => ?_)
    obtain ⟨rfl, I2, rfl, k1, k2, k3⟩ := hq2
    refine x_istore_n dX11_mark_23 (by decide) rfl ?_
    refine x_iload_n dX11_mark_24 rfl ?_
    refine x_iconst dX11_mark_25 li_m1 ?_
    refine x_ic_ne 37 dX11_mark_26 (by decide) (fun h26 => ?_) (fun h26 => absurd h26 (nI_ne_m1 (by omega)))
    refine x_aload_n dX11_mark_37 rfl ?_
    refine x_iload_n dX11_mark_38 rfl ?_
    refine x_cvi (c_answer) kX11_127 dX11_mark_39 rfl (Nat.le_of_ble_eq_true rfl) rfl rfl (Nat.le_of_ble_eq_true rfl) (fun ru Mu hq => ?_)
    obtain ⟨rfl, rfl⟩ := hq
    refine x_iret dX11_mark_42 rfl ?_
    refine qS_ok (XS.marked ⟨hB, hN, hH, hK⟩ v7 k1 k2 k3) (FY.of3 (P := fun c => 20 ≤ c) k2) ?_
    unfold t_mark
    rw [if_pos p0, if_pos h3]
  · refine x_aload_n dX11_mark_10 rfl ?_
    refine x_iconst dX11_mark_11 li_1 ?_
    refine x_cvi (c_refuse) kX11_102 dX11_mark_12 rfl (Nat.le_of_ble_eq_true rfl) rfl rfl (Nat.le_of_ble_eq_true rfl) (fun ru Mu hq => ?_)
    obtain ⟨rfl, rfl⟩ := hq
    refine x_iret dX11_mark_15 rfl ?_
    refine qS_no ⟨hB, hN, hH, hK⟩ ?_
    have p0 := of_decide_eq_false (bI_eq.mp h7)
    unfold t_mark
    rw [if_neg p0]
theorem x_mark_c (hS : SW V N h mk) (hX : XS V N h mk I) : Mt G vX11_mark (d + 3) (0, 0) [.ref (ad 11 0)] (MM ad nb b r I L) (qS V ad nb b r I L (t_mark V N h mk)) := by
  have h3 := hX.2.2.2.2.1
  by_cases e : mk.length = 3
  · exact x_mark_0 hS hX e
  · exact x_mark_1 hS hX (by omega)
set_option maxRecDepth 100000 in
set_option maxHeartbeats 4000000 in
theorem x_back_0 (hS : SW V N h mk) (hX : XS V N h mk I) {z1 : Int32} (hz : z1 < 0 ∨ nI mk.length ≤ z1) : Mt G vX11_back (d + 1 + 1 + 1) (0, 0) [.ref (ad 11 0), .int (z1)] (MM ad nb b r I L) (qS V ad nb b r I L (t_back N h mk z1)) := by
  have hV := hS.1
  obtain ⟨hB, hN, hH, hK⟩ := hX
  have hW := hS.2.1
  have v0 := hV.1
  have v1 := hV.2.1
  have v2 := hV.2.2.1
  have v3 := hV.2.2.2.1
  have v4 := hV.2.2.2.2.1
  have v7 := hV.2.2.2.2.2.2.2.1
  have v9 := hV.2.2.2.2.2.2.2.2.2.1
  have v10 := hV.2.2.2.2.2.2.2.2.2.2.1
  refine x_start (by decide) (Nat.le_of_ble_eq_true rfl) ?_
  refine x_aload_n dX11_back_0 rfl ?_
  refine g_X_acts fX11_41 dX11_back_1 ?_
  refine x_iload_n dX11_back_4 rfl ?_
  refine x_cvi (c_returnTo0 (d := d + 1) hK hz) kX11_332 dX11_back_5 rfl (Nat.le_of_ble_eq_true rfl) rfl rfl (Nat.le_of_ble_eq_true rfl) (fun ru M2 hq2 => ?_)
  obtain ⟨rfl, rfl⟩ := hq2
  refine x_ifN_ne 17 dX11_back_8 (by decide) (by omega) (fun h8 => absurd h8 (by decide)) (fun h8 => ?_)
  refine x_aload_n dX11_back_11 rfl ?_
  refine x_iconst dX11_back_12 li_1 ?_
  refine x_cvi (c_deny) kX11_317 dX11_back_13 rfl (Nat.le_of_ble_eq_true rfl) rfl rfl (Nat.le_of_ble_eq_true rfl) (fun ru Mu hq => ?_)
  obtain ⟨rfl, rfl⟩ := hq
  refine x_zret dX11_back_16 rfl rfl ?_
  refine qS_no ⟨hB, hN, hH, hK⟩ ?_
  unfold t_back
  rw [if_neg]
  intro z
  have z1 := of_decide_eq_true z
  rcases hz with hz | hz
  · exact z1.1 hz
  · exact z1.2 hz
set_option maxRecDepth 100000 in
set_option maxHeartbeats 4000000 in
theorem x_back_1 (hS : SW V N h mk) (hX : XS V N h mk I) {m : Nat} {q : sN} (hm : mk[m]? = some q) : Mt G vX11_back (d + 1 + 1 + 1) (0, 0) [.ref (ad 11 0), .int (nI (m))] (MM ad nb b r I L) (qS V ad nb b r I L (t_back N h mk (nI m))) := by
  have hV := hS.1
  obtain ⟨hB, hN, hH, hK⟩ := hX
  have hW := hS.2.1
  have v0 := hV.1
  have v1 := hV.2.1
  have v2 := hV.2.2.1
  have v3 := hV.2.2.2.1
  have v4 := hV.2.2.2.2.1
  have v7 := hV.2.2.2.2.2.2.2.1
  have v9 := hV.2.2.2.2.2.2.2.2.2.1
  have v10 := hV.2.2.2.2.2.2.2.2.2.2.1
  refine x_start (by decide) (Nat.le_of_ble_eq_true rfl) ?_
  refine x_aload_n dX11_back_0 rfl ?_
  refine g_X_acts fX11_41 dX11_back_1 ?_
  refine x_iload_n dX11_back_4 rfl ?_
  refine x_cvi (c_returnTo1 (d := d) hV hK ⟨h, hH⟩ hm) kX11_332 dX11_back_5 rfl (Nat.le_of_ble_eq_true rfl) rfl rfl (Nat.le_of_ble_eq_true rfl) (fun ru M2 hq2 => ?_)
  obtain ⟨rfl, I2, rfl, k1, k2, k3, k4⟩ := hq2
  refine x_ifN_ne 17 dX11_back_8 (by decide) (by omega) (fun h8 => ?_) (fun h8 => absurd h8 (by decide))
  refine x_aload_n dX11_back_17 rfl ?_
  refine x_cvi (c_agree) kX11_320 dX11_back_18 rfl (Nat.le_of_ble_eq_true rfl) rfl rfl (Nat.le_of_ble_eq_true rfl) (fun ru Mu hq => ?_)
  obtain ⟨rfl, rfl⟩ := hq
  refine x_zret dX11_back_21 rfl rfl ?_
  have hl := (List.getElem?_eq_some_iff.mp hm).1
  have h3 := hK.2.1
  refine qS_ok (XS.undone ⟨hB, hN, hH, hK⟩ k1 k2 k3 (k4 3 (by omega))) (FY.of3 (P := fun c => c < 4) k3) ?_
  unfold t_back
  rw [inr_nI (by omega) (by omega), decide_eq_true hl, if_pos rfl, zN_nI (by omega), List.getD_eq_getElem?_getD, hm]
  rfl
theorem x_back_c (hS : SW V N h mk) (hX : XS V N h mk I) {z1 : Int32} : Mt G vX11_back (d + 3) (0, 0) [.ref (ad 11 0), .int z1] (MM ad nb b r I L) (qS V ad nb b r I L (t_back N h mk z1)) := by
  have h3 := hX.2.2.2.2.1
  by_cases e : inr z1 mk.length = true
  · obtain ⟨m, hm, rfl⟩ := inr_of e (by omega)
    exact x_back_1 hS hX (List.getElem?_eq_getElem hm)
  · refine x_back_0 hS hX ?_
    by_cases e1 : z1 < 0
    · exact Or.inl e1
    · exact Or.inr (Classical.byContradiction fun e2 => e (decide_eq_true ⟨e1, e2⟩))

/-- the tape -/
def XT (T : Nat → Nat) (n : Nat) (I : Nat → Nat → Nat → Int32) : Prop := I 11 0 1 = nI n ∧ n ≤ 1100 ∧ ∀ i, i < n → I 14 0 i = nI (T i)
def a_size (V : sV) (h : sH) (mk : List sN) (n : Nat) (z : Int32) : Int32 := if wth z 0 10 = true then nI (V 0 (zN z) 0) else if z = nI 11 then nI h.length else if z = nI 12 then nI mk.length else if z = nI 13 then nI n else -1
theorem i32_out {z : Int32} (h1 : ¬ z = nI 11) (h2 : ¬ z = nI 12) (h3 : ¬ z = nI 13) : z.toInt < 11 ∨ 13 < z.toInt := by
  refine Classical.byContradiction (fun hc => ?_)
  have e11 : (nI 11).toInt = 11 := by decide
  have e12 : (nI 12).toInt = 12 := by decide
  have e13 : (nI 13).toInt = 13 := by decide
  have : z.toInt = 11 ∨ z.toInt = 12 ∨ z.toInt = 13 := by omega
  rcases this with e | e | e
  · exact h1 (Int32.toInt_inj.mp (e.trans e11.symm))
  · exact h2 (Int32.toInt_inj.mp (e.trans e12.symm))
  · exact h3 (Int32.toInt_inj.mp (e.trans e13.symm))

set_option maxRecDepth 100000 in
set_option maxHeartbeats 4000000 in
theorem x_size_i (hS : SW V N h mk) (hX : XS V N h mk I) {T : Nat → Nat} {n : Nat} (hT : XT T n I) {z1 : Int32} (hw : wth z1 0 10 = true) : Mt G vX11_size (d + 1) (0, 0) [.ref (ad 11 0), .int (z1)] (MM ad nb b r I L) (qE (a_size V h mk n z1) (MM ad nb b r I L)) := by
  have hV := hS.1
  obtain ⟨hB, hN, hH, hK⟩ := hX
  have hW := hS.2.1
  have v0 := hV.1
  have v1 := hV.2.1
  have v2 := hV.2.2.1
  have v3 := hV.2.2.2.1
  have v4 := hV.2.2.2.2.1
  have v7 := hV.2.2.2.2.2.2.2.1
  have v9 := hV.2.2.2.2.2.2.2.2.2.1
  have v10 := hV.2.2.2.2.2.2.2.2.2.2.1
  have hlen : I 0 0 2 = nI h.length := by obtain ⟨nx, a1, a2, a3, a4⟩ := hH; exact a3
  refine x_start (by decide) (Nat.le_of_ble_eq_true rfl) ?_
  refine x_iload_n dX11_size_0 rfl ?_
  refine x_iconst dX11_size_1 li_0 ?_
  refine x_bipush dX11_size_2 lb_10 ?_
  refine x_csi (c_isWithin) kX11_206 dX11_size_4 rfl rfl (Nat.le_of_ble_eq_true rfl) (fun ru Mu hq => ?_)
  obtain ⟨rfl, rfl⟩ := hq
  refine x_if_eq 20 dX11_size_7 (by decide) (fun h7 => absurd hw (by rw [bI_eq.mp h7]; simp)) (fun h7 => ?_)
  obtain ⟨k, -, hk, rfl⟩ := wth_of hw (by omega) (by omega)
  refine x_aload_n dX11_size_10 rfl ?_
  refine g_X_told fX11_16 dX11_size_11 ?_
  refine g_Border_sizes fX11_124 dX11_size_14 (by first | exact Nat.le_of_ble_eq_true rfl | assumption | omega) ?_
  refine x_iload_n dX11_size_17 rfl ?_
  refine x_iald dX11_size_18 rfl rfl (Nat.lt_of_lt_of_le (by first | assumption | omega | decide) (Nat.le_refl 2)) (by first | exact Nat.le_of_ble_eq_true rfl | assumption | omega) ?_
  rw [hB.1 k (by omega)]
  refine x_iret dX11_size_19 rfl ?_
  refine ⟨_, rfl, ?_, rfl⟩
  unfold a_size
  rw [if_pos hw, zN_nI (by omega)]
set_option maxRecDepth 100000 in
set_option maxHeartbeats 4000000 in
theorem x_size_11 (hS : SW V N h mk) (hX : XS V N h mk I) {T : Nat → Nat} {n : Nat} (hT : XT T n I) : Mt G vX11_size (d + 1) (0, 0) [.ref (ad 11 0), .int (nI (11))] (MM ad nb b r I L) (qE (a_size V h mk n (nI 11)) (MM ad nb b r I L)) := by
  have hV := hS.1
  obtain ⟨hB, hN, hH, hK⟩ := hX
  have hW := hS.2.1
  have v0 := hV.1
  have v1 := hV.2.1
  have v2 := hV.2.2.1
  have v3 := hV.2.2.2.1
  have v4 := hV.2.2.2.2.1
  have v7 := hV.2.2.2.2.2.2.2.1
  have v9 := hV.2.2.2.2.2.2.2.2.2.1
  have v10 := hV.2.2.2.2.2.2.2.2.2.2.1
  have hlen : I 0 0 2 = nI h.length := by obtain ⟨nx, a1, a2, a3, a4⟩ := hH; exact a3
  refine x_start (by decide) (Nat.le_of_ble_eq_true rfl) ?_
  refine x_iload_n dX11_size_0 rfl ?_
  refine x_iconst dX11_size_1 li_0 ?_
  refine x_bipush dX11_size_2 lb_10 ?_
  refine x_csi (c_isWithin) kX11_206 dX11_size_4 rfl rfl (Nat.le_of_ble_eq_true rfl) (fun ru Mu hq => ?_)
  obtain ⟨rfl, rfl⟩ := hq
  refine x_if_eq 20 dX11_size_7 (by decide) (fun h7 => ?_) (fun h7 => absurd h7 (by decide))
  refine x_iload_n dX11_size_20 rfl ?_
  · refine x_tswIn 48 dX11_size_21 (by decide) (by decide) rfl (by decide) ?_
    refine x_aload_n dX11_size_48 rfl ?_
    refine g_X_acts fX11_41 dX11_size_49 ?_
    refine g_Acts_kept fX11_338 dX11_size_52 ?_
    rw [hlen]
    refine x_iret dX11_size_55 rfl ?_
    refine ⟨_, rfl, ?_, rfl⟩
    rfl
set_option maxRecDepth 100000 in
set_option maxHeartbeats 4000000 in
theorem x_size_12 (hS : SW V N h mk) (hX : XS V N h mk I) {T : Nat → Nat} {n : Nat} (hT : XT T n I) : Mt G vX11_size (d + 1) (0, 0) [.ref (ad 11 0), .int (nI (12))] (MM ad nb b r I L) (qE (a_size V h mk n (nI 12)) (MM ad nb b r I L)) := by
  have hV := hS.1
  obtain ⟨hB, hN, hH, hK⟩ := hX
  have hW := hS.2.1
  have v0 := hV.1
  have v1 := hV.2.1
  have v2 := hV.2.2.1
  have v3 := hV.2.2.2.1
  have v4 := hV.2.2.2.2.1
  have v7 := hV.2.2.2.2.2.2.2.1
  have v9 := hV.2.2.2.2.2.2.2.2.2.1
  have v10 := hV.2.2.2.2.2.2.2.2.2.2.1
  have hlen : I 0 0 2 = nI h.length := by obtain ⟨nx, a1, a2, a3, a4⟩ := hH; exact a3
  refine x_start (by decide) (Nat.le_of_ble_eq_true rfl) ?_
  refine x_iload_n dX11_size_0 rfl ?_
  refine x_iconst dX11_size_1 li_0 ?_
  refine x_bipush dX11_size_2 lb_10 ?_
  refine x_csi (c_isWithin) kX11_206 dX11_size_4 rfl rfl (Nat.le_of_ble_eq_true rfl) (fun ru Mu hq => ?_)
  obtain ⟨rfl, rfl⟩ := hq
  refine x_if_eq 20 dX11_size_7 (by decide) (fun h7 => ?_) (fun h7 => absurd h7 (by decide))
  refine x_iload_n dX11_size_20 rfl ?_
  · refine x_tswIn 56 dX11_size_21 (by decide) (by decide) rfl (by decide) ?_
    refine x_aload_n dX11_size_56 rfl ?_
    refine g_X_acts fX11_41 dX11_size_57 ?_
    refine g_Acts_marks fX11_341 dX11_size_60 ?_
    rw [hK.1]
    refine x_iret dX11_size_63 rfl ?_
    refine ⟨_, rfl, ?_, rfl⟩
    rfl
set_option maxRecDepth 100000 in
set_option maxHeartbeats 4000000 in
theorem x_size_13 (hS : SW V N h mk) (hX : XS V N h mk I) {T : Nat → Nat} {n : Nat} (hT : XT T n I) : Mt G vX11_size (d + 1) (0, 0) [.ref (ad 11 0), .int (nI (13))] (MM ad nb b r I L) (qE (a_size V h mk n (nI 13)) (MM ad nb b r I L)) := by
  have hV := hS.1
  obtain ⟨hB, hN, hH, hK⟩ := hX
  have hW := hS.2.1
  have v0 := hV.1
  have v1 := hV.2.1
  have v2 := hV.2.2.1
  have v3 := hV.2.2.2.1
  have v4 := hV.2.2.2.2.1
  have v7 := hV.2.2.2.2.2.2.2.1
  have v9 := hV.2.2.2.2.2.2.2.2.2.1
  have v10 := hV.2.2.2.2.2.2.2.2.2.2.1
  have hlen : I 0 0 2 = nI h.length := by obtain ⟨nx, a1, a2, a3, a4⟩ := hH; exact a3
  refine x_start (by decide) (Nat.le_of_ble_eq_true rfl) ?_
  refine x_iload_n dX11_size_0 rfl ?_
  refine x_iconst dX11_size_1 li_0 ?_
  refine x_bipush dX11_size_2 lb_10 ?_
  refine x_csi (c_isWithin) kX11_206 dX11_size_4 rfl rfl (Nat.le_of_ble_eq_true rfl) (fun ru Mu hq => ?_)
  obtain ⟨rfl, rfl⟩ := hq
  refine x_if_eq 20 dX11_size_7 (by decide) (fun h7 => ?_) (fun h7 => absurd h7 (by decide))
  refine x_iload_n dX11_size_20 rfl ?_
  · refine x_tswIn 64 dX11_size_21 (by decide) (by decide) rfl (by decide) ?_
    refine x_aload_n dX11_size_64 rfl ?_
    refine g_X_taped fX11_95 dX11_size_65 ?_
    rw [hT.1]
    refine x_iret dX11_size_68 rfl ?_
    refine ⟨_, rfl, ?_, rfl⟩
    rfl
set_option maxRecDepth 100000 in
set_option maxHeartbeats 4000000 in
theorem x_size_o (hS : SW V N h mk) (hX : XS V N h mk I) {T : Nat → Nat} {n : Nat} (hT : XT T n I) {z1 : Int32} (hw : wth z1 0 10 = false) (hn1 : ¬ z1 = nI 11) (hn2 : ¬ z1 = nI 12) (hn3 : ¬ z1 = nI 13) : Mt G vX11_size (d + 1) (0, 0) [.ref (ad 11 0), .int (z1)] (MM ad nb b r I L) (qE (a_size V h mk n z1) (MM ad nb b r I L)) := by
  have hV := hS.1
  obtain ⟨hB, hN, hH, hK⟩ := hX
  have hW := hS.2.1
  have v0 := hV.1
  have v1 := hV.2.1
  have v2 := hV.2.2.1
  have v3 := hV.2.2.2.1
  have v4 := hV.2.2.2.2.1
  have v7 := hV.2.2.2.2.2.2.2.1
  have v9 := hV.2.2.2.2.2.2.2.2.2.1
  have v10 := hV.2.2.2.2.2.2.2.2.2.2.1
  have hlen : I 0 0 2 = nI h.length := by obtain ⟨nx, a1, a2, a3, a4⟩ := hH; exact a3
  refine x_start (by decide) (Nat.le_of_ble_eq_true rfl) ?_
  refine x_iload_n dX11_size_0 rfl ?_
  refine x_iconst dX11_size_1 li_0 ?_
  refine x_bipush dX11_size_2 lb_10 ?_
  refine x_csi (c_isWithin) kX11_206 dX11_size_4 rfl rfl (Nat.le_of_ble_eq_true rfl) (fun ru Mu hq => ?_)
  obtain ⟨rfl, rfl⟩ := hq
  refine x_if_eq 20 dX11_size_7 (by decide) (fun h7 => ?_) (fun h7 => absurd (by unfold bI; rw [hw]; rfl) h7)
  refine x_iload_n dX11_size_20 rfl ?_
  · refine x_tswOut 69 dX11_size_21 (i32_out hn1 hn2 hn3) (by decide) ?_
    refine x_iconst dX11_size_69 li_m1 ?_
    refine x_iret dX11_size_70 rfl ?_
    refine ⟨_, rfl, ?_, rfl⟩
    unfold a_size
    rw [if_neg (by rw [hw]; simp), if_neg hn1, if_neg hn2, if_neg hn3]
theorem x_size_c (hS : SW V N h mk) (hX : XS V N h mk I) {T : Nat → Nat} {n : Nat} (hT : XT T n I) {z1 : Int32} : Mt G vX11_size (d + 1) (0, 0) [.ref (ad 11 0), .int z1] (MM ad nb b r I L) (qE (a_size V h mk n z1) (MM ad nb b r I L)) := by
  by_cases hw : wth z1 0 10 = true
  · exact x_size_i hS hX hT hw
  · by_cases e1 : z1 = nI 11
    · subst e1; exact x_size_11 hS hX hT
    · by_cases e2 : z1 = nI 12
      · subst e2; exact x_size_12 hS hX hT
      · by_cases e3 : z1 = nI 13
        · subst e3; exact x_size_13 hS hX hT
        · exact x_size_o hS hX hT (by simpa using hw) e1 e2 e3
set_option maxRecDepth 100000 in
set_option maxHeartbeats 4000000 in
theorem x_trouble_c  : Mt G vX11_trouble (d) (0, 0) [.ref (ad 11 0)] (MM ad nb b r I L) (qE (I 11 0 12) (MM ad nb b r I L)) := by
  refine x_start (by decide) (Nat.le_of_ble_eq_true rfl) ?_
  refine x_aload_n dX11_trouble_0 rfl ?_
  refine g_X_trouble fX11_130 dX11_trouble_1 ?_
  refine x_iret dX11_trouble_4 rfl ?_
  exact ⟨_, rfl, rfl, rfl⟩
set_option maxRecDepth 100000 in
set_option maxHeartbeats 4000000 in
theorem x_fault_c  : Mt G vX11_fault (d) (0, 0) [.ref (ad 11 0)] (MM ad nb b r I L) (qE (I 11 0 13) (MM ad nb b r I L)) := by
  refine x_start (by decide) (Nat.le_of_ble_eq_true rfl) ?_
  refine x_aload_n dX11_fault_0 rfl ?_
  refine g_X_fault fX11_113 dX11_fault_1 ?_
  refine x_iret dX11_fault_4 rfl ?_
  exact ⟨_, rfl, rfl, rfl⟩
set_option maxRecDepth 100000 in
set_option maxHeartbeats 4000000 in
theorem x_where_c  : Mt G vX11_where (d) (0, 0) [.ref (ad 11 0)] (MM ad nb b r I L) (qE (if I 11 0 12 = nI 4 then I 11 0 14 else -1) (MM ad nb b r I L)) := by
  refine x_start (by decide) (Nat.le_of_ble_eq_true rfl) ?_
  refine x_aload_n dX11_where_0 rfl ?_
  refine g_X_trouble fX11_130 dX11_where_1 ?_
  refine x_iconst dX11_where_4 li_4 ?_
  refine x_ic_ne 15 dX11_where_5 (by decide) (fun h5 => ?_) (fun h5 => ?_)
  · refine x_iconst dX11_where_15 li_m1 ?_
    refine x_iret dX11_where_16 rfl ?_
    refine ⟨_, rfl, ?_, rfl⟩
    first | rw [if_pos h5] | rw [if_neg h5]
  · refine x_aload_n dX11_where_8 rfl ?_
    refine g_X_faultAt fX11_91 dX11_where_9 ?_
    refine x_goto 16 dX11_where_12 (by decide) ?_
    refine x_iret dX11_where_16 rfl ?_
    refine ⟨_, rfl, ?_, rfl⟩
    first | rw [if_pos h5] | rw [if_neg h5]

def byt (z : Int32) (j : Nat) : Int32 := (z.toUInt32 >>> ((nI (24 - 8 * j)).toUInt32 &&& Int32.toUInt32 31)).toInt32 &&& nI 255
def byN (z : Int32) (j : Nat) : Nat := (byt z j).toBitVec.toNat
theorem byN_nI {z : Int32} {j : Nat} : nI (byN z j) = byt z j := by
  apply Int32.toBitVec_inj.mp
  show BitVec.ofNat 32 (byN z j) = _
  unfold byN
  exact BitVec.eq_of_toNat_eq (by rw [BitVec.toNat_ofNat]; exact Nat.mod_eq_of_lt (BitVec.isLt _))
theorem byN_lt {z : Int32} {j : Nat} : byN z j < 256 := by
  unfold byN byt
  rw [Int32.toBitVec_and, BitVec.toNat_and]
  exact Nat.lt_of_le_of_lt Nat.and_le_right (by decide)
def lyT (T : Nat → Nat) (n : Nat) (z : Int32) : Nat → Nat := fun i => if n ≤ i ∧ i < n + 4 then byN z (i - n) else T i
def shj (j : Nat) : Int32 := if j < 4 then nI (24 - 8 * j) else -8
theorem shj_s : ∀ j, j < 4 → shj j + Int32.ofInt (-8) = shj (j + 1) := by decide
theorem shj_n : ∀ j, j < 4 → ¬ shj j < 0 := by decide
/-- but for the tape -/
def FT (I I' : Nat → Nat → Nat → Int32) : Prop := (∀ s, s ≠ 14 → s ≠ 11 → I' s = I s) ∧ ∀ k, k ≠ 1 → I' 11 0 k = I 11 0 k
def fed (T : Nat → Nat) (n : Nat) (a b c d e : Int32) : Nat → Nat := lyT (lyT (lyT (lyT (lyT T n a) (n + 4) b) (n + 8) c) (n + 12) d) (n + 16) e

set_option maxRecDepth 100000 in
set_option maxHeartbeats 4000000 in
theorem c_lay {T : Nat → Nat} {tn : Nat} (hT : XT T tn I) (hn4 : tn + 4 ≤ 1100) {z1 : Int32} : Mt G vX11_lay (d) (0, 0) [.ref (ad 11 0), .int (z1)] (MM ad nb b r I L) (qV (fun M' => ∃ I', M' = MM ad nb b r I' L ∧ XT (lyT T tn z1) (tn + 4) I' ∧ FT I I')) := by
  have loop3 : ∀ (n : Nat) (j : Nat) (I1 : Nat → Nat → Nat → Int32), 4 - j < n → j ≤ 4 → (I1 11 0 1 = nI (tn + j) ∧ (∀ i, i < tn + j → I1 14 0 i = nI (lyT T tn z1 i)) ∧ FT I I1) → X G vX11_lay (d) (0, 0) 3 [(0, some (.ref (ad 11 0))), (1, some (.int (z1))), (2, some (.int (shj j)))] [] (MM ad nb b r I1 L) (xT G (qV (fun M' => ∃ I', M' = MM ad nb b r I' L ∧ XT (lyT T tn z1) (tn + 4) I' ∧ FT I I'))) := by
    intro n
    induction n with
    | zero => intro j I1 h0; omega
    | succ n ih =>
      intro j I1 hn hj hi
      obtain ⟨i1, i2, i3, i4⟩ := hi
      refine x_iload_n dX11_lay_3 rfl ?_
      refine x_if_lt 49 dX11_lay_4 (by decide) (fun h4 => ?_) (fun h4 => ?_)
      · refine x_vret dX11_lay_49 rfl ?_
        have hj4 : j = 4 := Classical.byContradiction fun q => shj_n j (by omega) h4
        subst hj4
        exact ⟨rfl, _, rfl, ⟨i1, hn4, i2⟩, i3, i4⟩
      · have hj4 : j < 4 := Classical.byContradiction fun q => h4 (by rw [show j = 4 by omega]; decide)
        refine x_aload_n dX11_lay_7 rfl ?_
        refine g_X_taped fX11_95 dX11_lay_8 ?_
        rw [i1]
        refine x_sipush dX11_lay_11 lS_1100 ?_
        refine x_icN_ge 43 dX11_lay_14 (by decide) (by omega) (by omega) (fun h14 => absurd h14 (by omega)) (fun h14 => ?_)
        refine x_aload_n dX11_lay_17 rfl ?_
        refine g_X_tape fX11_9 dX11_lay_18 ?_
        refine x_aload_n dX11_lay_21 rfl ?_
        refine g_X_taped fX11_95 dX11_lay_22 ?_
        rw [i1]
        refine x_iload_n dX11_lay_25 rfl ?_
        refine x_iload_n dX11_lay_26 rfl ?_
        refine x_iushr dX11_lay_27 rfl ?_
        have esh : shj j = nI (24 - 8 * j) := if_pos hj4
        rw [esh]
        refine x_sipush dX11_lay_28 lS_255 ?_
        refine x_iand dX11_lay_31 ?_
        refine x_iast dX11_lay_32 rfl rfl (Nat.le_of_ble_eq_true rfl) (by first | exact Nat.le_of_ble_eq_true rfl | assumption | omega) ?_
        refine x_aload_n dX11_lay_33 rfl ?_
        refine x_dup dX11_lay_34 rfl ?_
        refine g_X_taped fX11_95 dX11_lay_35 ?_
        rw [xu_ns (by decide), i1]
        refine x_iconst dX11_lay_38 li_1 ?_
        refine x_iaddN dX11_lay_39 ?_
        refine p_X_taped fX11_95 dX11_lay_40 ?_
        refine x_iinc (v := shj (j + 1)) dX11_lay_43 rfl (by rw [← esh]; exact shj_s j hj4) (by decide) rfl ?_
        refine x_goto 3 dX11_lay_46 (by decide) ?_
        refine x_ls ?_ (ih (j + 1) _ (by omega) (by omega) ⟨?_, ?_, ?_, ?_⟩)
        · exact ⟨rfl, rfl, rfl, trivial⟩
        · rw [xu_s]; rfl
        · intro i hi
          rw [xu_ns (by decide), xu_at]
          by_cases e : i = tn + j
          · rw [if_pos e]; unfold lyT; rw [if_pos (by omega), e, show tn + j - tn = j by omega, byN_nI]; rfl
          · rw [if_neg e]; exact i2 i (by omega)
        · intro s h1 h2; funext a c; rw [xu_ns h2, xu_ns h1, i3 s h1 h2]
        · intro k hk; rw [xu_nk hk, xu_ns (by decide), i4 k hk]
  refine x_start (by decide) (Nat.le_of_ble_eq_true rfl) ?_
  refine x_bipush dX11_lay_0 lb_24 ?_
  refine x_istore_n dX11_lay_2 (by decide) rfl ?_
  refine x_ls ?_ (loop3 5 0 I (by omega) (by omega) ⟨hT.1, fun i hi => ?_, fun _ _ _ => rfl, fun _ _ => rfl⟩)
  · exact ⟨rfl, rfl, rfl, trivial⟩
  · unfold lyT; rw [if_neg (by omega)]; exact hT.2.2 i hi
theorem FT.tr {I1 I2 : Nat → Nat → Nat → Int32} (h1 : FT I I1) (h2 : FT I1 I2) : FT I I2 := ⟨fun s a b => (h2.1 s a b).trans (h1.1 s a b), fun k hk => (h2.2 k hk).trans (h1.2 k hk)⟩
set_option maxRecDepth 100000 in
set_option maxHeartbeats 4000000 in
theorem x_feed_c {T : Nat → Nat} {n : Nat} (hI : XT T n I) {z1 z2 z3 z4 z5 : Int32} : Mt G vX11_feed (d + 1) (0, 0) [.ref (ad 11 0), .int (z1), .int (z2), .int (z3), .int (z4), .int (z5)] (MM ad nb b r I L) (qI (fun rr M' => if n + 20 ≤ 1100 then rr = nI (n + 20) ∧ ∃ I', M' = MM ad nb b r I' L ∧ XT (fed T n z1 z2 z3 z4 z5) (n + 20) I' ∧ FT I I' else rr = -1 ∧ M' = MM ad nb b r I L)) := by
  have hn := hI.2.1
  refine x_start (by decide) (Nat.le_of_ble_eq_true rfl) ?_
  refine x_aload_n dX11_feed_0 rfl ?_
  refine g_X_taped fX11_95 dX11_feed_1 ?_
  rw [hI.1]
  refine x_bipush dX11_feed_4 lb_20 ?_
  refine x_iaddN dX11_feed_6 ?_
  refine x_sipush dX11_feed_7 lS_1100 ?_
  refine x_icN_le 15 dX11_feed_10 (by decide) (by omega) (by omega) (fun h10 => ?_) (fun h10 => ?_)
  · refine x_aload_n dX11_feed_15 rfl ?_
    refine x_iload_n dX11_feed_16 rfl ?_
    refine x_cvv (c_lay (T := T) (tn := n) (z1 := z1) hI (by omega)) kX11_98 dX11_feed_17 rfl (Nat.le_of_ble_eq_true rfl) rfl rfl (Nat.le_of_ble_eq_true rfl) (fun M1 hq => ?_)
    obtain ⟨Ia, rfl, hIa, fIa⟩ := hq
    refine x_aload_n dX11_feed_20 rfl ?_
    refine x_iload_n dX11_feed_21 rfl ?_
    refine x_cvv (c_lay (T := lyT T n z1) (tn := n + 4) (z1 := z2) hIa (by omega)) kX11_98 dX11_feed_22 rfl (Nat.le_of_ble_eq_true rfl) rfl rfl (Nat.le_of_ble_eq_true rfl) (fun M1 hq => ?_)
    obtain ⟨Ib, rfl, hIb, fIb⟩ := hq
    refine x_aload_n dX11_feed_25 rfl ?_
    refine x_iload_n dX11_feed_26 rfl ?_
    refine x_cvv (c_lay (T := lyT (lyT T n z1) (n + 4) z2) (tn := n + 8) (z1 := z3) hIb (by omega)) kX11_98 dX11_feed_27 rfl (Nat.le_of_ble_eq_true rfl) rfl rfl (Nat.le_of_ble_eq_true rfl) (fun M1 hq => ?_)
    obtain ⟨Ic, rfl, hIc, fIc⟩ := hq
    refine x_aload_n dX11_feed_30 rfl ?_
    refine x_iload dX11_feed_31 rfl ?_
    refine x_cvv (c_lay (T := lyT (lyT (lyT T n z1) (n + 4) z2) (n + 8) z3) (tn := n + 12) (z1 := z4) hIc (by omega)) kX11_98 dX11_feed_33 rfl (Nat.le_of_ble_eq_true rfl) rfl rfl (Nat.le_of_ble_eq_true rfl) (fun M1 hq => ?_)
    obtain ⟨Id, rfl, hId, fId⟩ := hq
    refine x_aload_n dX11_feed_36 rfl ?_
    refine x_iload dX11_feed_37 rfl ?_
    refine x_cvv (c_lay (T := lyT (lyT (lyT (lyT T n z1) (n + 4) z2) (n + 8) z3) (n + 12) z4) (tn := n + 16) (z1 := z5) hId (by omega)) kX11_98 dX11_feed_39 rfl (Nat.le_of_ble_eq_true rfl) rfl rfl (Nat.le_of_ble_eq_true rfl) (fun M1 hq => ?_)
    obtain ⟨Ie, rfl, hIe, fIe⟩ := hq
    refine x_aload_n dX11_feed_42 rfl ?_
    refine g_X_taped fX11_95 dX11_feed_43 ?_
    rw [hIe.1]
    refine x_iret dX11_feed_46 rfl ?_
    refine ⟨_, rfl, ?_⟩
    show ite _ _ _
    rw [if_pos (by omega)]
    exact ⟨rfl, _, rfl, hIe, (((fIa.tr fIb).tr fIc).tr fId).tr fIe⟩
  · refine x_iconst dX11_feed_13 li_m1 ?_
    refine x_iret dX11_feed_14 rfl ?_
    refine ⟨_, rfl, ?_⟩
    show ite _ _ _
    rw [if_neg (by omega)]
    exact ⟨rfl, rfl⟩
end Xp6
