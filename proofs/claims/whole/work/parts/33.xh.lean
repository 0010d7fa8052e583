section Xh
variable {G : xG} {ad : Nat → Nat → Nat} {nb : Nat} {b r : Option Nat} {L : Nat → Nat → Nat → Int64} {V : sV} {I : Nat → Nat → Nat → Int32} {d : Nat}

/-- an int as the number of one of n things -/
def inr (z : Int32) (n : Nat) : Bool := decide (¬ z < 0 ∧ ¬ nI n ≤ z)
def wth (z : Int32) (lo hi : Nat) : Bool := decide (¬ z < nI lo ∧ ¬ nI hi < z)
theorem inr_of {z : Int32} {n : Nat} (h : inr z n = true) (hn : n < 2 ^ 31) : ∃ j, j < n ∧ z = nI j := by
  obtain ⟨h1, h2⟩ := of_decide_eq_true h
  obtain ⟨j, hj, rfl⟩ := nI_of h1
  exact ⟨j, Nat.lt_of_not_le (fun q => h2 (nI_le q hj)), rfl⟩
theorem wth_of {z : Int32} {lo hi : Nat} (h : wth z lo hi = true) (hl : lo < 2 ^ 31) (hh : hi < 2 ^ 31) : ∃ j, lo ≤ j ∧ j ≤ hi ∧ z = nI j := by
  obtain ⟨h1, h2⟩ := of_decide_eq_true h
  have h3 : ¬ z < 0 := fun q => h1 (Int32.lt_iff_toInt_lt.mpr (by
    have := Int32.lt_iff_toInt_lt.mp q
    rw [nI_toInt hl]
    have e0 : (0 : Int32).toInt = 0 := by decide
    omega))
  obtain ⟨j, hj, rfl⟩ := nI_of h3
  exact ⟨j, Nat.le_of_not_lt (fun q => h1 (nI_lt q hl)), Nat.le_of_not_lt (fun q => h2 (nI_lt q hj)), rfl⟩
theorem inr_nI {j n : Nat} (hj : j < 2 ^ 31) (hn : n < 2 ^ 31) : inr (nI j) n = decide (j < n) := by
  unfold inr
  by_cases h : j < n
  · rw [decide_eq_true h]
    exact decide_eq_true ⟨nI_pos hj, fun q => by have := (nI_leI hn hj).mp q; omega⟩
  · rw [decide_eq_false h]
    exact decide_eq_false (fun q => q.2 (nI_le (by omega) hj))
theorem wth_nI {j lo hi : Nat} (hj : j < 2 ^ 31) (hl : lo < 2 ^ 31) (hh : hi < 2 ^ 31) : wth (nI j) lo hi = decide (lo ≤ j ∧ j ≤ hi) := by
  unfold wth
  by_cases h : lo ≤ j ∧ j ≤ hi
  · rw [decide_eq_true h]
    exact decide_eq_true ⟨nI_nlt h.1 hj, nI_nlt h.2 hh⟩
  · rw [decide_eq_false h]
    exact decide_eq_false (fun q => h ⟨Nat.le_of_not_lt (fun z => q.1 (nI_lt z hl)), Nat.le_of_not_lt (fun z => q.2 (nI_lt z hj))⟩)
def zN (z : Int32) : Nat := z.toNatClampNeg
theorem zN_nI {j : Nat} (h : j < 2 ^ 31) : zN (nI j) = j := nI_clamp h
/-- the bounds of what has been done -/
def SW (V : sV) (N : sN) (h : sH) (mk : List sN) : Prop := VW V ∧ NW V N ∧ (∀ q ∈ h, q.1 < V 0 7 0 ∧ q.2 0 < V 0 4 0 ∧ ∀ s, s < 6 → q.2 (3 + s) ≤ 198) ∧ ∀ q ∈ mk, NW V q
/-- what the class holds -/
def XS (V : sV) (N : sN) (h : sH) (mk : List sN) (I : Nat → Nat → Nat → Int32) : Prop := XB V 0 I ∧ XN V N I ∧ XH V h I ∧ XK V mk I
/-- scratch: nothing of it is looked at by a later call -/
def scr (s : Nat) : Prop := s = 1 ∨ s = 3 ∨ s = 5 ∨ s = 8 ∨ s = 9 ∨ s = 10 ∨ s = 15 ∨ s = 41 ∨ (47 ≤ s ∧ s ≤ 63)
theorem XS.sm {N : sN} {h : sH} {mk : List sN} {I I' : Nat → Nat → Nat → Int32} (hX : XS V N h mk I) (hs : ∀ s, s = 0 ∨ s = 4 ∨ s = 42 ∨ s = 43 ∨ (16 ≤ s ∧ s ≤ 37) → I' s = I s) : XS V N h mk I' := by
  obtain ⟨h1, h2, h3, h4⟩ := hX
  refine ⟨h1.sm (fun s a b => hs s (by omega)), fun t ht => (h2 t ht).to (by rw [hs 4 (by omega)]) (by rw [hs 43 (by omega)]), ?_, ?_⟩
  · unfold XH PR at h3 ⊢
    rw [hs 0 (by omega), hs 42 (by omega), hs 4 (by omega), hs 43 (by omega)]
    exact h3
  · unfold XK PR at h4 ⊢
    rw [hs 0 (by omega), hs 4 (by omega), hs 43 (by omega)]
    exact h4
/-- behind a call of the face: scratch aside, trouble alone is other -/
def KX (I I' : Nat → Nat → Nat → Int32) (q : Nat) : Prop := (∀ s, ¬ scr s → s ≠ 11 → I' s = I s) ∧ I' 11 0 12 = nI q ∧ ∀ k, k ≠ 12 → I' 11 0 k = I 11 0 k
theorem KX.of {I I' : Nat → Nat → Nat → Int32} {q : Nat} (h : Sm scr I I') : KX I (xu I' 11 0 12 (nI q)) q := by
  refine ⟨fun s h1 h2 => ?_, xu_s, fun k hk => ?_⟩
  · funext a c; rw [xu_ns h2, h s h1]
  · rw [xu_nk hk, h 11 (by unfold scr; omega)]

set_option maxRecDepth 100000 in
set_option maxHeartbeats 4000000 in
theorem c_isOne (hV : VW V) {so : Nat} {z : Int32} (hs : so < 12) (hn : V 0 so 0 < 2 ^ 31) (he : I 16 0 so = nI (V 0 so 0)) : Mt G vX11_isOne (d) (0, 0) [.ref (ad 11 0), .int (nI (so)), .int (z)] (MM ad nb b r I L) (qE (bI (inr z (V 0 so 0))) (MM ad nb b r I L)) := by
  refine x_start (by decide) (Nat.le_of_ble_eq_true rfl) ?_
  refine x_iload_n dX11_isOne_0 rfl ?_
  refine x_if_lt 21 dX11_isOne_1 (by decide) (fun h1 => ?_) (fun h1 => ?_)
  · refine x_iconst dX11_isOne_21 li_0 ?_
    refine x_zret dX11_isOne_22 rfl rfl ?_
    refine ⟨_, rfl, ?_, rfl⟩
    first | exact bI_1 (decide_eq_true ⟨h1, h14⟩) | exact bI_0 (fun q => (of_decide_eq_true q).2 h14) | exact bI_0 (fun q => (of_decide_eq_true q).1 h1)
  · refine x_iload_n dX11_isOne_4 rfl ?_
    refine x_aload_n dX11_isOne_5 rfl ?_
    refine g_X_told fX11_16 dX11_isOne_6 ?_
    refine g_Border_sizes fX11_124 dX11_isOne_9 (by first | exact Nat.le_of_ble_eq_true rfl | assumption | omega) ?_
    refine x_iload_n dX11_isOne_12 rfl ?_
    refine x_iald dX11_isOne_13 rfl rfl (Nat.lt_of_lt_of_le (by first | assumption | omega | decide) (Nat.le_refl 2)) (by first | exact Nat.le_of_ble_eq_true rfl | assumption | omega) ?_
    rw [he]
    refine x_ic_ge 21 dX11_isOne_14 (by decide) (fun h14 => ?_) (fun h14 => ?_)
    · refine x_iconst dX11_isOne_21 li_0 ?_
      refine x_zret dX11_isOne_22 rfl rfl ?_
      refine ⟨_, rfl, ?_, rfl⟩
      first | exact bI_1 (decide_eq_true ⟨h1, h14⟩) | exact bI_0 (fun q => (of_decide_eq_true q).2 h14) | exact bI_0 (fun q => (of_decide_eq_true q).1 h1)
    · refine x_iconst dX11_isOne_17 li_1 ?_
      refine x_goto 22 dX11_isOne_18 (by decide) ?_
      refine x_zret dX11_isOne_22 rfl rfl ?_
      refine ⟨_, rfl, ?_, rfl⟩
      first | exact bI_1 (decide_eq_true ⟨h1, h14⟩) | exact bI_0 (fun q => (of_decide_eq_true q).2 h14) | exact bI_0 (fun q => (of_decide_eq_true q).1 h1)
set_option maxRecDepth 100000 in
set_option maxHeartbeats 4000000 in
theorem c_isWithin {z : Int32} {lo hi : Nat} : Mt G vX11_isWithin (d) (0, 0) [.int (z), .int (nI (lo)), .int (nI (hi))] (MM ad nb b r I L) (qE (bI (wth z lo hi)) (MM ad nb b r I L)) := by
  refine x_start (by decide) (Nat.le_of_ble_eq_true rfl) ?_
  refine x_iload_n dX11_isWithin_0 rfl ?_
  refine x_iload_n dX11_isWithin_1 rfl ?_
  refine x_ic_lt 14 dX11_isWithin_2 (by decide) (fun h2 => ?_) (fun h2 => ?_)
  · refine x_iconst dX11_isWithin_14 li_0 ?_
    refine x_zret dX11_isWithin_15 rfl rfl ?_
    refine ⟨_, rfl, ?_, rfl⟩
    first | exact bI_1 (decide_eq_true ⟨h2, h7⟩) | exact bI_0 (fun q => (of_decide_eq_true q).2 h7) | exact bI_0 (fun q => (of_decide_eq_true q).1 h2)
  · refine x_iload_n dX11_isWithin_5 rfl ?_
    refine x_iload_n dX11_isWithin_6 rfl ?_
    refine x_ic_gt 14 dX11_isWithin_7 (by decide) (fun h7 => ?_) (fun h7 => ?_)
    · refine x_iconst dX11_isWithin_14 li_0 ?_
      refine x_zret dX11_isWithin_15 rfl rfl ?_
      refine ⟨_, rfl, ?_, rfl⟩
      first | exact bI_1 (decide_eq_true ⟨h2, h7⟩) | exact bI_0 (fun q => (of_decide_eq_true q).2 h7) | exact bI_0 (fun q => (of_decide_eq_true q).1 h2)
    · refine x_iconst dX11_isWithin_10 li_1 ?_
      refine x_goto 15 dX11_isWithin_11 (by decide) ?_
      refine x_zret dX11_isWithin_15 rfl rfl ?_
      refine ⟨_, rfl, ?_, rfl⟩
      first | exact bI_1 (decide_eq_true ⟨h2, h7⟩) | exact bI_0 (fun q => (of_decide_eq_true q).2 h7) | exact bI_0 (fun q => (of_decide_eq_true q).1 h2)
set_option maxRecDepth 100000 in
set_option maxHeartbeats 4000000 in
theorem c_answer {z : Int32} : Mt G vX11_answer (d) (0, 0) [.ref (ad 11 0), .int (z)] (MM ad nb b r I L) (qE z (MM ad nb b r (xu I 11 0 12 (nI 0)) L)) := by
  refine x_start (by decide) (Nat.le_of_ble_eq_true rfl) ?_
  refine x_aload_n dX11_answer_0 rfl ?_
  refine x_iconst dX11_answer_1 li_0 ?_
  refine p_X_trouble fX11_130 dX11_answer_2 ?_
  refine x_iload_n dX11_answer_5 rfl ?_
  refine x_iret dX11_answer_6 rfl ?_
  exact ⟨_, rfl, rfl, rfl⟩
set_option maxRecDepth 100000 in
set_option maxHeartbeats 4000000 in
theorem c_refuse {y : Nat} : Mt G vX11_refuse (d) (0, 0) [.ref (ad 11 0), .int (nI (y))] (MM ad nb b r I L) (qE (-1) (MM ad nb b r (xu I 11 0 12 (nI y)) L)) := by
  refine x_start (by decide) (Nat.le_of_ble_eq_true rfl) ?_
  refine x_aload_n dX11_refuse_0 rfl ?_
  refine x_iload_n dX11_refuse_1 rfl ?_
  refine p_X_trouble fX11_130 dX11_refuse_2 ?_
  refine x_iconst dX11_refuse_5 li_m1 ?_
  refine x_iret dX11_refuse_6 rfl ?_
  exact ⟨_, rfl, rfl, rfl⟩
set_option maxRecDepth 100000 in
set_option maxHeartbeats 4000000 in
theorem c_agree  : Mt G vX11_agree (d) (0, 0) [.ref (ad 11 0)] (MM ad nb b r I L) (qE (nI 1) (MM ad nb b r (xu I 11 0 12 (nI 0)) L)) := by
  refine x_start (by decide) (Nat.le_of_ble_eq_true rfl) ?_
  refine x_aload_n dX11_agree_0 rfl ?_
  refine x_iconst dX11_agree_1 li_0 ?_
  refine p_X_trouble fX11_130 dX11_agree_2 ?_
  refine x_iconst dX11_agree_5 li_1 ?_
  refine x_zret dX11_agree_6 rfl rfl ?_
  exact ⟨_, rfl, rfl, rfl⟩
set_option maxRecDepth 100000 in
set_option maxHeartbeats 4000000 in
theorem c_deny {y : Nat} : Mt G vX11_deny (d) (0, 0) [.ref (ad 11 0), .int (nI (y))] (MM ad nb b r I L) (qE (nI 0) (MM ad nb b r (xu I 11 0 12 (nI y)) L)) := by
  refine x_start (by decide) (Nat.le_of_ble_eq_true rfl) ?_
  refine x_aload_n dX11_deny_0 rfl ?_
  refine x_iload_n dX11_deny_1 rfl ?_
  refine p_X_trouble fX11_130 dX11_deny_2 ?_
  refine x_iconst dX11_deny_5 li_0 ?_
  refine x_zret dX11_deny_6 rfl rfl ?_
  exact ⟨_, rfl, rfl, rfl⟩
def wnb (V : sV) (t : Int32) (so : Nat) (z H : Int32) : Nat := if (inr t (V 0 7 0) && inr z (V 0 so 0)) = true then (if wth H 0 99 = true then 0 else 2) else 1
set_option maxRecDepth 100000 in
set_option maxHeartbeats 4000000 in
theorem c_whyNotBehind (hV : VW V) (hB : XB V 0 I) {so : Nat} {t z H : Int32} (hs : so = 2 ∨ so = 3 ∨ so = 4) : Mt G vX11_whyNotBehind (d + 1) (0, 0) [.ref (ad 11 0), .int (t), .int (nI (so)), .int (z), .int (H)] (MM ad nb b r I L) (qE (nI (wnb V t so z H)) (MM ad nb b r I L)) := by
  have hso : V 0 so 0 < 2 ^ 31 := by have h2 := hV.2.2.1; have h3 := hV.2.2.2.1; have h4 := hV.2.2.2.2.1; rcases hs with rfl | rfl | rfl <;> omega
  have h7v := hV.2.2.2.2.2.2.2.1
  refine x_start (by decide) (Nat.le_of_ble_eq_true rfl) ?_
  refine x_aload_n dX11_whyNotBehind_0 rfl ?_
  refine x_bipush dX11_whyNotBehind_1 lb_7 ?_
  refine x_iload_n dX11_whyNotBehind_3 rfl ?_
  refine x_cvi (c_isOne hV (so := 7) (z := t) (by omega) (by omega) (hB.1 7 (by omega))) kX11_133 dX11_whyNotBehind_4 rfl (Nat.le_of_ble_eq_true rfl) rfl rfl (Nat.le_of_ble_eq_true rfl) (fun ru Mu hq => ?_)
  obtain ⟨rfl, rfl⟩ := hq
  refine x_if_eq 19 dX11_whyNotBehind_7 (by decide) (fun h7 => ?_) (fun h7 => ?_)
  · refine x_iconst dX11_whyNotBehind_19 li_1 ?_
    refine x_iret dX11_whyNotBehind_20 rfl ?_
    refine ⟨_, rfl, ?_, rfl⟩
    unfold wnb
    first | rw [bI_eq.mp h7] | rw [bI_eq.mp h16, Bool.and_false]
    rfl
  · refine x_aload_n dX11_whyNotBehind_10 rfl ?_
    refine x_iload_n dX11_whyNotBehind_11 rfl ?_
    refine x_iload_n dX11_whyNotBehind_12 rfl ?_
    refine x_cvi (c_isOne hV (so := so) (z := z) (by omega) hso (hB.1 so (by omega))) kX11_133 dX11_whyNotBehind_13 rfl (Nat.le_of_ble_eq_true rfl) rfl rfl (Nat.le_of_ble_eq_true rfl) (fun ru Mu hq => ?_)
    obtain ⟨rfl, rfl⟩ := hq
    refine x_if_ne 21 dX11_whyNotBehind_16 (by decide) (fun h16 => ?_) (fun h16 => ?_)
    · refine x_iload dX11_whyNotBehind_21 rfl ?_
      refine x_iconst dX11_whyNotBehind_23 li_0 ?_
      refine x_bipush dX11_whyNotBehind_24 lb_99 ?_
      refine x_csi (c_isWithin (z := H) (lo := 0) (hi := 99)) kX11_206 dX11_whyNotBehind_26 rfl rfl (Nat.le_of_ble_eq_true rfl) (fun ru Mu hq => ?_)
      obtain ⟨rfl, rfl⟩ := hq
      refine x_if_eq 36 dX11_whyNotBehind_29 (by decide) (fun h29 => ?_) (fun h29 => ?_)
      · refine x_iconst dX11_whyNotBehind_36 li_2 ?_
        refine x_iret dX11_whyNotBehind_37 rfl ?_
        refine ⟨_, rfl, ?_, rfl⟩
        unfold wnb
        rw [bI_ne.mp h7, bI_ne.mp h16]
        first | rw [bI_ne.mp h29] | rw [bI_eq.mp h29]
        rfl
      · refine x_iconst dX11_whyNotBehind_32 li_0 ?_
        refine x_goto 37 dX11_whyNotBehind_33 (by decide) ?_
        refine x_iret dX11_whyNotBehind_37 rfl ?_
        refine ⟨_, rfl, ?_, rfl⟩
        unfold wnb
        rw [bI_ne.mp h7, bI_ne.mp h16]
        first | rw [bI_ne.mp h29] | rw [bI_eq.mp h29]
        rfl
    · refine x_iconst dX11_whyNotBehind_19 li_1 ?_
      refine x_iret dX11_whyNotBehind_20 rfl ?_
      refine ⟨_, rfl, ?_, rfl⟩
      unfold wnb
      first | rw [bI_eq.mp h7] | rw [bI_eq.mp h16, Bool.and_false]
      rfl
/-- DUTY of a traveller at a place behind hours -/
def dbh (V : sV) (N : sN) (t q H : Nat) : Nat := dtn V (fun s => N t (3 + s)) (V 9 t 0) H q (V 6 q 0)
set_option maxRecDepth 100000 in
set_option maxHeartbeats 4000000 in
theorem c_dutyBehind (hV : VW V) (hB : XB V 0 I) {N : sN} (hN : XN V N I) (hW : NW V N) {t q H : Nat} (ht : t < V 0 7 0) (hq : q < V 0 4 0) (hH : H ≤ 1000) : Mt G vX11_dutyBehind (d + 2 + 1) (0, 0) [.ref (ad 11 0), .int (nI (t)), .int (nI (q)), .int (nI (H))] (MM ad nb b r I L) (qI (fun rr M' => rr = nI (dbh V N t q H) ∧ ∃ I', M' = MM ad nb b r I' L ∧ Sm (fun s => s = 1 ∨ s = 41) I I')) := by
  have ht4 := hV.2.2.2.2.2.2.2.1
  have hp6 := hV.2.2.2.2.1
  have hf := (hW t ht).2
  have hso := (hV.2.2.2.2.2.2.2.2.2.2.2.2.2.2.2.2.2.2.1 t ht).1
  refine x_start (by decide) (Nat.le_of_ble_eq_true rfl) ?_
  refine x_aload_n dX11_dutyBehind_0 rfl ?_
  refine g_X_air fX11_34 dX11_dutyBehind_1 ?_
  refine x_aload_n dX11_dutyBehind_4 rfl ?_
  refine g_X_acts fX11_41 dX11_dutyBehind_5 ?_
  refine g_Acts_now fX11_155 dX11_dutyBehind_8 ?_
  refine x_iload_n dX11_dutyBehind_11 rfl ?_
  refine aa_Acts_now dX11_dutyBehind_12 rfl (by first | exact Nat.le_of_ble_eq_true rfl | assumption | omega) ?_
  refine g_Person_halves fX11_183 dX11_dutyBehind_13 (by first | exact Nat.le_of_ble_eq_true rfl | assumption | omega) ?_
  refine x_iload_n dX11_dutyBehind_16 rfl ?_
  refine x_iconst dX11_dutyBehind_17 li_0 ?_
  refine x_cvv (c_take (h := 43) (j := t) (f := fun s => N t (3 + s)) rfl (by decide) (Nat.lt_of_lt_of_le (show t < 4 by omega) (Nat.le_of_ble_eq_true rfl)) hV hB (fun s hs => ⟨(hN t ht).2 s hs, hf s hs⟩) hH (by omega)) kX11_186 dX11_dutyBehind_18 rfl (Nat.le_of_ble_eq_true rfl) rfl rfl (Nat.le_of_ble_eq_true rfl) (fun M2 hq2 => ?_)
  obtain ⟨I2, rfl, hA2, hS2⟩ := hq2
  have hB2 : XB V 0 I2 := hB.sm (fun s h1 h2 => hS2 s (by omega))
  have hz2 := hB2.nz hV q hq
  have hsk := skl_le hV hz2.2
  refine x_aload_n dX11_dutyBehind_21 rfl ?_
  refine g_X_air fX11_34 dX11_dutyBehind_22 ?_
  refine x_aload_n dX11_dutyBehind_25 rfl ?_
  refine g_X_told fX11_16 dX11_dutyBehind_26 ?_
  refine g_Border_sort fX11_159 dX11_dutyBehind_29 (by first | exact Nat.le_of_ble_eq_true rfl | assumption | omega) ?_
  refine x_iload_n dX11_dutyBehind_32 rfl ?_
  refine x_iald dX11_dutyBehind_33 rfl rfl (Nat.lt_of_lt_of_le (by first | assumption | omega | decide) (Nat.le_refl 2)) (by first | exact Nat.le_of_ble_eq_true rfl | assumption | omega) ?_
  have eso : I2 23 0 t = nI (V 9 t 0) := (hB2.2.2.2.2.2.1 t ht).1
  rw [eso]
  refine x_iload_n dX11_dutyBehind_34 rfl ?_
  refine x_aload_n dX11_dutyBehind_35 rfl ?_
  refine g_X_told fX11_16 dX11_dutyBehind_36 ?_
  refine x_iload_n dX11_dutyBehind_39 rfl ?_
  refine x_aload_n dX11_dutyBehind_40 rfl ?_
  refine g_X_told fX11_16 dX11_dutyBehind_41 ?_
  refine g_Border_placeNose fX11_149 dX11_dutyBehind_44 (by first | exact Nat.le_of_ble_eq_true rfl | assumption | omega) ?_
  refine x_cvi (c_skillAt (h := 22) (j := 0) hV hB2 rfl (Nat.le_of_ble_eq_true rfl) (by omega) hz2.1 hz2.2) kX11_303 dX11_dutyBehind_47 rfl (Nat.le_of_ble_eq_true rfl) rfl rfl (Nat.le_of_ble_eq_true rfl) (fun ru Mu hq1 => ?_)
  obtain ⟨rfl, rfl⟩ := hq1
  refine x_cvi (c_toll hV hB2 hA2 (fun s hs => str_le (hf s hs)) hso hq hsk) kX11_307 dX11_dutyBehind_50 rfl (Nat.le_of_ble_eq_true rfl) rfl rfl (Nat.le_of_ble_eq_true rfl) (fun ru Mu hq1 => ?_)
  obtain ⟨rfl, rfl⟩ := hq1
  refine x_iret dX11_dutyBehind_53 rfl ?_
  exact ⟨_, rfl, rfl, _, rfl, hS2.wk (fun s h => by omega)⟩
/-- the ways of a traveller, the number of the best of a kind and one more -/
def wof (V : sV) (N : sN) (t to kind : Nat) : Nat := pkF (dW V (fun s => N t (3 + s)) (V 9 t 0) (wys V (N t 0) to)) (hWd V (wys V (N t 0) to)) kind (wys V (N t 0) to).length
set_option maxRecDepth 100000 in
set_option maxHeartbeats 4000000 in
theorem c_wayOf (hV : VW V) (hB : XB V 0 I) {N : sN} (hN : XN V N I) (hW : NW V N) {t to kind : Nat} (ht : t < V 0 7 0) (hto : to < V 0 4 0) (hk : kind < 3) : Mt G vX11_wayOf (d + 6 + 2 + 1 + 1) (0, 0) [.ref (ad 11 0), .int (nI (kind)), .int (nI (t)), .int (nI (to))] (MM ad nb b r I L) (qI (fun rr M' => rr = nO (-1) (wof V N t to kind) ∧ ∃ I', M' = MM ad nb b r I' L ∧ WS V (wys V (N t 0) to) I' ∧ WD V (fun s => N t (3 + s)) (V 9 t 0) (wys V (N t 0) to) I' ∧ Sm sW I I')) := by
  have ht4 := hV.2.2.2.2.2.2.2.1
  have hso := (hV.2.2.2.2.2.2.2.2.2.2.2.2.2.2.2.2.2.2.1 t ht).1
  refine x_start (by decide) (Nat.le_of_ble_eq_true rfl) ?_
  refine x_aload_n dX11_wayOf_0 rfl ?_
  refine g_X_ways fX11_59 dX11_wayOf_1 ?_
  refine x_aload_n dX11_wayOf_4 rfl ?_
  refine g_X_acts fX11_41 dX11_wayOf_5 ?_
  refine g_Acts_now fX11_155 dX11_wayOf_8 ?_
  refine x_iload_n dX11_wayOf_11 rfl ?_
  refine aa_Acts_now dX11_wayOf_12 rfl (by first | exact Nat.le_of_ble_eq_true rfl | assumption | omega) ?_
  refine x_aload_n dX11_wayOf_13 rfl ?_
  refine g_X_told fX11_16 dX11_wayOf_14 ?_
  refine g_Border_sort fX11_159 dX11_wayOf_17 (by first | exact Nat.le_of_ble_eq_true rfl | assumption | omega) ?_
  refine x_iload_n dX11_wayOf_20 rfl ?_
  refine x_iald dX11_wayOf_21 rfl rfl (Nat.lt_of_lt_of_le (by first | assumption | omega | decide) (Nat.le_refl 2)) (by first | exact Nat.le_of_ble_eq_true rfl | assumption | omega) ?_
  rw [(hB.2.2.2.2.2.1 t ht).1]
  refine x_iload_n dX11_wayOf_22 rfl ?_
  refine x_cvv (c_list (d := d) hV hB (Nat.lt_of_lt_of_le (show t < 4 by omega) (by decide)) (hN t ht) (hW t ht).1 (hW t ht).2 hso hto) kX11_344 dX11_wayOf_23 rfl (Nat.le_of_ble_eq_true rfl) rfl rfl (Nat.le_of_ble_eq_true rfl) (fun M2 hq2 => ?_)
  obtain ⟨I2, rfl, hL1, hL2, hL3⟩ := hq2
  refine x_aload_n dX11_wayOf_26 rfl ?_
  refine g_X_ways fX11_59 dX11_wayOf_27 ?_
  refine x_iload_n dX11_wayOf_30 rfl ?_
  refine x_cvi (c_pick (d := d + 6 + 1) hV (hW t ht).2 hL1 hL2 hk) kX11_348 dX11_wayOf_31 rfl (Nat.le_of_ble_eq_true rfl) rfl rfl (Nat.le_of_ble_eq_true rfl) (fun ru Mu hq1 => ?_)
  obtain ⟨rfl, rfl⟩ := hq1
  refine x_iret dX11_wayOf_34 rfl ?_
  exact ⟨_, rfl, rfl, _, rfl, hL1, hL2, hL3⟩

def rnd (V : sV) (N : sN) (t to : Nat) : Bool := decide (wof V N t to 0 ≠ 0) && (decide (wof V N t to 1 ≠ 0) && decide (dW V (fun s => N t (3 + s)) (V 9 t 0) (wys V (N t 0) to) (wof V N t to 1 - 1) < dW V (fun s => N t (3 + s)) (V 9 t 0) (wys V (N t 0) to) (wof V N t to 0 - 1)))
theorem nO_m1 {n : Nat} (hn : n < 2 ^ 31) : nO (-1) n = -1 ↔ n = 0 := by
  unfold nO
  by_cases h : n = 0
  · rw [if_pos h]; exact ⟨fun _ => h, fun _ => rfl⟩
  · rw [if_neg h]
    refine ⟨fun q => ?_, fun q => absurd q h⟩
    have := nI_pos (n := n - 1) (by omega)
    rw [q] at this
    exact absurd (by decide) this
theorem nO_pos {z : Int32} {n : Nat} (h : n ≠ 0) : nO z n = nI (n - 1) := by unfold nO; rw [if_neg h]

set_option maxRecDepth 100000 in
set_option maxHeartbeats 4000000 in
theorem c_isRound (hV : VW V) (hB : XB V 0 I) {N : sN} (hN : XN V N I) (hW : NW V N) {t to : Nat} (ht : t < V 0 7 0) (hto : to < V 0 4 0) : Mt G vX11_isRound (d + 6 + 2 + 1 + 1) (0, 0) [.ref (ad 11 0), .int (nI (t)), .int (nI (to))] (MM ad nb b r I L) (qI (fun rr M' => rr = bI (rnd V N t to) ∧ ∃ I', M' = MM ad nb b r I' L ∧ Sm sW I I')) := by
  have ht4 := hV.2.2.2.2.2.2.2.1
  have hso := (hV.2.2.2.2.2.2.2.2.2.2.2.2.2.2.2.2.2.2.1 t ht).1
  have e65 : (wys V (N t 0) to).length ≤ 65 := ex_65 hV hto (hW t ht).1
  have q0 : wof V N t to 0 ≤ (wys V (N t 0) to).length := pkF_le _
  have q1 : wof V N t to 1 ≤ (wys V (N t 0) to).length := pkF_le _
  refine x_start (by decide) (Nat.le_of_ble_eq_true rfl) ?_
  refine x_aload_n dX11_isRound_0 rfl ?_
  refine g_X_ways fX11_59 dX11_isRound_1 ?_
  refine x_aload_n dX11_isRound_4 rfl ?_
  refine g_X_acts fX11_41 dX11_isRound_5 ?_
  refine g_Acts_now fX11_155 dX11_isRound_8 ?_
  refine x_iload_n dX11_isRound_11 rfl ?_
  refine aa_Acts_now dX11_isRound_12 rfl (by first | exact Nat.le_of_ble_eq_true rfl | assumption | omega) ?_
  refine x_aload_n dX11_isRound_13 rfl ?_
  refine g_X_told fX11_16 dX11_isRound_14 ?_
  refine g_Border_sort fX11_159 dX11_isRound_17 (by first | exact Nat.le_of_ble_eq_true rfl | assumption | omega) ?_
  refine x_iload_n dX11_isRound_20 rfl ?_
  refine x_iald dX11_isRound_21 rfl rfl (Nat.lt_of_lt_of_le (by first | assumption | omega | decide) (Nat.le_refl 2)) (by first | exact Nat.le_of_ble_eq_true rfl | assumption | omega) ?_
  rw [(hB.2.2.2.2.2.1 t ht).1]
  refine x_iload_n dX11_isRound_22 rfl ?_
  refine x_cvv (c_list (d := d) hV hB (Nat.lt_of_lt_of_le (show t < 4 by omega) (by decide)) (hN t ht) (hW t ht).1 (hW t ht).2 hso hto) kX11_344 dX11_isRound_23 rfl (Nat.le_of_ble_eq_true rfl) rfl rfl (Nat.le_of_ble_eq_true rfl) (fun M2 hq2 => ?_)
  obtain ⟨I2, rfl, hL1, hL2, hL3⟩ := hq2
  refine x_aload_n dX11_isRound_26 rfl ?_
  refine g_X_ways fX11_59 dX11_isRound_27 ?_
  refine x_iconst dX11_isRound_30 li_0 ?_
  refine x_cvi (c_pick (d := d + 6 + 1) (kind := 0) hV (hW t ht).2 hL1 hL2 (by omega)) kX11_348 dX11_isRound_31 rfl (Nat.le_of_ble_eq_true rfl) rfl rfl (Nat.le_of_ble_eq_true rfl) (fun ru Mu hq1 => ?_)
  obtain ⟨rfl, rfl⟩ := hq1
  refine x_top (v := nO (-1) (wof V N t to 0)) rfl ?_
  refine x_istore_n dX11_isRound_34 (by decide) rfl ?_
  refine x_aload_n dX11_isRound_35 rfl ?_
  refine g_X_ways fX11_59 dX11_isRound_36 ?_
  refine x_iconst dX11_isRound_39 li_1 ?_
  refine x_cvi (c_pick (d := d + 6 + 1) (kind := 1) hV (hW t ht).2 hL1 hL2 (by omega)) kX11_348 dX11_isRound_40 rfl (Nat.le_of_ble_eq_true rfl) rfl rfl (Nat.le_of_ble_eq_true rfl) (fun ru Mu hq1 => ?_)
  obtain ⟨rfl, rfl⟩ := hq1
  refine x_top (v := nO (-1) (wof V N t to 1)) rfl ?_
  refine x_istore dX11_isRound_43 (by decide) rfl ?_
  refine x_iload_n dX11_isRound_45 rfl ?_
  refine x_iconst dX11_isRound_46 li_m1 ?_
  refine x_ic_eq 82 dX11_isRound_47 (by decide) (fun h47 => ?_) (fun h47 => ?_)
  · refine x_iconst dX11_isRound_82 li_0 ?_
    refine x_zret dX11_isRound_83 rfl rfl ?_
    refine ⟨_, rfl, ?_, _, rfl, hL3⟩
    unfold rnd
    first
      | (refine bI_0 (fun z => ?_); have z0 := (nO_m1 (by omega)).mp h47; simp [z0] at z; done)
      | (refine bI_0 (fun z => ?_); have z0 := (nO_m1 (by omega)).mp h53; simp [z0] at z; done)
      | (refine bI_1 ?_; simp [p0, p1, h75]; done)
      | (refine bI_0 (fun z => ?_); simp [p0, p1] at z; omega)
  · refine x_iload dX11_isRound_50 rfl ?_
    refine x_iconst dX11_isRound_52 li_m1 ?_
    refine x_ic_eq 82 dX11_isRound_53 (by decide) (fun h53 => ?_) (fun h53 => ?_)
    · refine x_iconst dX11_isRound_82 li_0 ?_
      refine x_zret dX11_isRound_83 rfl rfl ?_
      refine ⟨_, rfl, ?_, _, rfl, hL3⟩
      unfold rnd
      first
        | (refine bI_0 (fun z => ?_); have z0 := (nO_m1 (by omega)).mp h47; simp [z0] at z; done)
        | (refine bI_0 (fun z => ?_); have z0 := (nO_m1 (by omega)).mp h53; simp [z0] at z; done)
        | (refine bI_1 ?_; simp [p0, p1, h75]; done)
        | (refine bI_0 (fun z => ?_); simp [p0, p1] at z; omega)
    · have p0 : wof V N t to 0 ≠ 0 := fun z => h47 ((nO_m1 (by omega)).mpr z)
      have p1 : wof V N t to 1 ≠ 0 := fun z => h53 ((nO_m1 (by omega)).mpr z)
      have d1 := dW_lt (sort := V 9 t 0) (k := wof V N t to 1 - 1) hV (hW t ht).2 hL1 (by omega)
      have d0 := dW_lt (sort := V 9 t 0) (k := wof V N t to 0 - 1) hV (hW t ht).2 hL1 (by omega)
      refine x_aload_n dX11_isRound_56 rfl ?_
      refine g_X_ways fX11_59 dX11_isRound_57 ?_
      refine g_Ways_duties fX11_243 dX11_isRound_60 ?_
      refine x_iload dX11_isRound_63 rfl ?_
      refine x_top (nO_pos p1) ?_
      refine x_iald dX11_isRound_65 rfl rfl (Nat.le_of_ble_eq_true rfl) (by first | exact Nat.le_of_ble_eq_true rfl | assumption | omega) ?_
      rw [hL2 _ (by omega)]
      refine x_aload_n dX11_isRound_66 rfl ?_
      refine g_X_ways fX11_59 dX11_isRound_67 ?_
      refine g_Ways_duties fX11_243 dX11_isRound_70 ?_
      refine x_iload_n dX11_isRound_73 rfl ?_
      refine x_top (nO_pos p0) ?_
      refine x_iald dX11_isRound_74 rfl rfl (Nat.le_of_ble_eq_true rfl) (by first | exact Nat.le_of_ble_eq_true rfl | assumption | omega) ?_
      rw [hL2 _ (by omega)]
      refine x_icN_ge 82 dX11_isRound_75 (by decide) (by omega) (by omega) (fun h75 => ?_) (fun h75 => ?_)
      · refine x_iconst dX11_isRound_82 li_0 ?_
        refine x_zret dX11_isRound_83 rfl rfl ?_
        refine ⟨_, rfl, ?_, _, rfl, hL3⟩
        unfold rnd
        first
          | (refine bI_0 (fun z => ?_); have z0 := (nO_m1 (by omega)).mp h47; simp [z0] at z; done)
          | (refine bI_0 (fun z => ?_); have z0 := (nO_m1 (by omega)).mp h53; simp [z0] at z; done)
          | (refine bI_1 ?_; simp [p0, p1, h75]; done)
          | (refine bI_0 (fun z => ?_); simp [p0, p1] at z; omega)
      · refine x_iconst dX11_isRound_78 li_1 ?_
        refine x_goto 83 dX11_isRound_79 (by decide) ?_
        refine x_zret dX11_isRound_83 rfl rfl ?_
        refine ⟨_, rfl, ?_, _, rfl, hL3⟩
        unfold rnd
        first
          | (refine bI_0 (fun z => ?_); have z0 := (nO_m1 (by omega)).mp h47; simp [z0] at z; done)
          | (refine bI_0 (fun z => ?_); have z0 := (nO_m1 (by omega)).mp h53; simp [z0] at z; done)
          | (refine bI_1 ?_; simp [p0, p1, h75]; done)
          | (refine bI_0 (fun z => ?_); simp [p0, p1] at z; omega)
end Xh
