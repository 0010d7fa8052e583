section Xp3
variable {G : xG} {ad : Nat → Nat → Nat} {nb : Nat} {b r : Option Nat} {L : Nat → Nat → Nat → Int64} {V : sV} {I : Nat → Nat → Nat → Int32} {d : Nat}
variable {N : sN} {h : sH} {mk : List sN}

def cnt (P : Nat → Bool) : Nat → Nat
  | 0 => 0
  | n + 1 => cnt P n + (if P n = true then 1 else 0)
def sm (P : Nat → Nat) : Nat → Nat
  | 0 => 0
  | n + 1 => sm P n + P n
theorem cnt_le {P : Nat → Bool} : ∀ n, cnt P n ≤ n
  | 0 => Nat.le_refl _
  | n + 1 => by
    have := cnt_le (P := P) n
    unfold cnt
    split <;> omega
def a_way (V : sV) (N : sN) (kd : Nat) (t z : Int32) : Int32 × Nat := if (inr t (V 0 7 0) && inr z (V 0 4 0)) = true then (if wof V N (zN t) (zN z) kd = 0 then -2 else if kd = 1 then nI (dW V (fun s => N (zN t) (3 + s)) (V 9 (zN t) 0) (wys V (N (zN t) 0) (zN z)) (wof V N (zN t) (zN z) kd - 1)) else nI (hWd V (wys V (N (zN t) 0) (zN z)) (wof V N (zN t) (zN z) kd - 1)), 0) else (-1, 1)
def a_wayAt (V : sV) (N : sN) (k t z i : Int32) : Int32 × Nat := if (wth k 0 2 && (inr t (V 0 7 0) && inr z (V 0 4 0))) = true then (if wof V N (zN t) (zN z) (zN k) = 0 then (-1, 1) else if inr i ((wys V (N (zN t) 0) (zN z)).getD (wof V N (zN t) (zN z) (zN k) - 1) []).length = true then (nI (((wys V (N (zN t) 0) (zN z)).getD (wof V N (zN t) (zN z) (zN k) - 1) []).getD (zN i) 0), 0) else (-1, 1)) else (-1, 1)
def a_rounds (V : sV) (N : sN) : Int32 × Nat := if 0 < V 0 0 0 then (nI (sm (fun t => cnt (rnd V N t) (V 0 4 0)) (V 0 7 0)), 0) else (-1, 1)
/-- a cover put on: its halves -/
def pon (N : sN) (t s c : Nat) (i : Nat) : Nat := if i = s then 2 * c else N t (3 + i)
/-- the least of a cover with which a way costs nothing -/
def lcv (V : sV) (N : sN) (t s : Nat) (w : List Nat) : Int32 := fsO (fun c => decide (dl V (pon N t s c) (V 9 t 0) w w.length = 0)) 100
def a_cover (V : sV) (N : sN) (t s z : Int32) : Int32 × Nat := if (inr t (V 0 7 0) && (inr s (V 0 2 0) && (inr z (V 0 4 0) && decide (V 2 (zN s) 0 = 2)))) = true then (if wof V N (zN t) (zN z) 0 = 0 then -2 else lcv V N (zN t) (zN s) ((wys V (N (zN t) 0) (zN z)).getD (wof V N (zN t) (zN z) 0 - 1) []), 0) else (-1, 1)
def wnt (V : sV) : Nat := if 0 < V 0 0 0 then (if V 0 10 0 = 0 then 6 else 0) else 1
def a_been (V : sV) : Int32 × Nat := if wnt V = 0 then (nI (been V).length, 0) else (-1, wnt V)
def a_could (V : sV) : Int32 × Nat := if wnt V = 0 then (nI (orT (been V)), 0) else (-1, wnt V)
def a_surely (V : sV) : Int32 × Nat := if wnt V = 0 then (if nI (been V).length = 0 then 0 else nI (anT (been V)), 0) else (-1, wnt V)
def a_beenAt (V : sV) (i : Int32) : Int32 × Nat := if wnt V = 0 then (if wth i 0 3 = true then (if zN i < (fsT (been V)).length then nI ((fsT (been V)).getD (zN i) 0) else -2, 0) else (-1, 1)) else (-1, wnt V)
theorem wnt_0 (h : wnt V = 0) : 0 < V 0 0 0 := by
  unfold wnt at h
  split at h
  · assumption
  · cases h
theorem sW_scr {I' : Nat → Nat → Nat → Int32} (h : Sm sW I I') : Sm scr I I' := h.wk (fun s h => by unfold sW at h; unfold scr; omega)
theorem sT_scr {I' : Nat → Nat → Nat → Int32} (h : Sm sT I I') : Sm scr I I' := h.wk (fun s h => by unfold sT at h; unfold scr; omega)

set_option maxRecDepth 100000 in
set_option maxHeartbeats 4000000 in
theorem x_quickest_c (hS : SW V N h mk) (hX : XS V N h mk I) {z1 z2 : Int32} : Mt G vX11_quickest (d + 6 + 2 + 1 + 1 + 1) (0, 0) [.ref (ad 11 0), .int (z1), .int (z2)] (MM ad nb b r I L) (qA ad nb b r I L (a_way V N 0 z1 z2)) := by
  have hV := hS.1
  obtain ⟨hB, hN, hH, hK⟩ := hX
  have hW := hS.2.1
  have v0 := hV.1
  have v1 := hV.2.1
  have v2 := hV.2.2.1
  have v3 := hV.2.2.2.1
  have v4 := hV.2.2.2.2.1
  have v7 := hV.2.2.2.2.2.2.2.1
  have v9 := hV.2.2.2.2.2.2.2.2.2.1
  have v10 := hV.2.2.2.2.2.2.2.2.2.2.1
  refine x_start (by decide) (Nat.le_of_ble_eq_true rfl) ?_
  refine x_aload_n dX11_quickest_0 rfl ?_
  refine x_bipush dX11_quickest_1 lb_7 ?_
  refine x_iload_n dX11_quickest_3 rfl ?_
  refine x_cvi (c_isOne hV (so := 7) (by omega) (by omega) (hB.1 7 (by omega))) kX11_133 dX11_quickest_4 rfl (Nat.le_of_ble_eq_true rfl) rfl rfl (Nat.le_of_ble_eq_true rfl) (fun ru Mu hq => ?_)
  obtain ⟨rfl, rfl⟩ := hq
  refine x_if_eq 19 dX11_quickest_7 (by decide) (fun h7 => ?_) (fun h7 => ?_)
  · refine x_aload_n dX11_quickest_19 rfl ?_
    refine x_iconst dX11_quickest_20 li_1 ?_
    refine x_cvi (c_refuse) kX11_102 dX11_quickest_21 rfl (Nat.le_of_ble_eq_true rfl) rfl rfl (Nat.le_of_ble_eq_true rfl) (fun ru Mu hq => ?_)
    obtain ⟨rfl, rfl⟩ := hq
    refine x_iret dX11_quickest_24 rfl ?_
    refine qA_no (c := 1) ?_
    unfold a_way
    first
      | (rw [bI_eq.mp h7]; rfl)
      | (rw [bI_eq.mp h16, Bool.and_false]; rfl)
  · have qt := bI_ne.mp h7
    obtain ⟨t, ht, rfl⟩ := inr_of qt (by omega)
    refine x_aload_n dX11_quickest_10 rfl ?_
    refine x_iconst dX11_quickest_11 li_4 ?_
    refine x_iload_n dX11_quickest_12 rfl ?_
    refine x_cvi (c_isOne hV (so := 4) (by omega) (by omega) (hB.1 4 (by omega))) kX11_133 dX11_quickest_13 rfl (Nat.le_of_ble_eq_true rfl) rfl rfl (Nat.le_of_ble_eq_true rfl) (fun ru Mu hq => ?_)
    obtain ⟨rfl, rfl⟩ := hq
    refine x_if_ne 25 dX11_quickest_16 (by decide) (fun h16 => ?_) (fun h16 => ?_)
    · have qto := bI_ne.mp h16
      obtain ⟨to, hto, rfl⟩ := inr_of qto (by omega)
      refine x_aload_n dX11_quickest_25 rfl ?_
      refine x_iconst dX11_quickest_26 li_0 ?_
      refine x_iload_n dX11_quickest_27 rfl ?_
      refine x_iload_n dX11_quickest_28 rfl ?_
      refine x_cvi (c_wayOf (d := d) (t := t) (to := to) (kind := 0) hV hB hN hW ht hto (by omega)) kX11_237 dX11_quickest_29 rfl (Nat.le_of_ble_eq_true rfl) rfl rfl (Nat.le_of_ble_eq_true rfl) (fun ru M2 hq2 => ?_)
      obtain ⟨rfl, I2, rfl, hL1, hL2, hL3⟩ := hq2
      have e65 : (wys V (N t 0) to).length ≤ 65 := ex_65 hV hto (hW t ht).1
      have q0 : wof V N t to 0 ≤ (wys V (N t 0) to).length := pkF_le _
      refine x_istore_n dX11_quickest_32 (by decide) rfl ?_
      refine x_aload_n dX11_quickest_33 rfl ?_
      refine x_iload_n dX11_quickest_34 rfl ?_
      refine x_iconst dX11_quickest_35 li_m1 ?_
      refine x_ic_ne 44 dX11_quickest_36 (by decide) (fun h36 => ?_) (fun h36 => ?_)
      · have p1 : wof V N t to 0 ≠ 0 := fun z => h36 ((nO_m1 (by omega)).mpr z)
        refine x_aload_n dX11_quickest_44 rfl ?_
        refine g_X_ways fX11_59 dX11_quickest_45 ?_
        refine x_iload_n dX11_quickest_48 rfl ?_
        refine x_top (nO_pos p1) ?_
        refine x_cvi (c_hoursOf hV hL1 (W_at (k := wof V N t to 0 - 1) (by omega))) kX11_240 dX11_quickest_49 rfl (Nat.le_of_ble_eq_true rfl) rfl rfl (Nat.le_of_ble_eq_true rfl) (fun ru Mu hq => ?_)
        obtain ⟨rfl, rfl⟩ := hq
        refine x_cvi (c_answer) kX11_127 dX11_quickest_52 rfl (Nat.le_of_ble_eq_true rfl) rfl rfl (Nat.le_of_ble_eq_true rfl) (fun ru Mu hq => ?_)
        obtain ⟨rfl, rfl⟩ := hq
        refine x_iret dX11_quickest_55 rfl ?_
        refine qA_ok ?_ (sW_scr hL3)
        unfold a_way
        rw [qt, qto, zN_nI (by omega), zN_nI (by omega), Bool.and_self, if_pos rfl]
        first
          | (rw [if_pos ((nO_m1 (by omega)).mp h36)])
          | (rw [if_neg p1]; rfl)
      · refine x_bipush dX11_quickest_39 lb_m2 ?_
        refine x_goto 52 dX11_quickest_41 (by decide) ?_
        refine x_cvi (c_answer) kX11_127 dX11_quickest_52 rfl (Nat.le_of_ble_eq_true rfl) rfl rfl (Nat.le_of_ble_eq_true rfl) (fun ru Mu hq => ?_)
        obtain ⟨rfl, rfl⟩ := hq
        refine x_iret dX11_quickest_55 rfl ?_
        refine qA_ok ?_ (sW_scr hL3)
        unfold a_way
        rw [qt, qto, zN_nI (by omega), zN_nI (by omega), Bool.and_self, if_pos rfl]
        first
          | (rw [if_pos ((nO_m1 (by omega)).mp h36)])
          | (rw [if_neg p1]; rfl)
    · refine x_aload_n dX11_quickest_19 rfl ?_
      refine x_iconst dX11_quickest_20 li_1 ?_
      refine x_cvi (c_refuse) kX11_102 dX11_quickest_21 rfl (Nat.le_of_ble_eq_true rfl) rfl rfl (Nat.le_of_ble_eq_true rfl) (fun ru Mu hq => ?_)
      obtain ⟨rfl, rfl⟩ := hq
      refine x_iret dX11_quickest_24 rfl ?_
      refine qA_no (c := 1) ?_
      unfold a_way
      first
        | (rw [bI_eq.mp h7]; rfl)
        | (rw [bI_eq.mp h16, Bool.and_false]; rfl)
set_option maxRecDepth 100000 in
set_option maxHeartbeats 4000000 in
theorem x_cheapest_c (hS : SW V N h mk) (hX : XS V N h mk I) {z1 z2 : Int32} : Mt G vX11_cheapest (d + 6 + 2 + 1 + 1 + 1) (0, 0) [.ref (ad 11 0), .int (z1), .int (z2)] (MM ad nb b r I L) (qA ad nb b r I L (a_way V N 1 z1 z2)) := by
  have hV := hS.1
  obtain ⟨hB, hN, hH, hK⟩ := hX
  have hW := hS.2.1
  have v0 := hV.1
  have v1 := hV.2.1
  have v2 := hV.2.2.1
  have v3 := hV.2.2.2.1
  have v4 := hV.2.2.2.2.1
  have v7 := hV.2.2.2.2.2.2.2.1
  have v9 := hV.2.2.2.2.2.2.2.2.2.1
  have v10 := hV.2.2.2.2.2.2.2.2.2.2.1
  refine x_start (by decide) (Nat.le_of_ble_eq_true rfl) ?_
  refine x_aload_n dX11_cheapest_0 rfl ?_
  refine x_bipush dX11_cheapest_1 lb_7 ?_
  refine x_iload_n dX11_cheapest_3 rfl ?_
  refine x_cvi (c_isOne hV (so := 7) (by omega) (by omega) (hB.1 7 (by omega))) kX11_133 dX11_cheapest_4 rfl (Nat.le_of_ble_eq_true rfl) rfl rfl (Nat.le_of_ble_eq_true rfl) (fun ru Mu hq => ?_)
  obtain ⟨rfl, rfl⟩ := hq
  refine x_if_eq 19 dX11_cheapest_7 (by decide) (fun h7 => ?_) (fun h7 => ?_)
  · refine x_aload_n dX11_cheapest_19 rfl ?_
    refine x_iconst dX11_cheapest_20 li_1 ?_
    refine x_cvi (c_refuse) kX11_102 dX11_cheapest_21 rfl (Nat.le_of_ble_eq_true rfl) rfl rfl (Nat.le_of_ble_eq_true rfl) (fun ru Mu hq => ?_)
    obtain ⟨rfl, rfl⟩ := hq
    refine x_iret dX11_cheapest_24 rfl ?_
    refine qA_no (c := 1) ?_
    unfold a_way
    first
      | (rw [bI_eq.mp h7]; rfl)
      | (rw [bI_eq.mp h16, Bool.and_false]; rfl)
  · have qt := bI_ne.mp h7
    obtain ⟨t, ht, rfl⟩ := inr_of qt (by omega)
    refine x_aload_n dX11_cheapest_10 rfl ?_
    refine x_iconst dX11_cheapest_11 li_4 ?_
    refine x_iload_n dX11_cheapest_12 rfl ?_
    refine x_cvi (c_isOne hV (so := 4) (by omega) (by omega) (hB.1 4 (by omega))) kX11_133 dX11_cheapest_13 rfl (Nat.le_of_ble_eq_true rfl) rfl rfl (Nat.le_of_ble_eq_true rfl) (fun ru Mu hq => ?_)
    obtain ⟨rfl, rfl⟩ := hq
    refine x_if_ne 25 dX11_cheapest_16 (by decide) (fun h16 => ?_) (fun h16 => ?_)
    · have qto := bI_ne.mp h16
      obtain ⟨to, hto, rfl⟩ := inr_of qto (by omega)
      refine x_aload_n dX11_cheapest_25 rfl ?_
      refine x_iconst dX11_cheapest_26 li_1 ?_
      refine x_iload_n dX11_cheapest_27 rfl ?_
      refine x_iload_n dX11_cheapest_28 rfl ?_
      refine x_cvi (c_wayOf (d := d) (t := t) (to := to) (kind := 1) hV hB hN hW ht hto (by omega)) kX11_237 dX11_cheapest_29 rfl (Nat.le_of_ble_eq_true rfl) rfl rfl (Nat.le_of_ble_eq_true rfl) (fun ru M2 hq2 => ?_)
      obtain ⟨rfl, I2, rfl, hL1, hL2, hL3⟩ := hq2
      have e65 : (wys V (N t 0) to).length ≤ 65 := ex_65 hV hto (hW t ht).1
      have q0 : wof V N t to 1 ≤ (wys V (N t 0) to).length := pkF_le _
      refine x_istore_n dX11_cheapest_32 (by decide) rfl ?_
      refine x_aload_n dX11_cheapest_33 rfl ?_
      refine x_iload_n dX11_cheapest_34 rfl ?_
      refine x_iconst dX11_cheapest_35 li_m1 ?_
      refine x_ic_ne 44 dX11_cheapest_36 (by decide) (fun h36 => ?_) (fun h36 => ?_)
      · have p1 : wof V N t to 1 ≠ 0 := fun z => h36 ((nO_m1 (by omega)).mpr z)
        refine x_aload_n dX11_cheapest_44 rfl ?_
        refine g_X_ways fX11_59 dX11_cheapest_45 ?_
        refine g_Ways_duties fX11_243 dX11_cheapest_48 ?_
        refine x_iload_n dX11_cheapest_51 rfl ?_
        refine x_top (nO_pos p1) ?_
        refine x_iald dX11_cheapest_52 rfl rfl (Nat.le_of_ble_eq_true rfl) (by first | exact Nat.le_of_ble_eq_true rfl | assumption | omega) ?_
        first | rw [hL2 _ (by omega)] | skip
        refine x_cvi (c_answer) kX11_127 dX11_cheapest_53 rfl (Nat.le_of_ble_eq_true rfl) rfl rfl (Nat.le_of_ble_eq_true rfl) (fun ru Mu hq => ?_)
        obtain ⟨rfl, rfl⟩ := hq
        refine x_iret dX11_cheapest_56 rfl ?_
        refine qA_ok ?_ (sW_scr hL3)
        unfold a_way
        rw [qt, qto, zN_nI (by omega), zN_nI (by omega), Bool.and_self, if_pos rfl]
        first
          | (rw [if_pos ((nO_m1 (by omega)).mp h36)])
          | (rw [if_neg p1]; rfl)
      · refine x_bipush dX11_cheapest_39 lb_m2 ?_
        refine x_goto 53 dX11_cheapest_41 (by decide) ?_
        first | rw [hL2 _ (by omega)] | skip
        refine x_cvi (c_answer) kX11_127 dX11_cheapest_53 rfl (Nat.le_of_ble_eq_true rfl) rfl rfl (Nat.le_of_ble_eq_true rfl) (fun ru Mu hq => ?_)
        obtain ⟨rfl, rfl⟩ := hq
        refine x_iret dX11_cheapest_56 rfl ?_
        refine qA_ok ?_ (sW_scr hL3)
        unfold a_way
        rw [qt, qto, zN_nI (by omega), zN_nI (by omega), Bool.and_self, if_pos rfl]
        first
          | (rw [if_pos ((nO_m1 (by omega)).mp h36)])
          | (rw [if_neg p1]; rfl)
    · refine x_aload_n dX11_cheapest_19 rfl ?_
      refine x_iconst dX11_cheapest_20 li_1 ?_
      refine x_cvi (c_refuse) kX11_102 dX11_cheapest_21 rfl (Nat.le_of_ble_eq_true rfl) rfl rfl (Nat.le_of_ble_eq_true rfl) (fun ru Mu hq => ?_)
      obtain ⟨rfl, rfl⟩ := hq
      refine x_iret dX11_cheapest_24 rfl ?_
      refine qA_no (c := 1) ?_
      unfold a_way
      first
        | (rw [bI_eq.mp h7]; rfl)
        | (rw [bI_eq.mp h16, Bool.and_false]; rfl)
set_option maxRecDepth 100000 in
set_option maxHeartbeats 4000000 in
theorem x_secret_c (hS : SW V N h mk) (hX : XS V N h mk I) {z1 z2 : Int32} : Mt G vX11_secret (d + 6 + 2 + 1 + 1 + 1) (0, 0) [.ref (ad 11 0), .int (z1), .int (z2)] (MM ad nb b r I L) (qA ad nb b r I L (a_way V N 2 z1 z2)) := by
  have hV := hS.1
  obtain ⟨hB, hN, hH, hK⟩ := hX
  have hW := hS.2.1
  have v0 := hV.1
  have v1 := hV.2.1
  have v2 := hV.2.2.1
  have v3 := hV.2.2.2.1
  have v4 := hV.2.2.2.2.1
  have v7 := hV.2.2.2.2.2.2.2.1
  have v9 := hV.2.2.2.2.2.2.2.2.2.1
  have v10 := hV.2.2.2.2.2.2.2.2.2.2.1
  refine x_start (by decide) (Nat.le_of_ble_eq_true rfl) ?_
  refine x_aload_n dX11_secret_0 rfl ?_
  refine x_bipush dX11_secret_1 lb_7 ?_
  refine x_iload_n dX11_secret_3 rfl ?_
  refine x_cvi (c_isOne hV (so := 7) (by omega) (by omega) (hB.1 7 (by omega))) kX11_133 dX11_secret_4 rfl (Nat.le_of_ble_eq_true rfl) rfl rfl (Nat.le_of_ble_eq_true rfl) (fun ru Mu hq => ?_)
  obtain ⟨rfl, rfl⟩ := hq
  refine x_if_eq 19 dX11_secret_7 (by decide) (fun h7 => ?_) (fun h7 => ?_)
  · refine x_aload_n dX11_secret_19 rfl ?_
    refine x_iconst dX11_secret_20 li_1 ?_
    refine x_cvi (c_refuse) kX11_102 dX11_secret_21 rfl (Nat.le_of_ble_eq_true rfl) rfl rfl (Nat.le_of_ble_eq_true rfl) (fun ru Mu hq => ?_)
    obtain ⟨rfl, rfl⟩ := hq
    refine x_iret dX11_secret_24 rfl ?_
    refine qA_no (c := 1) ?_
    unfold a_way
    first
      | (rw [bI_eq.mp h7]; rfl)
      | (rw [bI_eq.mp h16, Bool.and_false]; rfl)
  · have qt := bI_ne.mp h7
    obtain ⟨t, ht, rfl⟩ := inr_of qt (by omega)
    refine x_aload_n dX11_secret_10 rfl ?_
    refine x_iconst dX11_secret_11 li_4 ?_
    refine x_iload_n dX11_secret_12 rfl ?_
    refine x_cvi (c_isOne hV (so := 4) (by omega) (by omega) (hB.1 4 (by omega))) kX11_133 dX11_secret_13 rfl (Nat.le_of_ble_eq_true rfl) rfl rfl (Nat.le_of_ble_eq_true rfl) (fun ru Mu hq => ?_)
    obtain ⟨rfl, rfl⟩ := hq
    refine x_if_ne 25 dX11_secret_16 (by decide) (fun h16 => ?_) (fun h16 => ?_)
    · have qto := bI_ne.mp h16
      obtain ⟨to, hto, rfl⟩ := inr_of qto (by omega)
      refine x_aload_n dX11_secret_25 rfl ?_
      refine x_iconst dX11_secret_26 li_2 ?_
      refine x_iload_n dX11_secret_27 rfl ?_
      refine x_iload_n dX11_secret_28 rfl ?_
      refine x_cvi (c_wayOf (d := d) (t := t) (to := to) (kind := 2) hV hB hN hW ht hto (by omega)) kX11_237 dX11_secret_29 rfl (Nat.le_of_ble_eq_true rfl) rfl rfl (Nat.le_of_ble_eq_true rfl) (fun ru M2 hq2 => ?_)
      obtain ⟨rfl, I2, rfl, hL1, hL2, hL3⟩ := hq2
      have e65 : (wys V (N t 0) to).length ≤ 65 := ex_65 hV hto (hW t ht).1
      have q0 : wof V N t to 2 ≤ (wys V (N t 0) to).length := pkF_le _
      refine x_istore_n dX11_secret_32 (by decide) rfl ?_
      refine x_aload_n dX11_secret_33 rfl ?_
      refine x_iload_n dX11_secret_34 rfl ?_
      refine x_iconst dX11_secret_35 li_m1 ?_
      refine x_ic_ne 44 dX11_secret_36 (by decide) (fun h36 => ?_) (fun h36 => ?_)
      · have p1 : wof V N t to 2 ≠ 0 := fun z => h36 ((nO_m1 (by omega)).mpr z)
        refine x_aload_n dX11_secret_44 rfl ?_
        refine g_X_ways fX11_59 dX11_secret_45 ?_
        refine x_iload_n dX11_secret_48 rfl ?_
        refine x_top (nO_pos p1) ?_
        refine x_cvi (c_hoursOf hV hL1 (W_at (k := wof V N t to 2 - 1) (by omega))) kX11_240 dX11_secret_49 rfl (Nat.le_of_ble_eq_true rfl) rfl rfl (Nat.le_of_ble_eq_true rfl) (fun ru Mu hq => ?_)
        obtain ⟨rfl, rfl⟩ := hq
        refine x_cvi (c_answer) kX11_127 dX11_secret_52 rfl (Nat.le_of_ble_eq_true rfl) rfl rfl (Nat.le_of_ble_eq_true rfl) (fun ru Mu hq => ?_)
        obtain ⟨rfl, rfl⟩ := hq
        refine x_iret dX11_secret_55 rfl ?_
        refine qA_ok ?_ (sW_scr hL3)
        unfold a_way
        rw [qt, qto, zN_nI (by omega), zN_nI (by omega), Bool.and_self, if_pos rfl]
        first
          | (rw [if_pos ((nO_m1 (by omega)).mp h36)])
          | (rw [if_neg p1]; rfl)
      · refine x_bipush dX11_secret_39 lb_m2 ?_
        refine x_goto 52 dX11_secret_41 (by decide) ?_
        refine x_cvi (c_answer) kX11_127 dX11_secret_52 rfl (Nat.le_of_ble_eq_true rfl) rfl rfl (Nat.le_of_ble_eq_true rfl) (fun ru Mu hq => ?_)
        obtain ⟨rfl, rfl⟩ := hq
        refine x_iret dX11_secret_55 rfl ?_
        refine qA_ok ?_ (sW_scr hL3)
        unfold a_way
        rw [qt, qto, zN_nI (by omega), zN_nI (by omega), Bool.and_self, if_pos rfl]
        first
          | (rw [if_pos ((nO_m1 (by omega)).mp h36)])
          | (rw [if_neg p1]; rfl)
    · refine x_aload_n dX11_secret_19 rfl ?_
      refine x_iconst dX11_secret_20 li_1 ?_
      refine x_cvi (c_refuse) kX11_102 dX11_secret_21 rfl (Nat.le_of_ble_eq_true rfl) rfl rfl (Nat.le_of_ble_eq_true rfl) (fun ru Mu hq => ?_)
      obtain ⟨rfl, rfl⟩ := hq
      refine x_iret dX11_secret_24 rfl ?_
      refine qA_no (c := 1) ?_
      unfold a_way
      first
        | (rw [bI_eq.mp h7]; rfl)
        | (rw [bI_eq.mp h16, Bool.and_false]; rfl)
set_option maxRecDepth 100000 in
set_option maxHeartbeats 4000000 in
theorem x_wayAt_c (hS : SW V N h mk) (hX : XS V N h mk I) {z1 z2 z3 z4 : Int32} : Mt G vX11_wayAt (d + 6 + 2 + 1 + 1 + 1) (0, 0) [.ref (ad 11 0), .int (z1), .int (z2), .int (z3), .int (z4)] (MM ad nb b r I L) (qA ad nb b r I L (a_wayAt V N z1 z2 z3 z4)) := by
  have hV := hS.1
  obtain ⟨hB, hN, hH, hK⟩ := hX
  have hW := hS.2.1
  have v0 := hV.1
  have v1 := hV.2.1
  have v2 := hV.2.2.1
  have v3 := hV.2.2.2.1
  have v4 := hV.2.2.2.2.1
  have v7 := hV.2.2.2.2.2.2.2.1
  have v9 := hV.2.2.2.2.2.2.2.2.2.1
  have v10 := hV.2.2.2.2.2.2.2.2.2.2.1
  refine x_start (by decide) (Nat.le_of_ble_eq_true rfl) ?_
  refine x_iload_n dX11_wayAt_0 rfl ?_
  refine x_iconst dX11_wayAt_1 li_0 ?_
  refine x_iconst dX11_wayAt_2 li_2 ?_
  refine x_csi (c_isWithin) kX11_206 dX11_wayAt_3 rfl rfl (Nat.le_of_ble_eq_true rfl) (fun ru Mu hq => ?_)
  obtain ⟨rfl, rfl⟩ := hq
  refine x_if_eq 28 dX11_wayAt_6 (by decide) (fun h6 => ?_) (fun h6 => ?_)
  · refine x_aload_n dX11_wayAt_28 rfl ?_
    refine x_iconst dX11_wayAt_29 li_1 ?_
    refine x_cvi (c_refuse) kX11_102 dX11_wayAt_30 rfl (Nat.le_of_ble_eq_true rfl) rfl rfl (Nat.le_of_ble_eq_true rfl) (fun ru Mu hq => ?_)
    obtain ⟨rfl, rfl⟩ := hq
    refine x_iret dX11_wayAt_33 rfl ?_
    refine qA_no (c := 1) ?_
    unfold a_wayAt
    first
      | (rw [bI_eq.mp h6]; rfl)
      | (rw [bI_eq.mp h16, Bool.false_and, Bool.and_false]; rfl)
      | (rw [bI_eq.mp h25, Bool.and_false, Bool.and_false]; rfl)
  · have qk := bI_ne.mp h6
    obtain ⟨kd, -, hk2, rfl⟩ := wth_of qk (by omega) (by omega)
    refine x_aload_n dX11_wayAt_9 rfl ?_
    refine x_bipush dX11_wayAt_10 lb_7 ?_
    refine x_iload_n dX11_wayAt_12 rfl ?_
    refine x_cvi (c_isOne hV (so := 7) (by omega) (by omega) (hB.1 7 (by omega))) kX11_133 dX11_wayAt_13 rfl (Nat.le_of_ble_eq_true rfl) rfl rfl (Nat.le_of_ble_eq_true rfl) (fun ru Mu hq => ?_)
    obtain ⟨rfl, rfl⟩ := hq
    refine x_if_eq 28 dX11_wayAt_16 (by decide) (fun h16 => ?_) (fun h16 => ?_)
    · refine x_aload_n dX11_wayAt_28 rfl ?_
      refine x_iconst dX11_wayAt_29 li_1 ?_
      refine x_cvi (c_refuse) kX11_102 dX11_wayAt_30 rfl (Nat.le_of_ble_eq_true rfl) rfl rfl (Nat.le_of_ble_eq_true rfl) (fun ru Mu hq => ?_)
      obtain ⟨rfl, rfl⟩ := hq
      refine x_iret dX11_wayAt_33 rfl ?_
      refine qA_no (c := 1) ?_
      unfold a_wayAt
      first
        | (rw [bI_eq.mp h6]; rfl)
        | (rw [bI_eq.mp h16, Bool.false_and, Bool.and_false]; rfl)
        | (rw [bI_eq.mp h25, Bool.and_false, Bool.and_false]; rfl)
    · have qt := bI_ne.mp h16
      obtain ⟨t, ht, rfl⟩ := inr_of qt (by omega)
      refine x_aload_n dX11_wayAt_19 rfl ?_
      refine x_iconst dX11_wayAt_20 li_4 ?_
      refine x_iload_n dX11_wayAt_21 rfl ?_
      refine x_cvi (c_isOne hV (so := 4) (by omega) (by omega) (hB.1 4 (by omega))) kX11_133 dX11_wayAt_22 rfl (Nat.le_of_ble_eq_true rfl) rfl rfl (Nat.le_of_ble_eq_true rfl) (fun ru Mu hq => ?_)
      obtain ⟨rfl, rfl⟩ := hq
      refine x_if_ne 34 dX11_wayAt_25 (by decide) (fun h25 => ?_) (fun h25 => ?_)
      · have qto := bI_ne.mp h25
        obtain ⟨to, hto, rfl⟩ := inr_of qto (by omega)
        refine x_aload_n dX11_wayAt_34 rfl ?_
        refine x_iload_n dX11_wayAt_35 rfl ?_
        refine x_iload_n dX11_wayAt_36 rfl ?_
        refine x_iload_n dX11_wayAt_37 rfl ?_
        refine x_cvi (c_wayOf (d := d) (t := t) (to := to) (kind := kd) hV hB hN hW ht hto (by omega)) kX11_237 dX11_wayAt_38 rfl (Nat.le_of_ble_eq_true rfl) rfl rfl (Nat.le_of_ble_eq_true rfl) (fun ru M2 hq2 => ?_)
        obtain ⟨rfl, I2, rfl, hL1, hL2, hL3⟩ := hq2
        have e65 : (wys V (N t 0) to).length ≤ 65 := ex_65 hV hto (hW t ht).1
        have q0 : wof V N t to kd ≤ (wys V (N t 0) to).length := pkF_le _
        refine x_istore dX11_wayAt_41 (by decide) rfl ?_
        refine x_iload dX11_wayAt_43 rfl ?_
        refine x_iconst dX11_wayAt_45 li_m1 ?_
        refine x_ic_eq 69 dX11_wayAt_46 (by decide) (fun h46 => ?_) (fun h46 => ?_)
        · refine x_aload_n dX11_wayAt_69 rfl ?_
          refine x_iconst dX11_wayAt_70 li_1 ?_
          refine x_cvi (c_refuse) kX11_102 dX11_wayAt_71 rfl (Nat.le_of_ble_eq_true rfl) rfl rfl (Nat.le_of_ble_eq_true rfl) (fun ru Mu hq => ?_)
          obtain ⟨rfl, rfl⟩ := hq
          refine x_iret dX11_wayAt_74 rfl ?_
          refine qA_no' (c := 1) ?_ (sW_scr hL3)
          unfold a_wayAt
          rw [qk, qt, qto, zN_nI (by omega), zN_nI (by omega), zN_nI (by omega), Bool.and_self, Bool.and_self, if_pos rfl]
          first
            | (rw [if_pos ((nO_m1 (by omega)).mp h46)])
            | (rw [if_neg p1, if_neg]; intro z; have z1 := of_decide_eq_true z; first | exact z1.1 h51 | exact z1.2 (Int32.not_lt.mp h66) | exact z1.2 h66)
        · have p1 : wof V N t to kd ≠ 0 := fun z => h46 ((nO_m1 (by omega)).mpr z)
          obtain ⟨g1, g2, g3, g4, g5⟩ := hL1.2.2 _ _ (W_at (k := wof V N t to kd - 1) (by omega))
          refine x_iload dX11_wayAt_49 rfl ?_
          refine x_if_lt 69 dX11_wayAt_51 (by decide) (fun h51 => ?_) (fun h51 => ?_)
          · refine x_aload_n dX11_wayAt_69 rfl ?_
            refine x_iconst dX11_wayAt_70 li_1 ?_
            refine x_cvi (c_refuse) kX11_102 dX11_wayAt_71 rfl (Nat.le_of_ble_eq_true rfl) rfl rfl (Nat.le_of_ble_eq_true rfl) (fun ru Mu hq => ?_)
            obtain ⟨rfl, rfl⟩ := hq
            refine x_iret dX11_wayAt_74 rfl ?_
            refine qA_no' (c := 1) ?_ (sW_scr hL3)
            unfold a_wayAt
            rw [qk, qt, qto, zN_nI (by omega), zN_nI (by omega), zN_nI (by omega), Bool.and_self, Bool.and_self, if_pos rfl]
            first
              | (rw [if_pos ((nO_m1 (by omega)).mp h46)])
              | (rw [if_neg p1, if_neg]; intro z; have z1 := of_decide_eq_true z; first | exact z1.1 h51 | exact z1.2 (Int32.not_lt.mp h66) | exact z1.2 h66)
          · refine x_iload dX11_wayAt_54 rfl ?_
            refine x_aload_n dX11_wayAt_56 rfl ?_
            refine g_X_ways fX11_59 dX11_wayAt_57 ?_
            refine g_Ways_lengths fX11_246 dX11_wayAt_60 ?_
            refine x_iload dX11_wayAt_63 rfl ?_
            refine x_top (nO_pos p1) ?_
            refine x_iald dX11_wayAt_65 rfl rfl (Nat.le_of_ble_eq_true rfl) (by first | exact Nat.le_of_ble_eq_true rfl | assumption | omega) ?_
            rw [g1]
            refine x_ic_lt 75 dX11_wayAt_66 (by decide) (fun h66 => ?_) (fun h66 => ?_)
            · have qi : inr z4 ((wys V (N t 0) to).getD (wof V N t to kd - 1) []).length = true := decide_eq_true ⟨h51, Int32.not_le.mpr h66⟩
              obtain ⟨i, hi, rfl⟩ := inr_of qi (by omega)
              refine x_aload_n dX11_wayAt_75 rfl ?_
              refine x_aload_n dX11_wayAt_76 rfl ?_
              refine g_X_ways fX11_59 dX11_wayAt_77 ?_
              refine g_Ways_stops fX11_249 dX11_wayAt_80 ?_
              refine x_iload dX11_wayAt_83 rfl ?_
              refine x_top (nO_pos p1) ?_
              refine aa_Ways_stops dX11_wayAt_85 rfl (by first | exact Nat.le_of_ble_eq_true rfl | assumption | omega) ?_
              refine x_iload dX11_wayAt_86 rfl ?_
              refine x_iald dX11_wayAt_88 rfl rfl (Nat.lt_of_lt_of_le (by first | assumption | omega | decide) (Nat.le_refl 65)) (by first | exact Nat.le_of_ble_eq_true rfl | assumption | omega) ?_
              rw [(g5 i hi).1]
              refine x_cvi (c_answer) kX11_127 dX11_wayAt_89 rfl (Nat.le_of_ble_eq_true rfl) rfl rfl (Nat.le_of_ble_eq_true rfl) (fun ru Mu hq => ?_)
              obtain ⟨rfl, rfl⟩ := hq
              refine x_iret dX11_wayAt_92 rfl ?_
              refine qA_ok ?_ (sW_scr hL3)
              unfold a_wayAt
              rw [qk, qt, qto, zN_nI (by omega), zN_nI (by omega), zN_nI (by omega), Bool.and_self, Bool.and_self, if_pos rfl]
              rw [if_neg p1, if_pos qi, zN_nI (by omega)]
            · refine x_aload_n dX11_wayAt_69 rfl ?_
              refine x_iconst dX11_wayAt_70 li_1 ?_
              refine x_cvi (c_refuse) kX11_102 dX11_wayAt_71 rfl (Nat.le_of_ble_eq_true rfl) rfl rfl (Nat.le_of_ble_eq_true rfl) (fun ru Mu hq => ?_)
              obtain ⟨rfl, rfl⟩ := hq
              refine x_iret dX11_wayAt_74 rfl ?_
              refine qA_no' (c := 1) ?_ (sW_scr hL3)
              unfold a_wayAt
              rw [qk, qt, qto, zN_nI (by omega), zN_nI (by omega), zN_nI (by omega), Bool.and_self, Bool.and_self, if_pos rfl]
              first
                | (rw [if_pos ((nO_m1 (by omega)).mp h46)])
                | (rw [if_neg p1, if_neg]; intro z; have z1 := of_decide_eq_true z; first | exact z1.1 h51 | exact z1.2 (Int32.not_lt.mp h66) | exact z1.2 h66)
      · refine x_aload_n dX11_wayAt_28 rfl ?_
        refine x_iconst dX11_wayAt_29 li_1 ?_
        refine x_cvi (c_refuse) kX11_102 dX11_wayAt_30 rfl (Nat.le_of_ble_eq_true rfl) rfl rfl (Nat.le_of_ble_eq_true rfl) (fun ru Mu hq => ?_)
        obtain ⟨rfl, rfl⟩ := hq
        refine x_iret dX11_wayAt_33 rfl ?_
        refine qA_no (c := 1) ?_
        unfold a_wayAt
        first
          | (rw [bI_eq.mp h6]; rfl)
          | (rw [bI_eq.mp h16, Bool.false_and, Bool.and_false]; rfl)
          | (rw [bI_eq.mp h25, Bool.and_false, Bool.and_false]; rfl)
set_option maxRecDepth 100000 in
set_option maxHeartbeats 4000000 in
theorem lp_rin (hS : SW V N h mk) (hX : XS V N h mk I) {t c : Nat} (ht : t < V 0 7 0) (kc : ∀ I', Sm sW I I' → X G vX11_rounds (d + 6 + 2 + 1 + 1 + 1) (0, 0) 20 [(0, some (.ref (ad 11 0))), (1, some (.int (nI (c + cnt (rnd V N t) (V 0 4 0))))), (2, some (.int (nI (t + 1))))] [] (MM ad nb b r I' L) (xT G (qA ad nb b r I L (a_rounds V N)))) : ∀ (n : Nat) (k : Nat) (I1 : Nat → Nat → Nat → Int32), V 0 4 0 - k < n → k ≤ V 0 4 0 → Sm sW I I1 → X G vX11_rounds (d + 6 + 2 + 1 + 1 + 1) (0, 0) 36 [(0, some (.ref (ad 11 0))), (1, some (.int (nI (c + cnt (rnd V N t) k)))), (2, some (.int (nI (t)))), (3, some (.int (nI (k))))] [] (MM ad nb b r I1 L) (xT G (qA ad nb b r I L (a_rounds V N))) := by
  have hV := hS.1
  obtain ⟨hB, hN, hH, hK⟩ := hX
  have hW := hS.2.1
  have v0 := hV.1
  have v1 := hV.2.1
  have v2 := hV.2.2.1
  have v3 := hV.2.2.2.1
  have v4 := hV.2.2.2.2.1
  have v7 := hV.2.2.2.2.2.2.2.1
  have v9 := hV.2.2.2.2.2.2.2.2.2.1
  have v10 := hV.2.2.2.2.2.2.2.2.2.2.1
  intro n
  induction n with
  | zero => intro k I1 h0; omega
  | succ n ih =>
    intro k I1 hn hk hS1
    have hB1 : XB V 0 I1 := hB.sm (fun s h1 h2 => hS1 s (by unfold sW; omega))
    have hN1 : XN V N I1 := fun t ht => (hN t ht).to (by rw [hS1 4 (by unfold sW; omega)]) (by rw [hS1 43 (by unfold sW; omega)])
    have e4 : I1 16 0 4 = nI (V 0 4 0) := hB1.1 4 (by omega)
    refine x_iload_n dX11_rounds_36 rfl ?_
    refine x_aload_n dX11_rounds_37 rfl ?_
    refine g_X_told fX11_16 dX11_rounds_38 ?_
    refine g_Border_sizes fX11_124 dX11_rounds_41 (by first | exact Nat.le_of_ble_eq_true rfl | assumption | omega) ?_
    refine x_iconst dX11_rounds_44 li_4 ?_
    refine x_iald dX11_rounds_45 rfl rfl (Nat.lt_of_lt_of_le (by first | assumption | omega | decide) (Nat.le_refl 2)) (by first | exact Nat.le_of_ble_eq_true rfl | assumption | omega) ?_
    rw [e4]
    refine x_icN_ge 67 dX11_rounds_46 (by decide) (by omega) (by omega) (fun h46 => ?_) (fun h46 => ?_)
    · refine x_iincN 1 dX11_rounds_67 li_1 rfl (by decide) rfl ?_
      refine x_goto 20 dX11_rounds_70 (by decide) ?_
      have ek : k = V 0 4 0 := Nat.le_antisymm hk h46
      subst ek
      refine x_ls ?_ (kc I1 hS1)
      exact ⟨rfl, rfl, rfl, trivial⟩
    · refine x_aload_n dX11_rounds_49 rfl ?_
      refine x_iload_n dX11_rounds_50 rfl ?_
      refine x_iload_n dX11_rounds_51 rfl ?_
      refine x_cvi (c_isRound (d := d) (t := t) (to := k) hV hB1 hN1 hW ht (by omega)) kX11_252 dX11_rounds_52 rfl (Nat.le_of_ble_eq_true rfl) rfl rfl (Nat.le_of_ble_eq_true rfl) (fun ru M2 hq2 => ?_)
      obtain ⟨rfl, I2, rfl, hS2⟩ := hq2
      refine x_if_eq 61 dX11_rounds_55 (by decide) (fun h55 => ?_) (fun h55 => ?_)
      · refine x_iincN 1 dX11_rounds_61 li_1 rfl (by decide) rfl ?_
        refine x_goto 36 dX11_rounds_64 (by decide) ?_
        first
          | (have e1 : cnt (rnd V N t) (k + 1) = cnt (rnd V N t) k + 1 := by (rw [cnt, if_pos (bI_ne.mp h55)])
             refine x_ls ?_ (ih (k + 1) I2 (by omega) (by omega) (hS1.tr hS2))
             rw [e1]
             exact ⟨rfl, rfl, rfl, rfl, trivial⟩)
          | (have e1 : cnt (rnd V N t) (k + 1) = cnt (rnd V N t) k := by (have := bI_eq.mp h55; rw [cnt, this]; rfl)
             refine x_ls ?_ (ih (k + 1) I2 (by omega) (by omega) (hS1.tr hS2))
             rw [e1]
             exact ⟨rfl, rfl, rfl, rfl, trivial⟩)
      · refine x_iincN 1 dX11_rounds_58 li_1 rfl (by decide) rfl ?_
        refine x_iincN 1 dX11_rounds_61 li_1 rfl (by decide) rfl ?_
        refine x_goto 36 dX11_rounds_64 (by decide) ?_
        first
          | (have e1 : cnt (rnd V N t) (k + 1) = cnt (rnd V N t) k + 1 := by (rw [cnt, if_pos (bI_ne.mp h55)])
             refine x_ls ?_ (ih (k + 1) I2 (by omega) (by omega) (hS1.tr hS2))
             rw [e1]
             exact ⟨rfl, rfl, rfl, rfl, trivial⟩)
          | (have e1 : cnt (rnd V N t) (k + 1) = cnt (rnd V N t) k := by (have := bI_eq.mp h55; rw [cnt, this]; rfl)
             refine x_ls ?_ (ih (k + 1) I2 (by omega) (by omega) (hS1.tr hS2))
             rw [e1]
             exact ⟨rfl, rfl, rfl, rfl, trivial⟩)
set_option maxRecDepth 100000 in
set_option maxHeartbeats 4000000 in
theorem lp_rout (hS : SW V N h mk) (hX : XS V N h mk I) (p0 : 0 < V 0 0 0) : ∀ (n : Nat) (k : Nat) (I1 : Nat → Nat → Nat → Int32), V 0 7 0 - k < n → k ≤ V 0 7 0 → Sm sW I I1 → X G vX11_rounds (d + 6 + 2 + 1 + 1 + 1) (0, 0) 20 [(0, some (.ref (ad 11 0))), (1, some (.int (nI (sm (fun t => cnt (rnd V N t) (V 0 4 0)) k)))), (2, some (.int (nI (k))))] [] (MM ad nb b r I1 L) (xT G (qA ad nb b r I L (a_rounds V N))) := by
  have hV := hS.1
  obtain ⟨hB, hN, hH, hK⟩ := hX
  have hW := hS.2.1
  have v0 := hV.1
  have v1 := hV.2.1
  have v2 := hV.2.2.1
  have v3 := hV.2.2.2.1
  have v4 := hV.2.2.2.2.1
  have v7 := hV.2.2.2.2.2.2.2.1
  have v9 := hV.2.2.2.2.2.2.2.2.2.1
  have v10 := hV.2.2.2.2.2.2.2.2.2.2.1
  intro n
  induction n with
  | zero => intro k I1 h0; omega
  | succ n ih =>
    intro k I1 hn hk hS1
    have hB1 : XB V 0 I1 := hB.sm (fun s h1 h2 => hS1 s (by unfold sW; omega))
    have hN1 : XN V N I1 := fun t ht => (hN t ht).to (by rw [hS1 4 (by unfold sW; omega)]) (by rw [hS1 43 (by unfold sW; omega)])
    have e7 : I1 16 0 7 = nI (V 0 7 0) := hB1.1 7 (by omega)
    have hX1 : XS V N h mk I1 := XS.sm ⟨hB, hN, hH, hK⟩ (fun s hs => hS1 s (by unfold sW; omega))
    refine x_iload_n dX11_rounds_20 rfl ?_
    refine x_aload_n dX11_rounds_21 rfl ?_
    refine g_X_told fX11_16 dX11_rounds_22 ?_
    refine g_Border_sizes fX11_124 dX11_rounds_25 (by first | exact Nat.le_of_ble_eq_true rfl | assumption | omega) ?_
    refine x_bipush dX11_rounds_28 lb_7 ?_
    refine x_iald dX11_rounds_30 rfl rfl (Nat.lt_of_lt_of_le (by first | assumption | omega | decide) (Nat.le_refl 2)) (by first | exact Nat.le_of_ble_eq_true rfl | assumption | omega) ?_
    rw [e7]
    refine x_icN_ge 73 dX11_rounds_31 (by decide) (by omega) (by omega) (fun h31 => ?_) (fun h31 => ?_)
    · refine x_aload_n dX11_rounds_73 rfl ?_
      refine x_iload_n dX11_rounds_74 rfl ?_
      refine x_cvi (c_answer) kX11_127 dX11_rounds_75 rfl (Nat.le_of_ble_eq_true rfl) rfl rfl (Nat.le_of_ble_eq_true rfl) (fun ru Mu hq => ?_)
      obtain ⟨rfl, rfl⟩ := hq
      refine x_iret dX11_rounds_78 rfl ?_
      have ek : k = V 0 7 0 := Nat.le_antisymm hk h31
      subst ek
      refine qA_ok ?_ (sW_scr hS1)
      unfold a_rounds
      rw [if_pos p0]
    · refine x_iconst dX11_rounds_34 li_0 ?_
      refine x_istore_n dX11_rounds_35 (by decide) rfl ?_
      refine x_ls ?_ (lp_rin (I := I) (c := sm (fun t => cnt (rnd V N t) (V 0 4 0)) k) hS ⟨hB, hN, hH, hK⟩ h31 (fun I' hs => ih (k + 1) I' (by omega) (by omega) hs) (V 0 4 0 + 1) 0 I1 (by omega) (by omega) hS1)
      exact ⟨rfl, rfl, rfl, rfl, trivial⟩
set_option maxRecDepth 100000 in
set_option maxHeartbeats 4000000 in
theorem x_rounds_c (hS : SW V N h mk) (hX : XS V N h mk I) : Mt G vX11_rounds (d + 6 + 2 + 1 + 1 + 1) (0, 0) [.ref (ad 11 0)] (MM ad nb b r I L) (qA ad nb b r I L (a_rounds V N)) := by
  have hV := hS.1
  obtain ⟨hB, hN, hH, hK⟩ := hX
  have hW := hS.2.1
  have v0 := hV.1
  have v1 := hV.2.1
  have v2 := hV.2.2.1
  have v3 := hV.2.2.2.1
  have v4 := hV.2.2.2.2.1
  have v7 := hV.2.2.2.2.2.2.2.1
  have v9 := hV.2.2.2.2.2.2.2.2.2.1
  have v10 := hV.2.2.2.2.2.2.2.2.2.2.1
  refine x_start (by decide) (Nat.le_of_ble_eq_true rfl) ?_
  refine x_aload_n dX11_rounds_0 rfl ?_
  refine g_X_told fX11_16 dX11_rounds_1 ?_
  refine x_cvi (c_stands (V := V) (bd := 0) (by omega) (hB.1 0 (by omega)) v0) kX11_227 dX11_rounds_4 rfl (Nat.le_of_ble_eq_true rfl) rfl rfl (Nat.le_of_ble_eq_true rfl) (fun ru Mu hq => ?_)
  obtain ⟨rfl, rfl⟩ := hq
  refine x_if_ne 16 dX11_rounds_7 (by decide) (fun h7 => ?_) (fun h7 => ?_)
  · have p0 : 0 < V 0 0 0 := of_decide_eq_true (bI_ne.mp h7)
    refine x_iconst dX11_rounds_16 li_0 ?_
    refine x_istore_n dX11_rounds_17 (by decide) rfl ?_
    refine x_iconst dX11_rounds_18 li_0 ?_
    refine x_istore_n dX11_rounds_19 (by decide) rfl ?_
    refine x_ls ?_ (lp_rout hS ⟨hB, hN, hH, hK⟩ p0 (V 0 7 0 + 1) 0 I (by omega) (by omega) Sm.rf)
    exact ⟨rfl, rfl, rfl, trivial⟩
  · refine x_aload_n dX11_rounds_10 rfl ?_
    refine x_iconst dX11_rounds_11 li_1 ?_
    refine x_cvi (c_refuse) kX11_102 dX11_rounds_12 rfl (Nat.le_of_ble_eq_true rfl) rfl rfl (Nat.le_of_ble_eq_true rfl) (fun ru Mu hq => ?_)
    obtain ⟨rfl, rfl⟩ := hq
    refine x_iret dX11_rounds_15 rfl ?_
    refine qA_no (c := 1) ?_
    have p0 := of_decide_eq_false (bI_eq.mp h7)
    unfold a_rounds
    rw [if_neg p0]
set_option maxRecDepth 100000 in
set_option maxHeartbeats 4000000 in
theorem lp_lcv (hS : SW V N h mk) (hX : XS V N h mk I) {t s k0 : Nat} {WW : List (List Nat)} {w : List Nat} (ht : t < V 0 7 0) (hs : s < 6) (hw : WS V WW I) (hk0 : WW[k0]? = some w) : ∀ (n : Nat) (k : Nat) (I1 : Nat → Nat → Nat → Int32), 100 - k < n → k ≤ 100 → k + fst (fun c => decide (dl V (pon N t s c) (V 9 t 0) w w.length = 0)) k (100 - k) = fst (fun c => decide (dl V (pon N t s c) (V 9 t 0) w w.length = 0)) 0 100 → (∀ i, i < 6 → i ≠ s → I1 15 0 i = nI (N t (3 + i))) → Sm (fun s => s = 1 ∨ s = 41 ∨ s = 15) I I1 → X G vX11_leastCover (d + 2 + 1 + 1) (0, 0) 26 [(0, some (.ref (ad 11 0))), (1, some (.int (nI (t)))), (2, some (.int (nI (s)))), (3, some (.int (nI (k0)))), (4, some (.int (nI (k))))] [] (MM ad nb b r I1 L) (xT G (qI (fun rr M' => rr = lcv V N t s w ∧ ∃ I', M' = MM ad nb b r I' L ∧ Sm (fun s => s = 1 ∨ s = 41 ∨ s = 15) I I'))) := by
  have hV := hS.1
  obtain ⟨hB, hN, hH, hK⟩ := hX
  have hW := hS.2.1
  have v0 := hV.1
  have v1 := hV.2.1
  have v2 := hV.2.2.1
  have v3 := hV.2.2.2.1
  have v4 := hV.2.2.2.2.1
  have v7 := hV.2.2.2.2.2.2.2.1
  have v9 := hV.2.2.2.2.2.2.2.2.2.1
  have v10 := hV.2.2.2.2.2.2.2.2.2.2.1
  intro n
  induction n with
  | zero => intro k I1 h0; omega
  | succ n ih =>
    intro k I1 hn hk hf htr hS1
    have hso := (hV.2.2.2.2.2.2.2.2.2.2.2.2.2.2.2.2.2.2.1 t ht).1
    have hSx : Sm (fun s => s = 1 ∨ s = 41 ∨ s = 15) I (xu I1 15 0 s (nI (2 * k))) := Sm.xu hS1 (Or.inr (Or.inr rfl))
    have hB2 : XB V 0 (xu I1 15 0 s (nI (2 * k))) := hB.sm (fun s h1 h2 => hSx s (by omega))
    have hw2 : WS V WW (xu I1 15 0 s (nI (2 * k))) := by
      unfold WS at hw ⊢
      rw [hSx 10 (by omega), hSx 48 (by omega), hSx 50 (by omega), hSx 52 (by omega)]
      exact hw
    refine x_iload dX11_leastCover_26 rfl ?_
    refine x_bipush dX11_leastCover_28 lb_99 ?_
    refine x_icN_gt 76 dX11_leastCover_30 (by decide) (by omega) (by omega) (fun h30 => ?_) (fun h30 => ?_)
    · refine x_bipush dX11_leastCover_76 lb_m2 ?_
      refine x_iret dX11_leastCover_78 rfl ?_
      refine ⟨_, rfl, ?_, _, rfl, hS1⟩
      have hx : fst (fun c => decide (dl V (pon N t s c) (V 9 t 0) w w.length = 0)) 0 100 = 100 := by
        rw [← hf, show 100 - k = 0 by omega, fst_0]
        omega
      unfold lcv fsO
      rw [hx, if_neg (by omega)]
    · refine x_aload_n dX11_leastCover_33 rfl ?_
      refine g_X_trial fX11_88 dX11_leastCover_34 ?_
      refine x_iload_n dX11_leastCover_37 rfl ?_
      refine x_iconst dX11_leastCover_38 li_2 ?_
      refine x_iload dX11_leastCover_39 rfl ?_
      refine x_imulN dX11_leastCover_41 ?_
      refine x_iast dX11_leastCover_42 rfl rfl (Nat.le_of_ble_eq_true rfl) (by first | exact Nat.le_of_ble_eq_true rfl | assumption | omega) ?_
      refine x_aload_n dX11_leastCover_43 rfl ?_
      refine g_X_ways fX11_59 dX11_leastCover_44 ?_
      refine x_iload_n dX11_leastCover_47 rfl ?_
      refine x_aload_n dX11_leastCover_48 rfl ?_
      refine g_X_trial fX11_88 dX11_leastCover_49 ?_
      refine x_aload_n dX11_leastCover_52 rfl ?_
      refine g_X_told fX11_16 dX11_leastCover_53 ?_
      refine g_Border_sort fX11_159 dX11_leastCover_56 (by first | exact Nat.le_of_ble_eq_true rfl | assumption | omega) ?_
      refine x_iload_n dX11_leastCover_59 rfl ?_
      refine x_iald dX11_leastCover_60 rfl rfl (Nat.lt_of_lt_of_le (by first | assumption | omega | decide) (Nat.le_refl 2)) (by first | exact Nat.le_of_ble_eq_true rfl | assumption | omega) ?_
      have eso : xu I1 15 0 s (nI (2 * k)) 23 0 t = nI (V 9 t 0) := (hB2.2.2.2.2.2.1 t ht).1
      rw [eso]
      refine x_cvi (c_dutyAlong (d := d) (h := 15) (j := 0) (f := pon N t s k) (sort := V 9 t 0) hV hB2 hw2 hk0 rfl (by decide) (Nat.le_of_ble_eq_true rfl) (fun i hi => ⟨by rw [xu_at]; unfold pon; by_cases e : i = s <;> simp only [e, if_true, if_false]; exact htr i hi e, by unfold pon; split; omega; exact (hW t ht).2 i hi⟩) hso) kX11_357 dX11_leastCover_61 rfl (Nat.le_of_ble_eq_true rfl) rfl rfl (Nat.le_of_ble_eq_true rfl) (fun ru M2 hq2 => ?_)
      obtain ⟨rfl, I2, rfl, hS2⟩ := hq2
      refine x_if_ne 70 dX11_leastCover_64 (by decide) (fun h64 => ?_) (fun h64 => ?_)
      · refine x_iincN 1 dX11_leastCover_70 li_1 rfl (by decide) rfl ?_
        refine x_goto 26 dX11_leastCover_73 (by decide) ?_
        refine x_ls ?_ (ih (k + 1) I2 (by omega) (by omega) ((fst_f (by omega) (decide_eq_false (fun z => h64 (by rw [z]; rfl)))).trans hf) ?_ (hSx.tr (hS2.wk (fun s h => by omega))))
        · exact ⟨rfl, rfl, rfl, rfl, rfl, trivial⟩
        · intro i hi e
          rw [hS2 15 (by omega), xu_nk e]
          exact htr i hi e
      · refine x_iload dX11_leastCover_67 rfl ?_
        refine x_iret dX11_leastCover_69 rfl ?_
        refine ⟨_, rfl, ?_, _, rfl, hSx.tr (hS2.wk (fun s h => by omega))⟩
        have hx : fst (fun c => decide (dl V (pon N t s c) (V 9 t 0) w w.length = 0)) 0 100 = k := by
          rw [← hf]
          refine fst_t (decide_eq_true ?_)
          have hdl := dl_le (sort := V 9 t 0) (w := w) hV (f := pon N t s k) (fun i hi => by unfold pon; split; omega; exact (hW t ht).2 i hi) w.length
          exact (nI_eq (by have := (hw.2.2 k0 w hk0).2.2.1; omega) (by omega)).mp h64
        unfold lcv fsO
        rw [hx, if_pos (by omega)]
set_option maxRecDepth 100000 in
set_option maxHeartbeats 4000000 in
theorem c_leastCover (hS : SW V N h mk) (hX : XS V N h mk I) {t s k0 : Nat} {WW : List (List Nat)} {w : List Nat} (ht : t < V 0 7 0) (hs : s < 6) (hw : WS V WW I) (hk0 : WW[k0]? = some w) : Mt G vX11_leastCover (d + 2 + 1 + 1) (0, 0) [.ref (ad 11 0), .int (nI (t)), .int (nI (s)), .int (nI (k0))] (MM ad nb b r I L) (qI (fun rr M' => rr = lcv V N t s w ∧ ∃ I', M' = MM ad nb b r I' L ∧ Sm (fun s => s = 1 ∨ s = 41 ∨ s = 15) I I')) := by
  have hV := hS.1
  obtain ⟨hB, hN, hH, hK⟩ := hX
  have hW := hS.2.1
  have v0 := hV.1
  have v1 := hV.2.1
  have v2 := hV.2.2.1
  have v3 := hV.2.2.2.1
  have v4 := hV.2.2.2.2.1
  have v7 := hV.2.2.2.2.2.2.2.1
  have v9 := hV.2.2.2.2.2.2.2.2.2.1
  have v10 := hV.2.2.2.2.2.2.2.2.2.2.1
  refine x_start (by decide) (Nat.le_of_ble_eq_true rfl) ?_
  refine x_aload_n dX11_leastCover_0 rfl ?_
  refine g_X_acts fX11_41 dX11_leastCover_1 ?_
  refine g_Acts_now fX11_155 dX11_leastCover_4 ?_
  refine x_iload_n dX11_leastCover_7 rfl ?_
  refine aa_Acts_now dX11_leastCover_8 rfl (by first | exact Nat.le_of_ble_eq_true rfl | assumption | omega) ?_
  refine g_Person_halves fX11_183 dX11_leastCover_9 (by first | exact Nat.le_of_ble_eq_true rfl | assumption | omega) ?_
  refine x_iconst dX11_leastCover_12 li_0 ?_
  refine x_aload_n dX11_leastCover_13 rfl ?_
  refine g_X_trial fX11_88 dX11_leastCover_14 ?_
  refine x_iconst dX11_leastCover_17 li_0 ?_
  refine x_bipush dX11_leastCover_18 lb_6 ?_
  refine x_copy dX11_leastCover_20 (xm4 212 rfl rfl) rfl rfl rfl rfl rfl (Nat.lt_of_lt_of_le (show t < 4 by omega) (Nat.le_of_ble_eq_true rfl)) (Nat.le_of_ble_eq_true rfl) (by omega) (by omega) (Nat.le_of_ble_eq_true rfl) ?_
  refine x_iconst dX11_leastCover_23 li_0 ?_
  refine x_istore dX11_leastCover_24 (by decide) rfl ?_
  refine x_ls ?_ (lp_lcv hS ⟨hB, hN, hH, hK⟩ ht hs hw hk0 101 0 _ (by omega) (by omega) (by rw [Nat.zero_add, Nat.sub_zero]) ?_ (Sm.xur Sm.rf (Or.inr (Or.inr rfl))))
  · exact ⟨rfl, rfl, rfl, rfl, rfl, trivial⟩
  · intro i hi e
    rw [xur_s, pk_cpy_in (by omega) (by omega)]
    simpa using (hN t ht).2 i hi
set_option maxRecDepth 100000 in
set_option maxHeartbeats 4000000 in
theorem x_cover_c (hS : SW V N h mk) (hX : XS V N h mk I) {z1 z2 z3 : Int32} : Mt G vX11_cover (d + 6 + 2 + 1 + 1 + 1) (0, 0) [.ref (ad 11 0), .int (z1), .int (z2), .int (z3)] (MM ad nb b r I L) (qA ad nb b r I L (a_cover V N z1 z2 z3)) := by
  have hV := hS.1
  obtain ⟨hB, hN, hH, hK⟩ := hX
  have hW := hS.2.1
  have v0 := hV.1
  have v1 := hV.2.1
  have v2 := hV.2.2.1
  have v3 := hV.2.2.2.1
  have v4 := hV.2.2.2.2.1
  have v7 := hV.2.2.2.2.2.2.2.1
  have v9 := hV.2.2.2.2.2.2.2.2.2.1
  have v10 := hV.2.2.2.2.2.2.2.2.2.2.1
  refine x_start (by decide) (Nat.le_of_ble_eq_true rfl) ?_
  refine x_aload_n dX11_cover_0 rfl ?_
  refine x_bipush dX11_cover_1 lb_7 ?_
  refine x_iload_n dX11_cover_3 rfl ?_
  refine x_cvi (c_isOne hV (so := 7) (by omega) (by omega) (hB.1 7 (by omega))) kX11_133 dX11_cover_4 rfl (Nat.le_of_ble_eq_true rfl) rfl rfl (Nat.le_of_ble_eq_true rfl) (fun ru Mu hq => ?_)
  obtain ⟨rfl, rfl⟩ := hq
  refine x_if_eq 41 dX11_cover_7 (by decide) (fun h7 => ?_) (fun h7 => ?_)
  · refine x_aload_n dX11_cover_41 rfl ?_
    refine x_iconst dX11_cover_42 li_1 ?_
    refine x_cvi (c_refuse) kX11_102 dX11_cover_43 rfl (Nat.le_of_ble_eq_true rfl) rfl rfl (Nat.le_of_ble_eq_true rfl) (fun ru Mu hq => ?_)
    obtain ⟨rfl, rfl⟩ := hq
    refine x_iret dX11_cover_46 rfl ?_
    refine qA_no (c := 1) ?_
    unfold a_cover
    first
      | (rw [bI_eq.mp h7]; rfl)
      | (rw [bI_eq.mp h16, Bool.false_and, Bool.and_false]; rfl)
      | (rw [bI_eq.mp h25, Bool.false_and, Bool.and_false, Bool.and_false]; rfl)
      | (rw [zN_nI (j := s) (by omega), decide_eq_false h38, Bool.and_false, Bool.and_false, Bool.and_false]; rfl)
  · have qt := bI_ne.mp h7
    obtain ⟨t, ht, rfl⟩ := inr_of qt (by omega)
    refine x_aload_n dX11_cover_10 rfl ?_
    refine x_iconst dX11_cover_11 li_2 ?_
    refine x_iload_n dX11_cover_12 rfl ?_
    refine x_cvi (c_isOne hV (so := 2) (by omega) (by omega) (hB.1 2 (by omega))) kX11_133 dX11_cover_13 rfl (Nat.le_of_ble_eq_true rfl) rfl rfl (Nat.le_of_ble_eq_true rfl) (fun ru Mu hq => ?_)
    obtain ⟨rfl, rfl⟩ := hq
    refine x_if_eq 41 dX11_cover_16 (by decide) (fun h16 => ?_) (fun h16 => ?_)
    · refine x_aload_n dX11_cover_41 rfl ?_
      refine x_iconst dX11_cover_42 li_1 ?_
      refine x_cvi (c_refuse) kX11_102 dX11_cover_43 rfl (Nat.le_of_ble_eq_true rfl) rfl rfl (Nat.le_of_ble_eq_true rfl) (fun ru Mu hq => ?_)
      obtain ⟨rfl, rfl⟩ := hq
      refine x_iret dX11_cover_46 rfl ?_
      refine qA_no (c := 1) ?_
      unfold a_cover
      first
        | (rw [bI_eq.mp h7]; rfl)
        | (rw [bI_eq.mp h16, Bool.false_and, Bool.and_false]; rfl)
        | (rw [bI_eq.mp h25, Bool.false_and, Bool.and_false, Bool.and_false]; rfl)
        | (rw [zN_nI (j := s) (by omega), decide_eq_false h38, Bool.and_false, Bool.and_false, Bool.and_false]; rfl)
    · have qs := bI_ne.mp h16
      obtain ⟨s, hs, rfl⟩ := inr_of qs (by omega)
      refine x_aload_n dX11_cover_19 rfl ?_
      refine x_iconst dX11_cover_20 li_4 ?_
      refine x_iload_n dX11_cover_21 rfl ?_
      refine x_cvi (c_isOne hV (so := 4) (by omega) (by omega) (hB.1 4 (by omega))) kX11_133 dX11_cover_22 rfl (Nat.le_of_ble_eq_true rfl) rfl rfl (Nat.le_of_ble_eq_true rfl) (fun ru Mu hq => ?_)
      obtain ⟨rfl, rfl⟩ := hq
      refine x_if_eq 41 dX11_cover_25 (by decide) (fun h25 => ?_) (fun h25 => ?_)
      · refine x_aload_n dX11_cover_41 rfl ?_
        refine x_iconst dX11_cover_42 li_1 ?_
        refine x_cvi (c_refuse) kX11_102 dX11_cover_43 rfl (Nat.le_of_ble_eq_true rfl) rfl rfl (Nat.le_of_ble_eq_true rfl) (fun ru Mu hq => ?_)
        obtain ⟨rfl, rfl⟩ := hq
        refine x_iret dX11_cover_46 rfl ?_
        refine qA_no (c := 1) ?_
        unfold a_cover
        first
          | (rw [bI_eq.mp h7]; rfl)
          | (rw [bI_eq.mp h16, Bool.false_and, Bool.and_false]; rfl)
          | (rw [bI_eq.mp h25, Bool.false_and, Bool.and_false, Bool.and_false]; rfl)
          | (rw [zN_nI (j := s) (by omega), decide_eq_false h38, Bool.and_false, Bool.and_false, Bool.and_false]; rfl)
      · have qto := bI_ne.mp h25
        obtain ⟨to, hto, rfl⟩ := inr_of qto (by omega)
        refine x_aload_n dX11_cover_28 rfl ?_
        refine g_X_told fX11_16 dX11_cover_29 ?_
        refine g_Border_smellKind fX11_137 dX11_cover_32 (by first | exact Nat.le_of_ble_eq_true rfl | assumption | omega) ?_
        refine x_iload_n dX11_cover_35 rfl ?_
        refine x_iald dX11_cover_36 rfl rfl (Nat.lt_of_lt_of_le (by first | assumption | omega | decide) (Nat.le_refl 2)) (by first | exact Nat.le_of_ble_eq_true rfl | assumption | omega) ?_
        have hk5 := (hV.2.2.2.2.2.2.2.2.2.2.2.2.2.1 s hs).1
        rw [(hB.2.2.1 s hs).1]
        refine x_iconst dX11_cover_37 li_2 ?_
        refine x_icN_eq 47 dX11_cover_38 (by decide) (by omega) (by omega) (fun h38 => ?_) (fun h38 => ?_)
        · refine x_aload_n dX11_cover_47 rfl ?_
          refine x_iconst dX11_cover_48 li_0 ?_
          refine x_iload_n dX11_cover_49 rfl ?_
          refine x_iload_n dX11_cover_50 rfl ?_
          refine x_cvi (c_wayOf (d := d) (t := t) (to := to) (kind := 0) hV hB hN hW ht hto (by omega)) kX11_237 dX11_cover_51 rfl (Nat.le_of_ble_eq_true rfl) rfl rfl (Nat.le_of_ble_eq_true rfl) (fun ru M2 hq2 => ?_)
          obtain ⟨rfl, I2, rfl, hL1, hL2, hL3⟩ := hq2
          have e65 : (wys V (N t 0) to).length ≤ 65 := ex_65 hV hto (hW t ht).1
          have q0 : wof V N t to 0 ≤ (wys V (N t 0) to).length := pkF_le _
          refine x_istore dX11_cover_54 (by decide) rfl ?_
          refine x_aload_n dX11_cover_56 rfl ?_
          refine x_iload dX11_cover_57 rfl ?_
          refine x_iconst dX11_cover_59 li_m1 ?_
          refine x_ic_ne 68 dX11_cover_60 (by decide) (fun h60 => ?_) (fun h60 => ?_)
          · have p1 : wof V N t to 0 ≠ 0 := fun z => h60 ((nO_m1 (by omega)).mpr z)
            refine x_aload_n dX11_cover_68 rfl ?_
            refine x_iload_n dX11_cover_69 rfl ?_
            refine x_iload_n dX11_cover_70 rfl ?_
            refine x_iload dX11_cover_71 rfl ?_
            refine x_top (nO_pos p1) ?_
            refine x_cvi (c_leastCover (d := d + 6 + 0) (I := I2) (t := t) (s := s) hS (XS.sm ⟨hB, hN, hH, hK⟩ (fun s hs => hL3 s (by unfold sW; omega))) ht (by omega) hL1 (W_at (k := wof V N t to 0 - 1) (by omega))) kX11_255 dX11_cover_73 rfl (Nat.le_of_ble_eq_true rfl) rfl rfl (Nat.le_of_ble_eq_true rfl) (fun ru M3 hq3 => ?_)
            obtain ⟨rfl, I3, rfl, hS3⟩ := hq3
            refine x_cvi (c_answer) kX11_127 dX11_cover_76 rfl (Nat.le_of_ble_eq_true rfl) rfl rfl (Nat.le_of_ble_eq_true rfl) (fun ru Mu hq => ?_)
            obtain ⟨rfl, rfl⟩ := hq
            refine x_iret dX11_cover_79 rfl ?_
            have ea : a_cover V N (nI t) (nI s) (nI to) = (if wof V N t to 0 = 0 then -2 else lcv V N t s ((wys V (N t 0) to).getD (wof V N t to 0 - 1) []), 0) := by
              unfold a_cover
              rw [qt, qs, qto, zN_nI (by omega), zN_nI (by omega), zN_nI (by omega), decide_eq_true h38]
              rfl
            rw [ea]
            first
              | (refine qA_ok ?_ (sW_scr hL3); rw [if_pos ((nO_m1 (by omega)).mp h60)])
              | (refine qA_ok ?_ ((sW_scr hL3).tr (hS3.wk (fun s h => by unfold scr; omega))); rw [if_neg p1])
          · refine x_bipush dX11_cover_63 lb_m2 ?_
            refine x_goto 76 dX11_cover_65 (by decide) ?_
            refine x_cvi (c_answer) kX11_127 dX11_cover_76 rfl (Nat.le_of_ble_eq_true rfl) rfl rfl (Nat.le_of_ble_eq_true rfl) (fun ru Mu hq => ?_)
            obtain ⟨rfl, rfl⟩ := hq
            refine x_iret dX11_cover_79 rfl ?_
            have ea : a_cover V N (nI t) (nI s) (nI to) = (if wof V N t to 0 = 0 then -2 else lcv V N t s ((wys V (N t 0) to).getD (wof V N t to 0 - 1) []), 0) := by
              unfold a_cover
              rw [qt, qs, qto, zN_nI (by omega), zN_nI (by omega), zN_nI (by omega), decide_eq_true h38]
              rfl
            rw [ea]
            first
              | (refine qA_ok ?_ (sW_scr hL3); rw [if_pos ((nO_m1 (by omega)).mp h60)])
              | (refine qA_ok ?_ ((sW_scr hL3).tr (hS3.wk (fun s h => by unfold scr; omega))); rw [if_neg p1])
        · refine x_aload_n dX11_cover_41 rfl ?_
          refine x_iconst dX11_cover_42 li_1 ?_
          refine x_cvi (c_refuse) kX11_102 dX11_cover_43 rfl (Nat.le_of_ble_eq_true rfl) rfl rfl (Nat.le_of_ble_eq_true rfl) (fun ru Mu hq => ?_)
          obtain ⟨rfl, rfl⟩ := hq
          refine x_iret dX11_cover_46 rfl ?_
          refine qA_no (c := 1) ?_
          unfold a_cover
          first
            | (rw [bI_eq.mp h7]; rfl)
            | (rw [bI_eq.mp h16, Bool.false_and, Bool.and_false]; rfl)
            | (rw [bI_eq.mp h25, Bool.false_and, Bool.and_false, Bool.and_false]; rfl)
            | (rw [zN_nI (j := s) (by omega), decide_eq_false h38, Bool.and_false, Bool.and_false, Bool.and_false]; rfl)
set_option maxRecDepth 100000 in
set_option maxHeartbeats 4000000 in
theorem c_whyNoTrace (hV : VW V) (hB : XB V 0 I) : Mt G vX11_whyNoTrace (d + 1) (0, 0) [.ref (ad 11 0)] (MM ad nb b r I L) (qE (nI (wnt V)) (MM ad nb b r I L)) := by
  have v0 := hV.1
  have v1 := hV.2.1
  have v2 := hV.2.2.1
  have v3 := hV.2.2.2.1
  have v4 := hV.2.2.2.2.1
  have v7 := hV.2.2.2.2.2.2.2.1
  have v9 := hV.2.2.2.2.2.2.2.2.2.1
  have v10 := hV.2.2.2.2.2.2.2.2.2.2.1
  refine x_start (by decide) (Nat.le_of_ble_eq_true rfl) ?_
  refine x_aload_n dX11_whyNoTrace_0 rfl ?_
  refine g_X_told fX11_16 dX11_whyNoTrace_1 ?_
  refine x_cvi (c_stands (V := V) (bd := 0) (by omega) (hB.1 0 (by omega)) v0) kX11_227 dX11_whyNoTrace_4 rfl (Nat.le_of_ble_eq_true rfl) rfl rfl (Nat.le_of_ble_eq_true rfl) (fun ru Mu hq => ?_)
  obtain ⟨rfl, rfl⟩ := hq
  refine x_if_ne 12 dX11_whyNoTrace_7 (by decide) (fun h7 => ?_) (fun h7 => ?_)
  · refine x_aload_n dX11_whyNoTrace_12 rfl ?_
    refine g_X_told fX11_16 dX11_whyNoTrace_13 ?_
    refine g_Border_sizes fX11_124 dX11_whyNoTrace_16 (by first | exact Nat.le_of_ble_eq_true rfl | assumption | omega) ?_
    refine x_bipush dX11_whyNoTrace_19 lb_10 ?_
    refine x_iald dX11_whyNoTrace_21 rfl rfl (Nat.lt_of_lt_of_le (by first | assumption | omega | decide) (Nat.le_refl 2)) (by first | exact Nat.le_of_ble_eq_true rfl | assumption | omega) ?_
    rw [hB.1 10 (by omega)]
    refine x_ifN_ne 30 dX11_whyNoTrace_22 (by decide) (by omega) (fun h22 => ?_) (fun h22 => ?_)
    · refine x_iconst dX11_whyNoTrace_30 li_0 ?_
      refine x_iret dX11_whyNoTrace_31 rfl ?_
      refine ⟨_, rfl, ?_, rfl⟩
      unfold wnt
      rw [if_pos (of_decide_eq_true (bI_ne.mp h7))]
      first | rw [if_pos (by omega)] | rw [if_neg (by omega)]
    · refine x_bipush dX11_whyNoTrace_25 lb_6 ?_
      refine x_goto 31 dX11_whyNoTrace_27 (by decide) ?_
      refine x_iret dX11_whyNoTrace_31 rfl ?_
      refine ⟨_, rfl, ?_, rfl⟩
      unfold wnt
      rw [if_pos (of_decide_eq_true (bI_ne.mp h7))]
      first | rw [if_pos (by omega)] | rw [if_neg (by omega)]
  · refine x_iconst dX11_whyNoTrace_10 li_1 ?_
    refine x_iret dX11_whyNoTrace_11 rfl ?_
    refine ⟨_, rfl, ?_, rfl⟩
    unfold wnt
    rw [if_neg (of_decide_eq_false (bI_eq.mp h7))]
set_option maxRecDepth 100000 in
set_option maxHeartbeats 4000000 in
theorem x_been_c (hS : SW V N h mk) (hX : XS V N h mk I) : Mt G vX11_been (d + 3 + 3 + 1 + 1) (0, 0) [.ref (ad 11 0)] (MM ad nb b r I L) (qA ad nb b r I L (a_been V)) := by
  have hV := hS.1
  obtain ⟨hB, hN, hH, hK⟩ := hX
  have hW := hS.2.1
  have v0 := hV.1
  have v1 := hV.2.1
  have v2 := hV.2.2.1
  have v3 := hV.2.2.2.1
  have v4 := hV.2.2.2.2.1
  have v7 := hV.2.2.2.2.2.2.2.1
  have v9 := hV.2.2.2.2.2.2.2.2.2.1
  have v10 := hV.2.2.2.2.2.2.2.2.2.2.1
  have hwn : wnt V ≤ 6 := by unfold wnt; split; split; omega; omega; omega
  refine x_start (by decide) (Nat.le_of_ble_eq_true rfl) ?_
  refine x_aload_n dX11_been_0 rfl ?_
  refine x_cvi (c_whyNoTrace (d := d + 3 + 3) hV hB) kX11_258 dX11_been_1 rfl (Nat.le_of_ble_eq_true rfl) rfl rfl (Nat.le_of_ble_eq_true rfl) (fun ru Mu hq => ?_)
  obtain ⟨rfl, rfl⟩ := hq
  refine x_istore_n dX11_been_4 (by decide) rfl ?_
  refine x_iload_n dX11_been_5 rfl ?_
  refine x_ifN_eq 15 dX11_been_6 (by decide) (by omega) (fun h6 => ?_) (fun h6 => ?_)
  · refine x_aload_n dX11_been_15 rfl ?_
    refine g_X_trace fX11_66 dX11_been_16 ?_
    refine x_cvv (c_tsearch (d := d) hV hB (wnt_0 h6)) kX11_261 dX11_been_19 rfl (Nat.le_of_ble_eq_true rfl) rfl rfl (Nat.le_of_ble_eq_true rfl) (fun M2 hq2 => ?_)
    obtain ⟨I2, rfl, hT2, hS2⟩ := hq2
    refine x_aload_n dX11_been_22 rfl ?_
    refine x_aload_n dX11_been_23 rfl ?_
    refine g_X_trace fX11_66 dX11_been_24 ?_
    refine g_Trace_rows fX11_264 dX11_been_27 ?_
    rw [hT2.1]
    refine x_cvi (c_answer) kX11_127 dX11_been_30 rfl (Nat.le_of_ble_eq_true rfl) rfl rfl (Nat.le_of_ble_eq_true rfl) (fun ru Mu hq => ?_)
    obtain ⟨rfl, rfl⟩ := hq
    refine x_iret dX11_been_33 rfl ?_
    refine qA_ok ?_ (sT_scr hS2)
    unfold a_been
    rw [if_pos (by omega)]
  · refine x_aload_n dX11_been_9 rfl ?_
    refine x_iload_n dX11_been_10 rfl ?_
    refine x_cvi (c_refuse) kX11_102 dX11_been_11 rfl (Nat.le_of_ble_eq_true rfl) rfl rfl (Nat.le_of_ble_eq_true rfl) (fun ru Mu hq => ?_)
    obtain ⟨rfl, rfl⟩ := hq
    refine x_iret dX11_been_14 rfl ?_
    refine qA_no (c := wnt V) ?_
    unfold a_been
    rw [if_neg (by omega)]
set_option maxRecDepth 100000 in
set_option maxHeartbeats 4000000 in
theorem x_could_c (hS : SW V N h mk) (hX : XS V N h mk I) : Mt G vX11_could (d + 3 + 3 + 1 + 1) (0, 0) [.ref (ad 11 0)] (MM ad nb b r I L) (qA ad nb b r I L (a_could V)) := by
  have hV := hS.1
  obtain ⟨hB, hN, hH, hK⟩ := hX
  have hW := hS.2.1
  have v0 := hV.1
  have v1 := hV.2.1
  have v2 := hV.2.2.1
  have v3 := hV.2.2.2.1
  have v4 := hV.2.2.2.2.1
  have v7 := hV.2.2.2.2.2.2.2.1
  have v9 := hV.2.2.2.2.2.2.2.2.2.1
  have v10 := hV.2.2.2.2.2.2.2.2.2.2.1
  have hwn : wnt V ≤ 6 := by unfold wnt; split; split; omega; omega; omega
  refine x_start (by decide) (Nat.le_of_ble_eq_true rfl) ?_
  refine x_aload_n dX11_could_0 rfl ?_
  refine x_cvi (c_whyNoTrace (d := d + 3 + 3) hV hB) kX11_258 dX11_could_1 rfl (Nat.le_of_ble_eq_true rfl) rfl rfl (Nat.le_of_ble_eq_true rfl) (fun ru Mu hq => ?_)
  obtain ⟨rfl, rfl⟩ := hq
  refine x_istore_n dX11_could_4 (by decide) rfl ?_
  refine x_iload_n dX11_could_5 rfl ?_
  refine x_ifN_eq 15 dX11_could_6 (by decide) (by omega) (fun h6 => ?_) (fun h6 => ?_)
  · refine x_aload_n dX11_could_15 rfl ?_
    refine g_X_trace fX11_66 dX11_could_16 ?_
    refine x_cvv (c_tsearch (d := d) hV hB (wnt_0 h6)) kX11_261 dX11_could_19 rfl (Nat.le_of_ble_eq_true rfl) rfl rfl (Nat.le_of_ble_eq_true rfl) (fun M2 hq2 => ?_)
    obtain ⟨I2, rfl, hT2, hS2⟩ := hq2
    refine x_aload_n dX11_could_22 rfl ?_
    refine x_aload_n dX11_could_23 rfl ?_
    refine g_X_trace fX11_66 dX11_could_24 ?_
    refine g_Trace_inSome fX11_267 dX11_could_27 ?_
    rw [hT2.2.1]
    refine x_cvi (c_answer) kX11_127 dX11_could_30 rfl (Nat.le_of_ble_eq_true rfl) rfl rfl (Nat.le_of_ble_eq_true rfl) (fun ru Mu hq => ?_)
    obtain ⟨rfl, rfl⟩ := hq
    refine x_iret dX11_could_33 rfl ?_
    refine qA_ok ?_ (sT_scr hS2)
    unfold a_could
    rw [if_pos (by omega)]
  · refine x_aload_n dX11_could_9 rfl ?_
    refine x_iload_n dX11_could_10 rfl ?_
    refine x_cvi (c_refuse) kX11_102 dX11_could_11 rfl (Nat.le_of_ble_eq_true rfl) rfl rfl (Nat.le_of_ble_eq_true rfl) (fun ru Mu hq => ?_)
    obtain ⟨rfl, rfl⟩ := hq
    refine x_iret dX11_could_14 rfl ?_
    refine qA_no (c := wnt V) ?_
    unfold a_could
    rw [if_neg (by omega)]
set_option maxRecDepth 100000 in
set_option maxHeartbeats 4000000 in
theorem x_surely_c (hS : SW V N h mk) (hX : XS V N h mk I) : Mt G vX11_surely (d + 3 + 3 + 1 + 1) (0, 0) [.ref (ad 11 0)] (MM ad nb b r I L) (qA ad nb b r I L (a_surely V)) := by
  have hV := hS.1
  obtain ⟨hB, hN, hH, hK⟩ := hX
  have hW := hS.2.1
  have v0 := hV.1
  have v1 := hV.2.1
  have v2 := hV.2.2.1
  have v3 := hV.2.2.2.1
  have v4 := hV.2.2.2.2.1
  have v7 := hV.2.2.2.2.2.2.2.1
  have v9 := hV.2.2.2.2.2.2.2.2.2.1
  have v10 := hV.2.2.2.2.2.2.2.2.2.2.1
  have hwn : wnt V ≤ 6 := by unfold wnt; split; split; omega; omega; omega
  refine x_start (by decide) (Nat.le_of_ble_eq_true rfl) ?_
  refine x_aload_n dX11_surely_0 rfl ?_
  refine x_cvi (c_whyNoTrace (d := d + 3 + 3) hV hB) kX11_258 dX11_surely_1 rfl (Nat.le_of_ble_eq_true rfl) rfl rfl (Nat.le_of_ble_eq_true rfl) (fun ru Mu hq => ?_)
  obtain ⟨rfl, rfl⟩ := hq
  refine x_istore_n dX11_surely_4 (by decide) rfl ?_
  refine x_iload_n dX11_surely_5 rfl ?_
  refine x_ifN_eq 15 dX11_surely_6 (by decide) (by omega) (fun h6 => ?_) (fun h6 => ?_)
  · refine x_aload_n dX11_surely_15 rfl ?_
    refine g_X_trace fX11_66 dX11_surely_16 ?_
    refine x_cvv (c_tsearch (d := d) hV hB (wnt_0 h6)) kX11_261 dX11_surely_19 rfl (Nat.le_of_ble_eq_true rfl) rfl rfl (Nat.le_of_ble_eq_true rfl) (fun M2 hq2 => ?_)
    obtain ⟨I2, rfl, hT2, hS2⟩ := hq2
    refine x_aload_n dX11_surely_22 rfl ?_
    refine x_aload_n dX11_surely_23 rfl ?_
    refine g_X_trace fX11_66 dX11_surely_24 ?_
    refine g_Trace_rows fX11_264 dX11_surely_27 ?_
    rw [hT2.1]
    refine x_if_ne 37 dX11_surely_30 (by decide) (fun h30 => ?_) (fun h30 => ?_)
    · refine x_aload_n dX11_surely_37 rfl ?_
      refine g_X_trace fX11_66 dX11_surely_38 ?_
      refine g_Trace_inAll fX11_270 dX11_surely_41 ?_
      first | rw [hT2.2.2.1] | skip
      refine x_cvi (c_answer) kX11_127 dX11_surely_44 rfl (Nat.le_of_ble_eq_true rfl) rfl rfl (Nat.le_of_ble_eq_true rfl) (fun ru Mu hq => ?_)
      obtain ⟨rfl, rfl⟩ := hq
      refine x_iret dX11_surely_47 rfl ?_
      refine qA_ok ?_ (sT_scr hS2)
      unfold a_surely
      rw [if_pos (by omega)]
      first | rw [if_pos h30] | rw [if_neg h30]
      try rfl
    · refine x_iconst dX11_surely_33 li_0 ?_
      refine x_goto 44 dX11_surely_34 (by decide) ?_
      first | rw [hT2.2.2.1] | skip
      refine x_cvi (c_answer) kX11_127 dX11_surely_44 rfl (Nat.le_of_ble_eq_true rfl) rfl rfl (Nat.le_of_ble_eq_true rfl) (fun ru Mu hq => ?_)
      obtain ⟨rfl, rfl⟩ := hq
      refine x_iret dX11_surely_47 rfl ?_
      refine qA_ok ?_ (sT_scr hS2)
      unfold a_surely
      rw [if_pos (by omega)]
      first | rw [if_pos h30] | rw [if_neg h30]
      try rfl
  · refine x_aload_n dX11_surely_9 rfl ?_
    refine x_iload_n dX11_surely_10 rfl ?_
    refine x_cvi (c_refuse) kX11_102 dX11_surely_11 rfl (Nat.le_of_ble_eq_true rfl) rfl rfl (Nat.le_of_ble_eq_true rfl) (fun ru Mu hq => ?_)
    obtain ⟨rfl, rfl⟩ := hq
    refine x_iret dX11_surely_14 rfl ?_
    refine qA_no (c := wnt V) ?_
    unfold a_surely
    rw [if_neg (by omega)]
set_option maxRecDepth 100000 in
set_option maxHeartbeats 4000000 in
theorem x_beenAt_c (hS : SW V N h mk) (hX : XS V N h mk I) {z1 : Int32} : Mt G vX11_beenAt (d + 3 + 3 + 1 + 1) (0, 0) [.ref (ad 11 0), .int (z1)] (MM ad nb b r I L) (qA ad nb b r I L (a_beenAt V z1)) := by
  have hV := hS.1
  obtain ⟨hB, hN, hH, hK⟩ := hX
  have hW := hS.2.1
  have v0 := hV.1
  have v1 := hV.2.1
  have v2 := hV.2.2.1
  have v3 := hV.2.2.2.1
  have v4 := hV.2.2.2.2.1
  have v7 := hV.2.2.2.2.2.2.2.1
  have v9 := hV.2.2.2.2.2.2.2.2.2.1
  have v10 := hV.2.2.2.2.2.2.2.2.2.2.1
  have hwn : wnt V ≤ 6 := by unfold wnt; split; split; omega; omega; omega
  refine x_start (by decide) (Nat.le_of_ble_eq_true rfl) ?_
  refine x_aload_n dX11_beenAt_0 rfl ?_
  refine x_cvi (c_whyNoTrace (d := d + 3 + 3) hV hB) kX11_258 dX11_beenAt_1 rfl (Nat.le_of_ble_eq_true rfl) rfl rfl (Nat.le_of_ble_eq_true rfl) (fun ru Mu hq => ?_)
  obtain ⟨rfl, rfl⟩ := hq
  refine x_istore_n dX11_beenAt_4 (by decide) rfl ?_
  refine x_iload_n dX11_beenAt_5 rfl ?_
  refine x_ifN_eq 15 dX11_beenAt_6 (by decide) (by omega) (fun h6 => ?_) (fun h6 => ?_)
  · refine x_iload_n dX11_beenAt_15 rfl ?_
    refine x_iconst dX11_beenAt_16 li_0 ?_
    refine x_iconst dX11_beenAt_17 li_3 ?_
    refine x_csi (c_isWithin) kX11_206 dX11_beenAt_18 rfl rfl (Nat.le_of_ble_eq_true rfl) (fun ru Mu hq => ?_)
    obtain ⟨rfl, rfl⟩ := hq
    refine x_if_ne 30 dX11_beenAt_21 (by decide) (fun h21 => ?_) (fun h21 => ?_)
    · have qi := bI_ne.mp h21
      obtain ⟨i, -, hi, rfl⟩ := wth_of qi (by omega) (by omega)
      refine x_aload_n dX11_beenAt_30 rfl ?_
      refine g_X_trace fX11_66 dX11_beenAt_31 ?_
      refine x_cvv (c_tsearch (d := d) hV hB (wnt_0 h6)) kX11_261 dX11_beenAt_34 rfl (Nat.le_of_ble_eq_true rfl) rfl rfl (Nat.le_of_ble_eq_true rfl) (fun M2 hq2 => ?_)
      obtain ⟨I2, rfl, hT2, hS2⟩ := hq2
      refine x_aload_n dX11_beenAt_37 rfl ?_
      refine x_iload_n dX11_beenAt_38 rfl ?_
      refine x_aload_n dX11_beenAt_39 rfl ?_
      refine g_X_trace fX11_66 dX11_beenAt_40 ?_
      refine g_Trace_firstLength fX11_273 dX11_beenAt_43 ?_
      have h4 := hT2.2.2.2.2.1
      rw [hT2.2.2.2.1]
      refine x_icN_ge 61 dX11_beenAt_46 (by decide) (by omega) (by omega) (fun h46 => ?_) (fun h46 => ?_)
      · refine x_bipush dX11_beenAt_61 lb_m2 ?_
        refine x_cvi (c_answer) kX11_127 dX11_beenAt_63 rfl (Nat.le_of_ble_eq_true rfl) rfl rfl (Nat.le_of_ble_eq_true rfl) (fun ru Mu hq => ?_)
        obtain ⟨rfl, rfl⟩ := hq
        refine x_iret dX11_beenAt_66 rfl ?_
        refine qA_ok ?_ (sT_scr hS2)
        unfold a_beenAt
        rw [if_pos (by omega)]
        rw [qi, if_pos rfl, zN_nI (by omega)]
        first | rw [if_pos h46] | rw [if_neg (by omega)]
      · refine x_aload_n dX11_beenAt_49 rfl ?_
        refine g_X_trace fX11_66 dX11_beenAt_50 ?_
        refine g_Trace_first fX11_276 dX11_beenAt_53 ?_
        refine x_iload_n dX11_beenAt_56 rfl ?_
        refine x_iald dX11_beenAt_57 rfl rfl (Nat.le_of_ble_eq_true rfl) (by first | exact Nat.le_of_ble_eq_true rfl | assumption | omega) ?_
        rw [hT2.2.2.2.2.2 i h46]
        refine x_goto 63 dX11_beenAt_58 (by decide) ?_
        refine x_cvi (c_answer) kX11_127 dX11_beenAt_63 rfl (Nat.le_of_ble_eq_true rfl) rfl rfl (Nat.le_of_ble_eq_true rfl) (fun ru Mu hq => ?_)
        obtain ⟨rfl, rfl⟩ := hq
        refine x_iret dX11_beenAt_66 rfl ?_
        refine qA_ok ?_ (sT_scr hS2)
        unfold a_beenAt
        rw [if_pos (by omega)]
        rw [qi, if_pos rfl, zN_nI (by omega)]
        first | rw [if_pos h46] | rw [if_neg (by omega)]
    · refine x_aload_n dX11_beenAt_24 rfl ?_
      refine x_iconst dX11_beenAt_25 li_1 ?_
      refine x_cvi (c_refuse) kX11_102 dX11_beenAt_26 rfl (Nat.le_of_ble_eq_true rfl) rfl rfl (Nat.le_of_ble_eq_true rfl) (fun ru Mu hq => ?_)
      obtain ⟨rfl, rfl⟩ := hq
      refine x_iret dX11_beenAt_29 rfl ?_
      refine qA_no (c := 1) ?_
      unfold a_beenAt
      rw [if_pos (by omega), bI_eq.mp h21]
      rfl
  · refine x_aload_n dX11_beenAt_9 rfl ?_
    refine x_iload_n dX11_beenAt_10 rfl ?_
    refine x_cvi (c_refuse) kX11_102 dX11_beenAt_11 rfl (Nat.le_of_ble_eq_true rfl) rfl rfl (Nat.le_of_ble_eq_true rfl) (fun ru Mu hq => ?_)
    obtain ⟨rfl, rfl⟩ := hq
    refine x_iret dX11_beenAt_14 rfl ?_
    refine qA_no (c := wnt V) ?_
    unfold a_beenAt
    rw [if_neg (by omega)]
end Xp3
