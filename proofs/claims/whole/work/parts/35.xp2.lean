section Xp2
variable {G : xG} {ad : Nat → Nat → Nat} {nb : Nat} {b r : Option Nat} {L : Nat → Nat → Nat → Int64} {V : sV} {I : Nat → Nat → Nat → Int32} {d : Nat}
variable {N : sN} {h : sH} {mk : List sN}

theorem qA_ok {z : Int32} {a : Int32 × Nat} {I' : Nat → Nat → Nat → Int32} (h : a = (z, 0)) (hs : Sm scr I I') : qA ad nb b r I L a (some (.int z)) (MM ad nb b r (xu I' 11 0 12 (nI 0)) L) := by
  subst h
  exact ⟨_, rfl, rfl, _, rfl, KX.of hs⟩
theorem qA_no' {c : Nat} {a : Int32 × Nat} {I' : Nat → Nat → Nat → Int32} (h : a = (-1, c)) (hs : Sm scr I I') : qA ad nb b r I L a (some (.int (-1))) (MM ad nb b r (xu I' 11 0 12 (nI c)) L) := by
  subst h
  exact ⟨_, rfl, rfl, _, rfl, KX.of hs⟩
/-- the least from k on, of n, of which P; or k + n -/
def fst (P : Nat → Bool) (k n : Nat) : Nat := if hn : n = 0 then 0 else if P k = true then 0 else fst P (k + 1) (n - 1) + 1
termination_by n
decreasing_by omega
theorem fst_0 {P : Nat → Bool} {k : Nat} : fst P k 0 = 0 := by rw [fst, dif_pos rfl]
theorem fst_t {P : Nat → Bool} {k n : Nat} (h : P k = true) : k + fst P k n = k := by
  rw [fst, if_pos h]
  split <;> rfl
theorem fst_f {P : Nat → Bool} {k n : Nat} (hn : k < n) (h : P k = false) : k + 1 + fst P (k + 1) (n - (k + 1)) = k + fst P k (n - k) := by
  rw [fst.eq_def P k (n - k), dif_neg (by omega), if_neg (by rw [h]; simp), show n - (k + 1) = n - k - 1 by omega]
  omega
theorem fst_le {P : Nat → Bool} : ∀ (n k : Nat), fst P k n ≤ n
  | 0, k => by rw [fst_0]; omega
  | n + 1, k => by
    have := fst_le (P := P) n (k + 1)
    rw [fst, dif_neg (by omega)]
    split
    · omega
    · rw [Nat.add_sub_cancel]; omega
/-- the same, -2 for none -/
def fsO (P : Nat → Bool) (n : Nat) : Int32 := if fst P 0 n < n then nI (fst P 0 n) else -2
def a_gone (V : sV) (N : sN) (t z : Int32) : Int32 × Nat := if (inr t (V 0 7 0) && inr z (V 0 2 0)) = true then (nI (fst (fun H => decide (str V (fun s => N (zN t) (3 + s)) H 0 (zN z) = 0)) 0 200), 0) else (-1, 1)
def a_mustWait (V : sV) (N : sN) (t z : Int32) : Int32 × Nat := if (inr t (V 0 7 0) && inr z (V 0 4 0)) = true then (nI (fst (fun H => decide (dbh V N (zN t) (zN z) H = 0)) 0 200), 0) else (-1, 1)
/-- a walk: is it one, its whole DUTY, the DUTY of a stop -/
def wk1 (V : sV) (N : sN) (t : Nat) : Bool := cw V (N t 0) t (V 13 t 0)
def wk2 (V : sV) (N : sN) (t : Nat) : Nat := wt V (fun s => N t (3 + s)) (fun p => V 6 p 0) (N t 0) t (V 13 t 0)
def wk3 (V : sV) (N : sN) (t i : Nat) : Nat := wd V (fun s => N t (3 + s)) (fun p => V 6 p 0) (N t 0) t i
def a_walked (V : sV) (N : sN) (t : Int32) : Int32 × Nat := if inr t (V 0 7 0) = true then (if V 13 (zN t) 0 = 0 then (-1, 6) else (if wk1 V N (zN t) = true then nI (wk2 V N (zN t)) else -2, 0)) else (-1, 1)
def a_walkedAt (V : sV) (N : sN) (t i : Int32) : Int32 × Nat := if inr t (V 0 7 0) = true then (if V 13 (zN t) 0 = 0 then (-1, 6) else if inr i (V 13 (zN t) 0) = true then (if wk1 V N (zN t) = true then (nI (wk3 V N (zN t) (zN i)), 0) else (-1, 5)) else (-1, 1)) else (-1, 1)
def a_judge (V : sV) (N : sN) : Int32 × Nat := if 0 < V 0 0 0 then (fsO (fun t => decide (0 < V 13 t 0) && !wk1 V N t) (V 0 7 0), 0) else (-1, 1)
def wrg (V : sV) (N : sN) (i : Nat) : Bool := !(decide (0 < V 13 (V 15 i 0) 0) && (wk1 V N (V 15 i 0) && decide (wk2 V N (V 15 i 0) = V 16 i 0)))
def a_wrongly (V : sV) (N : sN) : Int32 × Nat := if 0 < V 0 0 0 then (fsO (wrg V N) (V 0 9 0), 0) else (-1, 1)
theorem nz6 (hV : VW V) (hB : XB V 0 I) : NZ V (fun p => V 6 p 0) 22 0 I := fun p hp => ⟨(hB.2.2.2.2.1 p hp).2, (hV.2.2.2.2.2.2.2.2.2.2.2.2.2.2.2.1 p hp).2⟩
theorem wk2_le (hV : VW V) (hW : NW V N) {t : Nat} (ht : t < V 0 7 0) : wk2 V N t < 2 ^ 30 := by
  have hwl := hV.2.2.2.2.2.2.2.2.2.2.2.2.2.2.2.2.2.2.2.2.1 t
  have : ∀ n, n ≤ 5 → wt V (fun s => N t (3 + s)) (fun p => V 6 p 0) (N t 0) t n ≤ 100000 * n := by
    intro n hn
    induction n with
    | zero => simp [wt]
    | succ n ih =>
      have h1 := ih (by omega)
      have h2 : wd V (fun s => N t (3 + s)) (fun p => V 6 p 0) (N t 0) t n ≤ 100000 := by
        unfold wd dtn
        split
        · omega
        · exact Nat.le_trans (tol_le (g := str V (fun s => N t (3 + s)) _ 0) hV (fun s hs => str_le ((hW t ht).2 s hs))) (by omega)
      unfold wt
      omega
  have := this (V 13 t 0) hwl
  unfold wk2
  omega

set_option maxRecDepth 100000 in
set_option maxHeartbeats 4000000 in
theorem lp_gone (hS : SW V N h mk) (hX : XS V N h mk I) {t s : Nat} (ht : t < V 0 7 0) (hs : s < V 0 2 0) : ∀ (n : Nat) (k : Nat) (I1 : Nat → Nat → Nat → Int32), 200 - k < n → k ≤ 200 → k + fst (fun H => decide (str V (fun s => N t (3 + s)) H 0 s = 0)) k (200 - k) = fst (fun H => decide (str V (fun s => N t (3 + s)) H 0 s = 0)) 0 200 → AirAt V (str V (fun s => N t (3 + s)) k 0) I1 → Sm (fun s => s = 41 ∨ s = 1) I I1 → X G vX11_gone (d + 2 + 1) (0, 0) 48 [(0, some (.ref (ad 11 0))), (1, some (.int (nI (t)))), (2, some (.int (nI (s)))), (3, some (.int (nI (k))))] [] (MM ad nb b r I1 L) (xT G (qA ad nb b r I L (a_gone V N (nI t) (nI s)))) := by
  have hV := hS.1
  obtain ⟨hB, hN, hH, hK⟩ := hX
  have hW := hS.2.1
  have v0 := hV.1
  have v1 := hV.2.1
  have v2 := hV.2.2.1
  have v3 := hV.2.2.2.1
  have v4 := hV.2.2.2.2.1
  have v7 := hV.2.2.2.2.2.2.2.1
  have v9 := hV.2.2.2.2.2.2.2.2.2.1
  have v10 := hV.2.2.2.2.2.2.2.2.2.2.1
  intro n
  induction n with
  | zero => intro k I1 h0; omega
  | succ n ih =>
    intro k I1 hn hk hf hA1 hS1
    have hB1 : XB V 0 I1 := hB.sm (fun s h1 h2 => hS1 s (by omega))
    have es : I1 41 0 s = nI (str V (fun s => N t (3 + s)) k 0 s) := hA1.1 s hs
    have hle := str_le (V := V) (f := fun s => N t (3 + s)) (H := k) (w := 0) (s := s) ((hW t ht).2 s (by omega))
    refine x_iload_n dX11_gone_48 rfl ?_
    refine x_sipush dX11_gone_49 lS_200 ?_
    refine x_icN_ge 94 dX11_gone_52 (by decide) (by omega) (by omega) (fun h52 => ?_) (fun h52 => ?_)
    · refine x_aload_n dX11_gone_94 rfl ?_
      refine x_iload_n dX11_gone_95 rfl ?_
      refine x_cvi (c_answer) kX11_127 dX11_gone_96 rfl (Nat.le_of_ble_eq_true rfl) rfl rfl (Nat.le_of_ble_eq_true rfl) (fun ru Mu hq => ?_)
      obtain ⟨rfl, rfl⟩ := hq
      refine x_iret dX11_gone_99 rfl ?_
      refine qA_ok ?_ (hS1.wk (fun s h => by unfold scr; omega))
      unfold a_gone
      rw [inr_nI (by omega) (by omega), inr_nI (by omega) (by omega), decide_eq_true ht, decide_eq_true hs, zN_nI (by omega), zN_nI (by omega)]
      simp only [Bool.and_self, if_true]
      rw [← hf]
      first
        | (rw [show 200 - k = 0 by omega, fst_0]; rfl)
        | (rw [fst_t (P := (fun H => decide (str V (fun s => N t (3 + s)) H 0 s = 0))) (decide_eq_true (by omega))])
    · refine x_aload_n dX11_gone_55 rfl ?_
      refine g_X_air fX11_34 dX11_gone_56 ?_
      refine g_Air_strong fX11_190 dX11_gone_59 ?_
      refine x_iload_n dX11_gone_62 rfl ?_
      refine x_iald dX11_gone_63 rfl rfl (Nat.le_of_ble_eq_true rfl) (by first | exact Nat.le_of_ble_eq_true rfl | assumption | omega) ?_
      rw [es]
      refine x_ifN_le 94 dX11_gone_64 (by decide) (by omega) (fun h64 => ?_) (fun h64 => ?_)
      · refine x_aload_n dX11_gone_94 rfl ?_
        refine x_iload_n dX11_gone_95 rfl ?_
        refine x_cvi (c_answer) kX11_127 dX11_gone_96 rfl (Nat.le_of_ble_eq_true rfl) rfl rfl (Nat.le_of_ble_eq_true rfl) (fun ru Mu hq => ?_)
        obtain ⟨rfl, rfl⟩ := hq
        refine x_iret dX11_gone_99 rfl ?_
        refine qA_ok ?_ (hS1.wk (fun s h => by unfold scr; omega))
        unfold a_gone
        rw [inr_nI (by omega) (by omega), inr_nI (by omega) (by omega), decide_eq_true ht, decide_eq_true hs, zN_nI (by omega), zN_nI (by omega)]
        simp only [Bool.and_self, if_true]
        rw [← hf]
        first
          | (rw [show 200 - k = 0 by omega, fst_0]; rfl)
          | (rw [fst_t (P := (fun H => decide (str V (fun s => N t (3 + s)) H 0 s = 0))) (decide_eq_true (by omega))])
      · refine x_iincN 1 dX11_gone_67 li_1 rfl (by decide) rfl ?_
        refine x_aload_n dX11_gone_70 rfl ?_
        refine g_X_air fX11_34 dX11_gone_71 ?_
        refine x_aload_n dX11_gone_74 rfl ?_
        refine g_X_acts fX11_41 dX11_gone_75 ?_
        refine g_Acts_now fX11_155 dX11_gone_78 ?_
        refine x_iload_n dX11_gone_81 rfl ?_
        refine aa_Acts_now dX11_gone_82 rfl (by first | exact Nat.le_of_ble_eq_true rfl | assumption | omega) ?_
        refine g_Person_halves fX11_183 dX11_gone_83 (Nat.lt_of_lt_of_le (show t < 4 by omega) (by decide)) ?_
        refine x_iload_n dX11_gone_86 rfl ?_
        refine x_iconst dX11_gone_87 li_0 ?_
        refine x_cvv (c_take (h := 43) (j := t) (f := fun s => N t (3 + s)) (H := k + 1) (w := 0) rfl (by decide) (Nat.lt_of_lt_of_le (show t < 4 by omega) (Nat.le_of_ble_eq_true rfl)) hV hB1 (fun s hs => ⟨by rw [hS1 43 (by omega)]; exact (hN t ht).2 s hs, (hW t ht).2 s hs⟩) (by omega) (by omega)) kX11_186 dX11_gone_88 rfl (Nat.le_of_ble_eq_true rfl) rfl rfl (Nat.le_of_ble_eq_true rfl) (fun M2 hq2 => ?_)
        obtain ⟨I3, rfl, hA3, hS3⟩ := hq2
        refine x_goto 48 dX11_gone_91 (by decide) ?_
        refine x_ls ?_ (ih (k + 1) I3 (by omega) (by omega) ((fst_f h52 (decide_eq_false (by omega))).trans hf) hA3 (hS1.tr hS3))
        exact ⟨rfl, rfl, rfl, rfl, trivial⟩
set_option maxRecDepth 100000 in
set_option maxHeartbeats 4000000 in
theorem x_gone_c (hS : SW V N h mk) (hX : XS V N h mk I) {z1 z2 : Int32} : Mt G vX11_gone (d + 2 + 1) (0, 0) [.ref (ad 11 0), .int (z1), .int (z2)] (MM ad nb b r I L) (qA ad nb b r I L (a_gone V N z1 z2)) := by
  have hV := hS.1
  obtain ⟨hB, hN, hH, hK⟩ := hX
  have hW := hS.2.1
  have v0 := hV.1
  have v1 := hV.2.1
  have v2 := hV.2.2.1
  have v3 := hV.2.2.2.1
  have v4 := hV.2.2.2.2.1
  have v7 := hV.2.2.2.2.2.2.2.1
  have v9 := hV.2.2.2.2.2.2.2.2.2.1
  have v10 := hV.2.2.2.2.2.2.2.2.2.2.1
  refine x_start (by decide) (Nat.le_of_ble_eq_true rfl) ?_
  refine x_aload_n dX11_gone_0 rfl ?_
  refine x_bipush dX11_gone_1 lb_7 ?_
  refine x_iload_n dX11_gone_3 rfl ?_
  refine x_cvi (c_isOne hV (so := 7) (by omega) (by omega) (hB.1 7 (by omega))) kX11_133 dX11_gone_4 rfl (Nat.le_of_ble_eq_true rfl) rfl rfl (Nat.le_of_ble_eq_true rfl) (fun ru Mu hq => ?_)
  obtain ⟨rfl, rfl⟩ := hq
  refine x_if_eq 19 dX11_gone_7 (by decide) (fun h7 => ?_) (fun h7 => ?_)
  · refine x_aload_n dX11_gone_19 rfl ?_
    refine x_iconst dX11_gone_20 li_1 ?_
    refine x_cvi (c_refuse) kX11_102 dX11_gone_21 rfl (Nat.le_of_ble_eq_true rfl) rfl rfl (Nat.le_of_ble_eq_true rfl) (fun ru Mu hq => ?_)
    obtain ⟨rfl, rfl⟩ := hq
    refine x_iret dX11_gone_24 rfl ?_
    refine qA_no (c := 1) ?_
    unfold a_gone
    first
      | (rw [bI_eq.mp h7]; rfl)
      | (rw [bI_eq.mp h16, Bool.and_false]; rfl)
  · have qt := bI_ne.mp h7
    obtain ⟨t, ht, rfl⟩ := inr_of qt (by omega)
    refine x_aload_n dX11_gone_10 rfl ?_
    refine x_iconst dX11_gone_11 li_2 ?_
    refine x_iload_n dX11_gone_12 rfl ?_
    refine x_cvi (c_isOne hV (so := 2) (by omega) (by omega) (hB.1 2 (by omega))) kX11_133 dX11_gone_13 rfl (Nat.le_of_ble_eq_true rfl) rfl rfl (Nat.le_of_ble_eq_true rfl) (fun ru Mu hq => ?_)
    obtain ⟨rfl, rfl⟩ := hq
    refine x_if_ne 25 dX11_gone_16 (by decide) (fun h16 => ?_) (fun h16 => ?_)
    · have qs := bI_ne.mp h16
      obtain ⟨s, hs, rfl⟩ := inr_of qs (by omega)
      refine x_iconst dX11_gone_25 li_0 ?_
      refine x_istore_n dX11_gone_26 (by decide) rfl ?_
      refine x_aload_n dX11_gone_27 rfl ?_
      refine g_X_air fX11_34 dX11_gone_28 ?_
      refine x_aload_n dX11_gone_31 rfl ?_
      refine g_X_acts fX11_41 dX11_gone_32 ?_
      refine g_Acts_now fX11_155 dX11_gone_35 ?_
      refine x_iload_n dX11_gone_38 rfl ?_
      refine aa_Acts_now dX11_gone_39 rfl (by first | exact Nat.le_of_ble_eq_true rfl | assumption | omega) ?_
      refine g_Person_halves fX11_183 dX11_gone_40 (Nat.lt_of_lt_of_le (show t < 4 by omega) (by decide)) ?_
      refine x_iload_n dX11_gone_43 rfl ?_
      refine x_iconst dX11_gone_44 li_0 ?_
      refine x_cvv (c_take (h := 43) (j := t) (f := fun s => N t (3 + s)) (H := 0) (w := 0) rfl (by decide) (Nat.lt_of_lt_of_le (show t < 4 by omega) (Nat.le_of_ble_eq_true rfl)) hV hB (fun s hs => ⟨(hN t ht).2 s hs, (hW t ht).2 s hs⟩) (by omega) (by omega)) kX11_186 dX11_gone_45 rfl (Nat.le_of_ble_eq_true rfl) rfl rfl (Nat.le_of_ble_eq_true rfl) (fun M2 hq2 => ?_)
      obtain ⟨I2, rfl, hA2, hS2⟩ := hq2
      refine x_ls ?_ (lp_gone hS ⟨hB, hN, hH, hK⟩ ht hs 201 0 I2 (by omega) (by omega) (by rw [Nat.zero_add, Nat.sub_zero]) hA2 hS2)
      exact ⟨rfl, rfl, rfl, rfl, trivial⟩
    · refine x_aload_n dX11_gone_19 rfl ?_
      refine x_iconst dX11_gone_20 li_1 ?_
      refine x_cvi (c_refuse) kX11_102 dX11_gone_21 rfl (Nat.le_of_ble_eq_true rfl) rfl rfl (Nat.le_of_ble_eq_true rfl) (fun ru Mu hq => ?_)
      obtain ⟨rfl, rfl⟩ := hq
      refine x_iret dX11_gone_24 rfl ?_
      refine qA_no (c := 1) ?_
      unfold a_gone
      first
        | (rw [bI_eq.mp h7]; rfl)
        | (rw [bI_eq.mp h16, Bool.and_false]; rfl)
set_option maxRecDepth 100000 in
set_option maxHeartbeats 4000000 in
theorem lp_mustWait (hS : SW V N h mk) (hX : XS V N h mk I) {t q : Nat} (ht : t < V 0 7 0) (hq : q < V 0 4 0) : ∀ (n : Nat) (k : Nat) (I1 : Nat → Nat → Nat → Int32), 200 - k < n → k ≤ 200 → k + fst (fun H => decide (dbh V N t q H = 0)) k (200 - k) = fst (fun H => decide (dbh V N t q H = 0)) 0 200 → Sm (fun s => s = 1 ∨ s = 41) I I1 → X G vX11_mustWait (d + 2 + 1 + 1) (0, 0) 27 [(0, some (.ref (ad 11 0))), (1, some (.int (nI (t)))), (2, some (.int (nI (q)))), (3, some (.int (nI (k))))] [] (MM ad nb b r I1 L) (xT G (qA ad nb b r I L (a_mustWait V N (nI t) (nI q)))) := by
  have hV := hS.1
  obtain ⟨hB, hN, hH, hK⟩ := hX
  have hW := hS.2.1
  have v0 := hV.1
  have v1 := hV.2.1
  have v2 := hV.2.2.1
  have v3 := hV.2.2.2.1
  have v4 := hV.2.2.2.2.1
  have v7 := hV.2.2.2.2.2.2.2.1
  have v9 := hV.2.2.2.2.2.2.2.2.2.1
  have v10 := hV.2.2.2.2.2.2.2.2.2.2.1
  intro n
  induction n with
  | zero => intro k I1 h0; omega
  | succ n ih =>
    intro k I1 hn hk hf hS1
    have hB1 : XB V 0 I1 := hB.sm (fun s h1 h2 => hS1 s (by omega))
    have hN1 : XN V N I1 := fun t ht => (hN t ht).to (by rw [hS1 4 (by omega)]) (by rw [hS1 43 (by omega)])
    have hle : dbh V N t q k < 2 ^ 30 := by
      unfold dbh dtn
      split
      · omega
      · exact Nat.lt_of_le_of_lt (tol_le (g := str V (fun s => N t (3 + s)) _ 0) hV (fun s hs => str_le ((hW t ht).2 s hs))) (by omega)
    refine x_iload_n dX11_mustWait_27 rfl ?_
    refine x_sipush dX11_mustWait_28 lS_200 ?_
    refine x_icN_ge 50 dX11_mustWait_31 (by decide) (by omega) (by omega) (fun h31 => ?_) (fun h31 => ?_)
    · refine x_aload_n dX11_mustWait_50 rfl ?_
      refine x_iload_n dX11_mustWait_51 rfl ?_
      refine x_cvi (c_answer) kX11_127 dX11_mustWait_52 rfl (Nat.le_of_ble_eq_true rfl) rfl rfl (Nat.le_of_ble_eq_true rfl) (fun ru Mu hq => ?_)
      obtain ⟨rfl, rfl⟩ := hq
      refine x_iret dX11_mustWait_55 rfl ?_
      first
        | (refine qA_ok ?_ ((hS1.tr hS2).wk (fun s h => by unfold scr; omega))
           unfold a_mustWait
           rw [inr_nI (by omega) (by omega), inr_nI (by omega) (by omega), decide_eq_true ht, decide_eq_true hq, zN_nI (by omega), zN_nI (by omega)]
           simp only [Bool.and_self, if_true]
           rw [← hf, fst_t (P := (fun H => decide (dbh V N t q H = 0))) (decide_eq_true (by omega))])
        | (refine qA_ok ?_ (hS1.wk (fun s h => by unfold scr; omega))
           unfold a_mustWait
           rw [inr_nI (by omega) (by omega), inr_nI (by omega) (by omega), decide_eq_true ht, decide_eq_true hq, zN_nI (by omega), zN_nI (by omega)]
           simp only [Bool.and_self, if_true]
           rw [← hf, show 200 - k = 0 by omega, fst_0]
           rfl)
    · refine x_aload_n dX11_mustWait_34 rfl ?_
      refine x_iload_n dX11_mustWait_35 rfl ?_
      refine x_iload_n dX11_mustWait_36 rfl ?_
      refine x_iload_n dX11_mustWait_37 rfl ?_
      refine x_cvi (c_dutyBehind (d := d) (H := k) hV hB1 hN1 hW ht hq (by omega)) kX11_202 dX11_mustWait_38 rfl (Nat.le_of_ble_eq_true rfl) rfl rfl (Nat.le_of_ble_eq_true rfl) (fun ru M2 hq2 => ?_)
      obtain ⟨rfl, I2, rfl, hS2⟩ := hq2
      refine x_ifN_le 50 dX11_mustWait_41 (by decide) (by omega) (fun h41 => ?_) (fun h41 => ?_)
      · refine x_aload_n dX11_mustWait_50 rfl ?_
        refine x_iload_n dX11_mustWait_51 rfl ?_
        refine x_cvi (c_answer) kX11_127 dX11_mustWait_52 rfl (Nat.le_of_ble_eq_true rfl) rfl rfl (Nat.le_of_ble_eq_true rfl) (fun ru Mu hq => ?_)
        obtain ⟨rfl, rfl⟩ := hq
        refine x_iret dX11_mustWait_55 rfl ?_
        first
          | (refine qA_ok ?_ ((hS1.tr hS2).wk (fun s h => by unfold scr; omega))
             unfold a_mustWait
             rw [inr_nI (by omega) (by omega), inr_nI (by omega) (by omega), decide_eq_true ht, decide_eq_true hq, zN_nI (by omega), zN_nI (by omega)]
             simp only [Bool.and_self, if_true]
             rw [← hf, fst_t (P := (fun H => decide (dbh V N t q H = 0))) (decide_eq_true (by omega))])
          | (refine qA_ok ?_ (hS1.wk (fun s h => by unfold scr; omega))
             unfold a_mustWait
             rw [inr_nI (by omega) (by omega), inr_nI (by omega) (by omega), decide_eq_true ht, decide_eq_true hq, zN_nI (by omega), zN_nI (by omega)]
             simp only [Bool.and_self, if_true]
             rw [← hf, show 200 - k = 0 by omega, fst_0]
             rfl)
      · refine x_iincN 1 dX11_mustWait_44 li_1 rfl (by decide) rfl ?_
        refine x_goto 27 dX11_mustWait_47 (by decide) ?_
        refine x_ls ?_ (ih (k + 1) I2 (by omega) (by omega) ((fst_f h31 (decide_eq_false (by omega))).trans hf) (hS1.tr hS2))
        exact ⟨rfl, rfl, rfl, rfl, trivial⟩
set_option maxRecDepth 100000 in
set_option maxHeartbeats 4000000 in
theorem x_mustWait_c (hS : SW V N h mk) (hX : XS V N h mk I) {z1 z2 : Int32} : Mt G vX11_mustWait (d + 2 + 1 + 1) (0, 0) [.ref (ad 11 0), .int (z1), .int (z2)] (MM ad nb b r I L) (qA ad nb b r I L (a_mustWait V N z1 z2)) := by
  have hV := hS.1
  obtain ⟨hB, hN, hH, hK⟩ := hX
  have hW := hS.2.1
  have v0 := hV.1
  have v1 := hV.2.1
  have v2 := hV.2.2.1
  have v3 := hV.2.2.2.1
  have v4 := hV.2.2.2.2.1
  have v7 := hV.2.2.2.2.2.2.2.1
  have v9 := hV.2.2.2.2.2.2.2.2.2.1
  have v10 := hV.2.2.2.2.2.2.2.2.2.2.1
  refine x_start (by decide) (Nat.le_of_ble_eq_true rfl) ?_
  refine x_aload_n dX11_mustWait_0 rfl ?_
  refine x_bipush dX11_mustWait_1 lb_7 ?_
  refine x_iload_n dX11_mustWait_3 rfl ?_
  refine x_cvi (c_isOne hV (so := 7) (by omega) (by omega) (hB.1 7 (by omega))) kX11_133 dX11_mustWait_4 rfl (Nat.le_of_ble_eq_true rfl) rfl rfl (Nat.le_of_ble_eq_true rfl) (fun ru Mu hq => ?_)
  obtain ⟨rfl, rfl⟩ := hq
  refine x_if_eq 19 dX11_mustWait_7 (by decide) (fun h7 => ?_) (fun h7 => ?_)
  · refine x_aload_n dX11_mustWait_19 rfl ?_
    refine x_iconst dX11_mustWait_20 li_1 ?_
    refine x_cvi (c_refuse) kX11_102 dX11_mustWait_21 rfl (Nat.le_of_ble_eq_true rfl) rfl rfl (Nat.le_of_ble_eq_true rfl) (fun ru Mu hq => ?_)
    obtain ⟨rfl, rfl⟩ := hq
    refine x_iret dX11_mustWait_24 rfl ?_
    refine qA_no (c := 1) ?_
    unfold a_mustWait
    first
      | (rw [bI_eq.mp h7]; rfl)
      | (rw [bI_eq.mp h16, Bool.and_false]; rfl)
  · have qt := bI_ne.mp h7
    obtain ⟨t, ht, rfl⟩ := inr_of qt (by omega)
    refine x_aload_n dX11_mustWait_10 rfl ?_
    refine x_iconst dX11_mustWait_11 li_4 ?_
    refine x_iload_n dX11_mustWait_12 rfl ?_
    refine x_cvi (c_isOne hV (so := 4) (by omega) (by omega) (hB.1 4 (by omega))) kX11_133 dX11_mustWait_13 rfl (Nat.le_of_ble_eq_true rfl) rfl rfl (Nat.le_of_ble_eq_true rfl) (fun ru Mu hq => ?_)
    obtain ⟨rfl, rfl⟩ := hq
    refine x_if_ne 25 dX11_mustWait_16 (by decide) (fun h16 => ?_) (fun h16 => ?_)
    · have qq := bI_ne.mp h16
      obtain ⟨q, hq, rfl⟩ := inr_of qq (by omega)
      refine x_iconst dX11_mustWait_25 li_0 ?_
      refine x_istore_n dX11_mustWait_26 (by decide) rfl ?_
      refine x_ls ?_ (lp_mustWait hS ⟨hB, hN, hH, hK⟩ ht hq 201 0 I (by omega) (by omega) (by rw [Nat.zero_add, Nat.sub_zero]) Sm.rf)
      exact ⟨rfl, rfl, rfl, rfl, trivial⟩
    · refine x_aload_n dX11_mustWait_19 rfl ?_
      refine x_iconst dX11_mustWait_20 li_1 ?_
      refine x_cvi (c_refuse) kX11_102 dX11_mustWait_21 rfl (Nat.le_of_ble_eq_true rfl) rfl rfl (Nat.le_of_ble_eq_true rfl) (fun ru Mu hq => ?_)
      obtain ⟨rfl, rfl⟩ := hq
      refine x_iret dX11_mustWait_24 rfl ?_
      refine qA_no (c := 1) ?_
      unfold a_mustWait
      first
        | (rw [bI_eq.mp h7]; rfl)
        | (rw [bI_eq.mp h16, Bool.and_false]; rfl)
set_option maxRecDepth 100000 in
set_option maxHeartbeats 4000000 in
theorem x_walked_c (hS : SW V N h mk) (hX : XS V N h mk I) {z1 : Int32} : Mt G vX11_walked (d + 2 + 2) (0, 0) [.ref (ad 11 0), .int (z1)] (MM ad nb b r I L) (qA ad nb b r I L (a_walked V N z1)) := by
  have hV := hS.1
  obtain ⟨hB, hN, hH, hK⟩ := hX
  have hW := hS.2.1
  have v0 := hV.1
  have v1 := hV.2.1
  have v2 := hV.2.2.1
  have v3 := hV.2.2.2.1
  have v4 := hV.2.2.2.2.1
  have v7 := hV.2.2.2.2.2.2.2.1
  have v9 := hV.2.2.2.2.2.2.2.2.2.1
  have v10 := hV.2.2.2.2.2.2.2.2.2.2.1
  refine x_start (by decide) (Nat.le_of_ble_eq_true rfl) ?_
  refine x_aload_n dX11_walked_0 rfl ?_
  refine x_bipush dX11_walked_1 lb_7 ?_
  refine x_iload_n dX11_walked_3 rfl ?_
  refine x_cvi (c_isOne hV (so := 7) (by omega) (by omega) (hB.1 7 (by omega))) kX11_133 dX11_walked_4 rfl (Nat.le_of_ble_eq_true rfl) rfl rfl (Nat.le_of_ble_eq_true rfl) (fun ru Mu hq => ?_)
  obtain ⟨rfl, rfl⟩ := hq
  refine x_if_ne 16 dX11_walked_7 (by decide) (fun h7 => ?_) (fun h7 => ?_)
  · have qt := bI_ne.mp h7
    obtain ⟨t, ht, rfl⟩ := inr_of qt (by omega)
    refine x_aload_n dX11_walked_16 rfl ?_
    refine g_X_told fX11_16 dX11_walked_17 ?_
    refine g_Border_walkLength fX11_214 dX11_walked_20 (by first | exact Nat.le_of_ble_eq_true rfl | assumption | omega) ?_
    refine x_iload_n dX11_walked_23 rfl ?_
    refine x_iald dX11_walked_24 rfl rfl (Nat.lt_of_lt_of_le (by first | assumption | omega | decide) (Nat.le_refl 2)) (by first | exact Nat.le_of_ble_eq_true rfl | assumption | omega) ?_
    have ew : I 26 0 t = nI (V 13 t 0) := hB.2.2.2.2.2.2.1 t (by omega)
    have hwl := hV.2.2.2.2.2.2.2.2.2.2.2.2.2.2.2.2.2.2.2.2.1 t
    rw [ew]
    refine x_ifN_ne 35 dX11_walked_25 (by decide) (by omega) (fun h25 => ?_) (fun h25 => ?_)
    · refine x_aload_n dX11_walked_35 rfl ?_
      refine x_aload_n dX11_walked_36 rfl ?_
      refine g_X_walks fX11_50 dX11_walked_37 ?_
      refine x_iload_n dX11_walked_40 rfl ?_
      refine x_aload_n dX11_walked_41 rfl ?_
      refine g_X_told fX11_16 dX11_walked_42 ?_
      refine g_Border_placeNose fX11_149 dX11_walked_45 (by first | exact Nat.le_of_ble_eq_true rfl | assumption | omega) ?_
      refine x_cvi (c_follow (d := d) (t := t) (h := 22) (j := 0) (f := N t) (nz := fun p => V 6 p 0) hV hB ht (hN t ht) (hW t ht).1 (hW t ht).2 rfl (Or.inl rfl) (Nat.le_of_ble_eq_true rfl) (nz6 hV hB)) kX11_217 dX11_walked_48 rfl (Nat.le_of_ble_eq_true rfl) rfl rfl (Nat.le_of_ble_eq_true rfl) (fun ru M2 hq2 => ?_)
      obtain ⟨rfl, I2, rfl, hS2, hC2⟩ := hq2
      refine x_if_eq 64 dX11_walked_51 (by decide) (fun h51 => ?_) (fun h51 => ?_)
      · refine x_bipush dX11_walked_64 lb_m2 ?_
        refine x_cvi (c_answer) kX11_127 dX11_walked_66 rfl (Nat.le_of_ble_eq_true rfl) rfl rfl (Nat.le_of_ble_eq_true rfl) (fun ru Mu hq => ?_)
        obtain ⟨rfl, rfl⟩ := hq
        refine x_iret dX11_walked_69 rfl ?_
        refine qA_ok ?_ (hS2.wk (fun s h => by unfold scr; omega))
        unfold a_walked
        rw [qt, zN_nI (by omega), if_pos rfl, if_neg (by omega)]
        first
          | (rw [if_pos (show wk1 V N t = true from hc)]; rfl)
          | (rw [if_neg (show ¬ wk1 V N t = true from fun z => by have := bI_eq.mp h51; rw [wk1, this] at z; cases z)])
      · have hc := bI_ne.mp h51
        refine x_aload_n dX11_walked_54 rfl ?_
        refine g_X_walks fX11_50 dX11_walked_55 ?_
        refine g_Walks_total fX11_221 dX11_walked_58 ?_
        rw [(hC2 hc).1]
        refine x_goto 66 dX11_walked_61 (by decide) ?_
        refine x_cvi (c_answer) kX11_127 dX11_walked_66 rfl (Nat.le_of_ble_eq_true rfl) rfl rfl (Nat.le_of_ble_eq_true rfl) (fun ru Mu hq => ?_)
        obtain ⟨rfl, rfl⟩ := hq
        refine x_iret dX11_walked_69 rfl ?_
        refine qA_ok ?_ (hS2.wk (fun s h => by unfold scr; omega))
        unfold a_walked
        rw [qt, zN_nI (by omega), if_pos rfl, if_neg (by omega)]
        first
          | (rw [if_pos (show wk1 V N t = true from hc)]; rfl)
          | (rw [if_neg (show ¬ wk1 V N t = true from fun z => by have := bI_eq.mp h51; rw [wk1, this] at z; cases z)])
    · refine x_aload_n dX11_walked_28 rfl ?_
      refine x_bipush dX11_walked_29 lb_6 ?_
      refine x_cvi (c_refuse) kX11_102 dX11_walked_31 rfl (Nat.le_of_ble_eq_true rfl) rfl rfl (Nat.le_of_ble_eq_true rfl) (fun ru Mu hq => ?_)
      obtain ⟨rfl, rfl⟩ := hq
      refine x_iret dX11_walked_34 rfl ?_
      refine qA_no (c := 6) ?_
      unfold a_walked
      rw [qt, zN_nI (by omega), if_pos rfl, if_pos (by omega)]
  · refine x_aload_n dX11_walked_10 rfl ?_
    refine x_iconst dX11_walked_11 li_1 ?_
    refine x_cvi (c_refuse) kX11_102 dX11_walked_12 rfl (Nat.le_of_ble_eq_true rfl) rfl rfl (Nat.le_of_ble_eq_true rfl) (fun ru Mu hq => ?_)
    obtain ⟨rfl, rfl⟩ := hq
    refine x_iret dX11_walked_15 rfl ?_
    refine qA_no (c := 1) ?_
    unfold a_walked
    rw [bI_eq.mp h7]
    rfl
set_option maxRecDepth 100000 in
set_option maxHeartbeats 4000000 in
theorem x_walkedAt_c (hS : SW V N h mk) (hX : XS V N h mk I) {z1 z2 : Int32} : Mt G vX11_walkedAt (d + 2 + 2) (0, 0) [.ref (ad 11 0), .int (z1), .int (z2)] (MM ad nb b r I L) (qA ad nb b r I L (a_walkedAt V N z1 z2)) := by
  have hV := hS.1
  obtain ⟨hB, hN, hH, hK⟩ := hX
  have hW := hS.2.1
  have v0 := hV.1
  have v1 := hV.2.1
  have v2 := hV.2.2.1
  have v3 := hV.2.2.2.1
  have v4 := hV.2.2.2.2.1
  have v7 := hV.2.2.2.2.2.2.2.1
  have v9 := hV.2.2.2.2.2.2.2.2.2.1
  have v10 := hV.2.2.2.2.2.2.2.2.2.2.1
  refine x_start (by decide) (Nat.le_of_ble_eq_true rfl) ?_
  refine x_aload_n dX11_walkedAt_0 rfl ?_
  refine x_bipush dX11_walkedAt_1 lb_7 ?_
  refine x_iload_n dX11_walkedAt_3 rfl ?_
  refine x_cvi (c_isOne hV (so := 7) (by omega) (by omega) (hB.1 7 (by omega))) kX11_133 dX11_walkedAt_4 rfl (Nat.le_of_ble_eq_true rfl) rfl rfl (Nat.le_of_ble_eq_true rfl) (fun ru Mu hq => ?_)
  obtain ⟨rfl, rfl⟩ := hq
  refine x_if_ne 16 dX11_walkedAt_7 (by decide) (fun h7 => ?_) (fun h7 => ?_)
  · have qt := bI_ne.mp h7
    obtain ⟨t, ht, rfl⟩ := inr_of qt (by omega)
    refine x_aload_n dX11_walkedAt_16 rfl ?_
    refine g_X_told fX11_16 dX11_walkedAt_17 ?_
    refine g_Border_walkLength fX11_214 dX11_walkedAt_20 (by first | exact Nat.le_of_ble_eq_true rfl | assumption | omega) ?_
    refine x_iload_n dX11_walkedAt_23 rfl ?_
    refine x_iald dX11_walkedAt_24 rfl rfl (Nat.lt_of_lt_of_le (by first | assumption | omega | decide) (Nat.le_refl 2)) (by first | exact Nat.le_of_ble_eq_true rfl | assumption | omega) ?_
    have ew : I 26 0 t = nI (V 13 t 0) := hB.2.2.2.2.2.2.1 t (by omega)
    have hwl := hV.2.2.2.2.2.2.2.2.2.2.2.2.2.2.2.2.2.2.2.2.1 t
    rw [ew]
    refine x_ifN_ne 35 dX11_walkedAt_25 (by decide) (by omega) (fun h25 => ?_) (fun h25 => ?_)
    · refine x_iload_n dX11_walkedAt_35 rfl ?_
      refine x_if_lt 52 dX11_walkedAt_36 (by decide) (fun h36 => ?_) (fun h36 => ?_)
      · refine x_aload_n dX11_walkedAt_52 rfl ?_
        refine x_iconst dX11_walkedAt_53 li_1 ?_
        refine x_cvi (c_refuse) kX11_102 dX11_walkedAt_54 rfl (Nat.le_of_ble_eq_true rfl) rfl rfl (Nat.le_of_ble_eq_true rfl) (fun ru Mu hq => ?_)
        obtain ⟨rfl, rfl⟩ := hq
        refine x_iret dX11_walkedAt_57 rfl ?_
        refine qA_no (c := 1) ?_
        unfold a_walkedAt
        rw [qt, zN_nI (by omega), if_pos rfl, if_neg (by omega)]
        rw [if_neg]
        intro z
        have z1 := of_decide_eq_true z
        first | exact z1.1 h36 | exact z1.2 (Int32.not_lt.mp h49) | exact z1.2 h49
      · refine x_iload_n dX11_walkedAt_39 rfl ?_
        refine x_aload_n dX11_walkedAt_40 rfl ?_
        refine g_X_told fX11_16 dX11_walkedAt_41 ?_
        refine g_Border_walkLength fX11_214 dX11_walkedAt_44 (by first | exact Nat.le_of_ble_eq_true rfl | assumption | omega) ?_
        refine x_iload_n dX11_walkedAt_47 rfl ?_
        refine x_iald dX11_walkedAt_48 rfl rfl (Nat.lt_of_lt_of_le (by first | assumption | omega | decide) (Nat.le_refl 2)) (by first | exact Nat.le_of_ble_eq_true rfl | assumption | omega) ?_
        rw [ew]
        refine x_ic_lt 58 dX11_walkedAt_49 (by decide) (fun h49 => ?_) (fun h49 => ?_)
        · have qi : inr z2 (V 13 t 0) = true := decide_eq_true ⟨h36, Int32.not_le.mpr h49⟩
          obtain ⟨i, hi, rfl⟩ := inr_of qi (by omega)
          refine x_aload_n dX11_walkedAt_58 rfl ?_
          refine g_X_walks fX11_50 dX11_walkedAt_59 ?_
          refine x_iload_n dX11_walkedAt_62 rfl ?_
          refine x_aload_n dX11_walkedAt_63 rfl ?_
          refine g_X_told fX11_16 dX11_walkedAt_64 ?_
          refine g_Border_placeNose fX11_149 dX11_walkedAt_67 (by first | exact Nat.le_of_ble_eq_true rfl | assumption | omega) ?_
          refine x_cvi (c_follow (d := d) (t := t) (h := 22) (j := 0) (f := N t) (nz := fun p => V 6 p 0) hV hB ht (hN t ht) (hW t ht).1 (hW t ht).2 rfl (Or.inl rfl) (Nat.le_of_ble_eq_true rfl) (nz6 hV hB)) kX11_217 dX11_walkedAt_70 rfl (Nat.le_of_ble_eq_true rfl) rfl rfl (Nat.le_of_ble_eq_true rfl) (fun ru M2 hq2 => ?_)
          obtain ⟨rfl, I2, rfl, hS2, hC2⟩ := hq2
          refine x_if_ne 82 dX11_walkedAt_73 (by decide) (fun h73 => ?_) (fun h73 => ?_)
          · have hc := bI_ne.mp h73
            refine x_aload_n dX11_walkedAt_82 rfl ?_
            refine x_aload_n dX11_walkedAt_83 rfl ?_
            refine g_X_walks fX11_50 dX11_walkedAt_84 ?_
            refine g_Walks_askedAt fX11_224 dX11_walkedAt_87 ?_
            refine x_iload_n dX11_walkedAt_90 rfl ?_
            refine x_iald dX11_walkedAt_91 rfl rfl (Nat.le_of_ble_eq_true rfl) (by first | exact Nat.le_of_ble_eq_true rfl | assumption | omega) ?_
            rw [(hC2 hc).2 i hi]
            refine x_cvi (c_answer) kX11_127 dX11_walkedAt_92 rfl (Nat.le_of_ble_eq_true rfl) rfl rfl (Nat.le_of_ble_eq_true rfl) (fun ru Mu hq => ?_)
            obtain ⟨rfl, rfl⟩ := hq
            refine x_iret dX11_walkedAt_95 rfl ?_
            refine qA_ok ?_ (hS2.wk (fun s h => by unfold scr; omega))
            unfold a_walkedAt
            rw [qt, zN_nI (by omega), if_pos rfl, if_neg (by omega)]
            rw [if_pos qi, if_pos (show wk1 V N t = true from hc), zN_nI (by omega)]
            rfl
          · refine x_aload_n dX11_walkedAt_76 rfl ?_
            refine x_iconst dX11_walkedAt_77 li_5 ?_
            refine x_cvi (c_refuse) kX11_102 dX11_walkedAt_78 rfl (Nat.le_of_ble_eq_true rfl) rfl rfl (Nat.le_of_ble_eq_true rfl) (fun ru Mu hq => ?_)
            obtain ⟨rfl, rfl⟩ := hq
            refine x_iret dX11_walkedAt_81 rfl ?_
            refine qA_no' (c := 5) ?_ (hS2.wk (fun s h => by unfold scr; omega))
            unfold a_walkedAt
            rw [qt, zN_nI (by omega), if_pos rfl, if_neg (by omega)]
            rw [if_pos qi, if_neg]
            intro z
            have := bI_eq.mp h73
            rw [wk1, this] at z
            cases z
        · refine x_aload_n dX11_walkedAt_52 rfl ?_
          refine x_iconst dX11_walkedAt_53 li_1 ?_
          refine x_cvi (c_refuse) kX11_102 dX11_walkedAt_54 rfl (Nat.le_of_ble_eq_true rfl) rfl rfl (Nat.le_of_ble_eq_true rfl) (fun ru Mu hq => ?_)
          obtain ⟨rfl, rfl⟩ := hq
          refine x_iret dX11_walkedAt_57 rfl ?_
          refine qA_no (c := 1) ?_
          unfold a_walkedAt
          rw [qt, zN_nI (by omega), if_pos rfl, if_neg (by omega)]
          rw [if_neg]
          intro z
          have z1 := of_decide_eq_true z
          first | exact z1.1 h36 | exact z1.2 (Int32.not_lt.mp h49) | exact z1.2 h49
    · refine x_aload_n dX11_walkedAt_28 rfl ?_
      refine x_bipush dX11_walkedAt_29 lb_6 ?_
      refine x_cvi (c_refuse) kX11_102 dX11_walkedAt_31 rfl (Nat.le_of_ble_eq_true rfl) rfl rfl (Nat.le_of_ble_eq_true rfl) (fun ru Mu hq => ?_)
      obtain ⟨rfl, rfl⟩ := hq
      refine x_iret dX11_walkedAt_34 rfl ?_
      refine qA_no (c := 6) ?_
      unfold a_walkedAt
      rw [qt, zN_nI (by omega), if_pos rfl, if_pos (by omega)]
  · refine x_aload_n dX11_walkedAt_10 rfl ?_
    refine x_iconst dX11_walkedAt_11 li_1 ?_
    refine x_cvi (c_refuse) kX11_102 dX11_walkedAt_12 rfl (Nat.le_of_ble_eq_true rfl) rfl rfl (Nat.le_of_ble_eq_true rfl) (fun ru Mu hq => ?_)
    obtain ⟨rfl, rfl⟩ := hq
    refine x_iret dX11_walkedAt_15 rfl ?_
    refine qA_no (c := 1) ?_
    unfold a_walkedAt
    rw [bI_eq.mp h7]
    rfl
set_option maxRecDepth 100000 in
set_option maxHeartbeats 4000000 in
theorem lp_judge (hS : SW V N h mk) (hX : XS V N h mk I) (p0 : 0 < V 0 0 0) : ∀ (n : Nat) (k : Nat) (I1 : Nat → Nat → Nat → Int32), V 0 7 0 - k < n → k ≤ V 0 7 0 → k + fst (fun t => decide (0 < V 13 t 0) && !wk1 V N t) k (V 0 7 0 - k) = fst (fun t => decide (0 < V 13 t 0) && !wk1 V N t) 0 (V 0 7 0) → Sm (fun s => s = 9 ∨ s = 47 ∨ s = 1 ∨ s = 41) I I1 → X G vX11_judge (d + 2 + 2) (0, 0) 18 [(0, some (.ref (ad 11 0))), (1, some (.int (nI (k))))] [] (MM ad nb b r I1 L) (xT G (qA ad nb b r I L (a_judge V N))) := by
  have hV := hS.1
  obtain ⟨hB, hN, hH, hK⟩ := hX
  have hW := hS.2.1
  have v0 := hV.1
  have v1 := hV.2.1
  have v2 := hV.2.2.1
  have v3 := hV.2.2.2.1
  have v4 := hV.2.2.2.2.1
  have v7 := hV.2.2.2.2.2.2.2.1
  have v9 := hV.2.2.2.2.2.2.2.2.2.1
  have v10 := hV.2.2.2.2.2.2.2.2.2.2.1
  intro n
  induction n with
  | zero => intro k I1 h0; omega
  | succ n ih =>
    intro k I1 hn hk hf hS1
    have hB1 : XB V 0 I1 := hB.sm (fun s h1 h2 => hS1 s (by omega))
    have hN1 : XN V N I1 := fun t ht => (hN t ht).to (by rw [hS1 4 (by omega)]) (by rw [hS1 43 (by omega)])
    have e7 : I1 16 0 7 = nI (V 0 7 0) := hB1.1 7 (by omega)
    have ew : k < 4 → I1 26 0 k = nI (V 13 k 0) := fun hk => hB1.2.2.2.2.2.2.1 k hk
    have hwl := hV.2.2.2.2.2.2.2.2.2.2.2.2.2.2.2.2.2.2.2.2.1 k
    refine x_iload_n dX11_judge_18 rfl ?_
    refine x_aload_n dX11_judge_19 rfl ?_
    refine g_X_told fX11_16 dX11_judge_20 ?_
    refine g_Border_sizes fX11_124 dX11_judge_23 (by first | exact Nat.le_of_ble_eq_true rfl | assumption | omega) ?_
    refine x_bipush dX11_judge_26 lb_7 ?_
    refine x_iald dX11_judge_28 rfl rfl (Nat.lt_of_lt_of_le (by first | assumption | omega | decide) (Nat.le_refl 2)) (by first | exact Nat.le_of_ble_eq_true rfl | assumption | omega) ?_
    rw [e7]
    refine x_icN_ge 74 dX11_judge_29 (by decide) (by omega) (by omega) (fun h29 => ?_) (fun h29 => ?_)
    · refine x_aload_n dX11_judge_74 rfl ?_
      refine x_bipush dX11_judge_75 lb_m2 ?_
      refine x_cvi (c_answer) kX11_127 dX11_judge_77 rfl (Nat.le_of_ble_eq_true rfl) rfl rfl (Nat.le_of_ble_eq_true rfl) (fun ru Mu hq => ?_)
      obtain ⟨rfl, rfl⟩ := hq
      refine x_iret dX11_judge_80 rfl ?_
      refine qA_ok ?_ (hS1.wk (fun s h => by unfold scr; omega))
      have hx : fst (fun t => decide (0 < V 13 t 0) && !wk1 V N t) 0 (V 0 7 0) = V 0 7 0 := by
        rw [← hf, show V 0 7 0 - k = 0 by omega, fst_0]
        omega
      unfold a_judge fsO
      rw [if_pos p0, hx, if_neg (by omega)]
    · refine x_aload_n dX11_judge_32 rfl ?_
      refine g_X_told fX11_16 dX11_judge_33 ?_
      refine g_Border_walkLength fX11_214 dX11_judge_36 (by first | exact Nat.le_of_ble_eq_true rfl | assumption | omega) ?_
      refine x_iload_n dX11_judge_39 rfl ?_
      refine x_iald dX11_judge_40 rfl rfl (Nat.lt_of_lt_of_le (by first | assumption | omega | decide) (Nat.le_refl 2)) (by first | exact Nat.le_of_ble_eq_true rfl | assumption | omega) ?_
      rw [ew (by omega)]
      refine x_ifN_le 68 dX11_judge_41 (by decide) (by omega) (fun h41 => ?_) (fun h41 => ?_)
      · refine x_iincN 1 dX11_judge_68 li_1 rfl (by decide) rfl ?_
        refine x_goto 18 dX11_judge_71 (by decide) ?_
        first
          | (refine x_ls ?_ (ih (k + 1) I2 (by omega) (by omega) ((fst_f h29 (by have hc : wk1 V N k = true := bI_ne.mp h59; simp [hc])).trans hf) (hS1.tr hS2)); exact ⟨rfl, rfl, trivial⟩)
          | (refine x_ls ?_ (ih (k + 1) I1 (by omega) (by omega) ((fst_f h29 (by simp; omega)).trans hf) hS1); exact ⟨rfl, rfl, trivial⟩)
      · refine x_aload_n dX11_judge_44 rfl ?_
        refine g_X_walks fX11_50 dX11_judge_45 ?_
        refine x_iload_n dX11_judge_48 rfl ?_
        refine x_aload_n dX11_judge_49 rfl ?_
        refine g_X_told fX11_16 dX11_judge_50 ?_
        refine g_Border_placeNose fX11_149 dX11_judge_53 (by first | exact Nat.le_of_ble_eq_true rfl | assumption | omega) ?_
        refine x_cvi (c_follow (d := d) (t := k) (h := 22) (j := 0) (f := N k) (nz := fun p => V 6 p 0) hV hB1 h29 (hN1 k h29) (hW k h29).1 (hW k h29).2 rfl (Or.inl rfl) (Nat.le_of_ble_eq_true rfl) (nz6 hV hB1)) kX11_217 dX11_judge_56 rfl (Nat.le_of_ble_eq_true rfl) rfl rfl (Nat.le_of_ble_eq_true rfl) (fun ru M2 hq2 => ?_)
        obtain ⟨rfl, I2, rfl, hS2, hC2⟩ := hq2
        refine x_if_ne 68 dX11_judge_59 (by decide) (fun h59 => ?_) (fun h59 => ?_)
        · refine x_iincN 1 dX11_judge_68 li_1 rfl (by decide) rfl ?_
          refine x_goto 18 dX11_judge_71 (by decide) ?_
          first
            | (refine x_ls ?_ (ih (k + 1) I2 (by omega) (by omega) ((fst_f h29 (by have hc : wk1 V N k = true := bI_ne.mp h59; simp [hc])).trans hf) (hS1.tr hS2)); exact ⟨rfl, rfl, trivial⟩)
            | (refine x_ls ?_ (ih (k + 1) I1 (by omega) (by omega) ((fst_f h29 (by simp; omega)).trans hf) hS1); exact ⟨rfl, rfl, trivial⟩)
        · refine x_aload_n dX11_judge_62 rfl ?_
          refine x_iload_n dX11_judge_63 rfl ?_
          refine x_cvi (c_answer) kX11_127 dX11_judge_64 rfl (Nat.le_of_ble_eq_true rfl) rfl rfl (Nat.le_of_ble_eq_true rfl) (fun ru Mu hq => ?_)
          obtain ⟨rfl, rfl⟩ := hq
          refine x_iret dX11_judge_67 rfl ?_
          refine qA_ok ?_ ((hS1.tr hS2).wk (fun s h => by unfold scr; omega))
          have hc : wk1 V N k = false := bI_eq.mp h59
          have hx : fst (fun t => decide (0 < V 13 t 0) && !wk1 V N t) 0 (V 0 7 0) = k := by
            rw [← hf]
            exact fst_t (by simp [hc]; omega)
          unfold a_judge fsO
          rw [if_pos p0, hx, if_pos h29]
set_option maxRecDepth 100000 in
set_option maxHeartbeats 4000000 in
theorem x_judge_c (hS : SW V N h mk) (hX : XS V N h mk I) : Mt G vX11_judge (d + 2 + 2) (0, 0) [.ref (ad 11 0)] (MM ad nb b r I L) (qA ad nb b r I L (a_judge V N)) := by
  have hV := hS.1
  obtain ⟨hB, hN, hH, hK⟩ := hX
  have hW := hS.2.1
  have v0 := hV.1
  have v1 := hV.2.1
  have v2 := hV.2.2.1
  have v3 := hV.2.2.2.1
  have v4 := hV.2.2.2.2.1
  have v7 := hV.2.2.2.2.2.2.2.1
  have v9 := hV.2.2.2.2.2.2.2.2.2.1
  have v10 := hV.2.2.2.2.2.2.2.2.2.2.1
  refine x_start (by decide) (Nat.le_of_ble_eq_true rfl) ?_
  refine x_aload_n dX11_judge_0 rfl ?_
  refine g_X_told fX11_16 dX11_judge_1 ?_
  refine x_cvi (c_stands (V := V) (bd := 0) (by omega) (hB.1 0 (by omega)) v0) kX11_227 dX11_judge_4 rfl (Nat.le_of_ble_eq_true rfl) rfl rfl (Nat.le_of_ble_eq_true rfl) (fun ru Mu hq => ?_)
  obtain ⟨rfl, rfl⟩ := hq
  refine x_if_ne 16 dX11_judge_7 (by decide) (fun h7 => ?_) (fun h7 => ?_)
  · have p0 : 0 < V 0 0 0 := of_decide_eq_true (bI_ne.mp h7)
    refine x_iconst dX11_judge_16 li_0 ?_
    refine x_istore_n dX11_judge_17 (by decide) rfl ?_
    refine x_ls ?_ (lp_judge hS ⟨hB, hN, hH, hK⟩ p0 (V 0 7 0 + 1) 0 I (by omega) (by omega) (by rw [Nat.zero_add, Nat.sub_zero]) Sm.rf)
    exact ⟨rfl, rfl, trivial⟩
  · refine x_aload_n dX11_judge_10 rfl ?_
    refine x_iconst dX11_judge_11 li_1 ?_
    refine x_cvi (c_refuse) kX11_102 dX11_judge_12 rfl (Nat.le_of_ble_eq_true rfl) rfl rfl (Nat.le_of_ble_eq_true rfl) (fun ru Mu hq => ?_)
    obtain ⟨rfl, rfl⟩ := hq
    refine x_iret dX11_judge_15 rfl ?_
    refine qA_no (c := 1) ?_
    have p0 := of_decide_eq_false (bI_eq.mp h7)
    unfold a_judge
    rw [if_neg p0]
set_option maxRecDepth 100000 in
set_option maxHeartbeats 4000000 in
theorem lp_wrongly (hS : SW V N h mk) (hX : XS V N h mk I) (p0 : 0 < V 0 0 0) : ∀ (n : Nat) (k : Nat) (I1 : Nat → Nat → Nat → Int32), V 0 9 0 - k < n → k ≤ V 0 9 0 → k + fst (wrg V N) k (V 0 9 0 - k) = fst (wrg V N) 0 (V 0 9 0) → Sm (fun s => s = 9 ∨ s = 47 ∨ s = 1 ∨ s = 41) I I1 → X G vX11_wrongly (d + 2 + 2) (0, 0) 18 [(0, some (.ref (ad 11 0))), (1, some (.int (nI (k))))] [] (MM ad nb b r I1 L) (xT G (qA ad nb b r I L (a_wrongly V N))) := by
  have hV := hS.1
  obtain ⟨hB, hN, hH, hK⟩ := hX
  have hW := hS.2.1
  have v0 := hV.1
  have v1 := hV.2.1
  have v2 := hV.2.2.1
  have v3 := hV.2.2.2.1
  have v4 := hV.2.2.2.2.1
  have v7 := hV.2.2.2.2.2.2.2.1
  have v9 := hV.2.2.2.2.2.2.2.2.2.1
  have v10 := hV.2.2.2.2.2.2.2.2.2.2.1
  intro n
  induction n with
  | zero => intro k I1 h0; omega
  | succ n ih =>
    intro k I1 hn hk hf hS1
    have hB1 : XB V 0 I1 := hB.sm (fun s h1 h2 => hS1 s (by omega))
    have hN1 : XN V N I1 := fun t ht => (hN t ht).to (by rw [hS1 4 (by omega)]) (by rw [hS1 43 (by omega)])
    have e7 : I1 16 0 9 = nI (V 0 9 0) := hB1.1 9 (by omega)
    refine x_iload_n dX11_wrongly_18 rfl ?_
    refine x_aload_n dX11_wrongly_19 rfl ?_
    refine g_X_told fX11_16 dX11_wrongly_20 ?_
    refine g_Border_sizes fX11_124 dX11_wrongly_23 (by first | exact Nat.le_of_ble_eq_true rfl | assumption | omega) ?_
    refine x_bipush dX11_wrongly_26 lb_9 ?_
    refine x_iald dX11_wrongly_28 rfl rfl (Nat.lt_of_lt_of_le (by first | assumption | omega | decide) (Nat.le_refl 2)) (by first | exact Nat.le_of_ble_eq_true rfl | assumption | omega) ?_
    rw [e7]
    refine x_icN_ge 113 dX11_wrongly_29 (by decide) (by omega) (by omega) (fun h29 => ?_) (fun h29 => ?_)
    · refine x_aload_n dX11_wrongly_113 rfl ?_
      refine x_bipush dX11_wrongly_114 lb_m2 ?_
      refine x_cvi (c_answer) kX11_127 dX11_wrongly_116 rfl (Nat.le_of_ble_eq_true rfl) rfl rfl (Nat.le_of_ble_eq_true rfl) (fun ru Mu hq => ?_)
      obtain ⟨rfl, rfl⟩ := hq
      refine x_iret dX11_wrongly_119 rfl ?_
      refine qA_ok ?_ (hS1.wk (fun s h => by unfold scr; omega))
      have hx : fst (wrg V N) 0 (V 0 9 0) = V 0 9 0 := by
        rw [← hf, show V 0 9 0 - k = 0 by omega, fst_0]
        omega
      unfold a_wrongly fsO
      rw [if_pos p0, hx, if_neg (by omega)]
    · refine x_aload_n dX11_wrongly_32 rfl ?_
      refine g_X_told fX11_16 dX11_wrongly_33 ?_
      refine g_Border_askedOf fX11_231 dX11_wrongly_36 (by first | exact Nat.le_of_ble_eq_true rfl | assumption | omega) ?_
      refine x_iload_n dX11_wrongly_39 rfl ?_
      refine x_iald dX11_wrongly_40 rfl rfl (Nat.lt_of_lt_of_le (by first | assumption | omega | decide) (Nat.le_refl 2)) (by first | exact Nat.le_of_ble_eq_true rfl | assumption | omega) ?_
      have hak := hV.2.2.2.2.2.2.2.2.2.2.2.2.2.2.2.2.2.2.2.2.2.2.1 k h29
      have hwl := hV.2.2.2.2.2.2.2.2.2.2.2.2.2.2.2.2.2.2.2.2.1 (V 15 k 0)
      have ew : I1 26 0 (V 15 k 0) = nI (V 13 (V 15 k 0) 0) := hB1.2.2.2.2.2.2.1 _ (by omega)
      rw [(hB1.2.2.2.2.2.2.2.1 k h29).1]
      refine x_istore_n dX11_wrongly_41 (by decide) rfl ?_
      refine x_aload_n dX11_wrongly_42 rfl ?_
      refine g_X_told fX11_16 dX11_wrongly_43 ?_
      refine g_Border_walkLength fX11_214 dX11_wrongly_46 (by first | exact Nat.le_of_ble_eq_true rfl | assumption | omega) ?_
      refine x_iload_n dX11_wrongly_49 rfl ?_
      refine x_iald dX11_wrongly_50 rfl rfl (Nat.lt_of_lt_of_le (by first | assumption | omega | decide) (Nat.le_refl 2)) (by first | exact Nat.le_of_ble_eq_true rfl | assumption | omega) ?_
      rw [ew]
      refine x_ifN_le 95 dX11_wrongly_51 (by decide) (by omega) (fun h51 => ?_) (fun h51 => ?_)
      · refine x_iconst dX11_wrongly_95 li_0 ?_
        refine x_istore_n dX11_wrongly_96 (by decide) rfl ?_
        refine x_iload_n dX11_wrongly_97 rfl ?_
        refine x_ifN_ne 107 dX11_wrongly_98 (by decide) (by omega) (fun h98 => ?_) (fun h98 => ?_)
        · refine x_iincN 1 dX11_wrongly_107 li_1 rfl (by decide) rfl ?_
          refine x_goto 18 dX11_wrongly_110 (by decide) ?_
          first
            | (exact absurd h98 (by decide))
            | (refine x_ls ?_ (ih (k + 1) I2 (by omega) (by omega) ((fst_f h29 (by have hc : wk1 V N (V 15 k 0) = true := bI_ne.mp h69; have hw : 0 < V 13 (V 15 k 0) 0 := (by omega); simp [wrg, hc, h88, hw])).trans hf) (hS1.tr hS2)); exact ⟨rfl, rfl, trivial⟩)
            | (exact absurd rfl h98)
            | (exact absurd h98 (by decide))
        · refine x_aload_n dX11_wrongly_101 rfl ?_
          refine x_iload_n dX11_wrongly_102 rfl ?_
          refine x_cvi (c_answer) kX11_127 dX11_wrongly_103 rfl (Nat.le_of_ble_eq_true rfl) rfl rfl (Nat.le_of_ble_eq_true rfl) (fun ru Mu hq => ?_)
          obtain ⟨rfl, rfl⟩ := hq
          refine x_iret dX11_wrongly_106 rfl ?_
          have hx : wrg V N k = true → fst (wrg V N) 0 (V 0 9 0) = k := by
            intro z
            rw [← hf]
            exact fst_t z
          first
            | (exact absurd h98 (by decide))
            | (refine qA_ok ?_ ((hS1.tr hS2).wk (fun s h => by unfold scr; omega))
               unfold a_wrongly fsO
               rw [if_pos p0, hx, if_pos h29]
               first
                 | (have hc : wk1 V N (V 15 k 0) = false := bI_eq.mp h69; simp [wrg, hc])
                 | simp [wrg, h88])
            | (refine qA_ok ?_ (hS1.wk (fun s h => by unfold scr; omega))
               unfold a_wrongly fsO
               rw [if_pos p0, hx, if_pos h29]
               simp [wrg]
               omega)
      · refine x_aload_n dX11_wrongly_54 rfl ?_
        refine g_X_walks fX11_50 dX11_wrongly_55 ?_
        refine x_iload_n dX11_wrongly_58 rfl ?_
        refine x_aload_n dX11_wrongly_59 rfl ?_
        refine g_X_told fX11_16 dX11_wrongly_60 ?_
        refine g_Border_placeNose fX11_149 dX11_wrongly_63 (by first | exact Nat.le_of_ble_eq_true rfl | assumption | omega) ?_
        refine x_cvi (c_follow (d := d) (t := (V 15 k 0)) (h := 22) (j := 0) (f := N (V 15 k 0)) (nz := fun p => V 6 p 0) hV hB1 hak.1 (hN1 (V 15 k 0) hak.1) (hW (V 15 k 0) hak.1).1 (hW (V 15 k 0) hak.1).2 rfl (Or.inl rfl) (Nat.le_of_ble_eq_true rfl) (nz6 hV hB1)) kX11_217 dX11_wrongly_66 rfl (Nat.le_of_ble_eq_true rfl) rfl rfl (Nat.le_of_ble_eq_true rfl) (fun ru M2 hq2 => ?_)
        obtain ⟨rfl, I2, rfl, hS2, hC2⟩ := hq2
        refine x_if_eq 95 dX11_wrongly_69 (by decide) (fun h69 => ?_) (fun h69 => ?_)
        · refine x_iconst dX11_wrongly_95 li_0 ?_
          refine x_istore_n dX11_wrongly_96 (by decide) rfl ?_
          refine x_iload_n dX11_wrongly_97 rfl ?_
          refine x_ifN_ne 107 dX11_wrongly_98 (by decide) (by omega) (fun h98 => ?_) (fun h98 => ?_)
          · refine x_iincN 1 dX11_wrongly_107 li_1 rfl (by decide) rfl ?_
            refine x_goto 18 dX11_wrongly_110 (by decide) ?_
            first
              | (exact absurd h98 (by decide))
              | (refine x_ls ?_ (ih (k + 1) I2 (by omega) (by omega) ((fst_f h29 (by have hc : wk1 V N (V 15 k 0) = true := bI_ne.mp h69; have hw : 0 < V 13 (V 15 k 0) 0 := (by omega); simp [wrg, hc, h88, hw])).trans hf) (hS1.tr hS2)); exact ⟨rfl, rfl, trivial⟩)
              | (exact absurd rfl h98)
              | (exact absurd h98 (by decide))
          · refine x_aload_n dX11_wrongly_101 rfl ?_
            refine x_iload_n dX11_wrongly_102 rfl ?_
            refine x_cvi (c_answer) kX11_127 dX11_wrongly_103 rfl (Nat.le_of_ble_eq_true rfl) rfl rfl (Nat.le_of_ble_eq_true rfl) (fun ru Mu hq => ?_)
            obtain ⟨rfl, rfl⟩ := hq
            refine x_iret dX11_wrongly_106 rfl ?_
            have hx : wrg V N k = true → fst (wrg V N) 0 (V 0 9 0) = k := by
              intro z
              rw [← hf]
              exact fst_t z
            first
              | (exact absurd h98 (by decide))
              | (refine qA_ok ?_ ((hS1.tr hS2).wk (fun s h => by unfold scr; omega))
                 unfold a_wrongly fsO
                 rw [if_pos p0, hx, if_pos h29]
                 first
                   | (have hc : wk1 V N (V 15 k 0) = false := bI_eq.mp h69; simp [wrg, hc])
                   | simp [wrg, h88])
              | (refine qA_ok ?_ (hS1.wk (fun s h => by unfold scr; omega))
                 unfold a_wrongly fsO
                 rw [if_pos p0, hx, if_pos h29]
                 simp [wrg]
                 omega)
        · refine x_aload_n dX11_wrongly_72 rfl ?_
          refine g_X_walks fX11_50 dX11_wrongly_73 ?_
          refine g_Walks_total fX11_221 dX11_wrongly_76 ?_
          have hw2 := wk2_le hV hW hak.1
          refine x_top (v := nI (wk2 V N (V 15 k 0))) ((hC2 (bI_ne.mp h69)).1) ?_
          refine x_aload_n dX11_wrongly_79 rfl ?_
          refine g_X_told fX11_16 dX11_wrongly_80 ?_
          refine g_Border_askedWhole fX11_234 dX11_wrongly_83 (by first | exact Nat.le_of_ble_eq_true rfl | assumption | omega) ?_
          refine x_iload_n dX11_wrongly_86 rfl ?_
          refine x_iald dX11_wrongly_87 rfl rfl (Nat.lt_of_lt_of_le (by first | assumption | omega | decide) (Nat.le_refl 2)) (by first | exact Nat.le_of_ble_eq_true rfl | assumption | omega) ?_
          rw [hS2 28 (by omega), (hB1.2.2.2.2.2.2.2.1 k h29).2]
          refine x_icN_ne 95 dX11_wrongly_88 (by decide) (by omega) (by omega) (fun h88 => ?_) (fun h88 => ?_)
          · refine x_iconst dX11_wrongly_95 li_0 ?_
            refine x_istore_n dX11_wrongly_96 (by decide) rfl ?_
            refine x_iload_n dX11_wrongly_97 rfl ?_
            refine x_ifN_ne 107 dX11_wrongly_98 (by decide) (by omega) (fun h98 => ?_) (fun h98 => ?_)
            · refine x_iincN 1 dX11_wrongly_107 li_1 rfl (by decide) rfl ?_
              refine x_goto 18 dX11_wrongly_110 (by decide) ?_
              first
                | (exact absurd h98 (by decide))
                | (refine x_ls ?_ (ih (k + 1) I2 (by omega) (by omega) ((fst_f h29 (by have hc : wk1 V N (V 15 k 0) = true := bI_ne.mp h69; have hw : 0 < V 13 (V 15 k 0) 0 := (by omega); simp [wrg, hc, h88, hw])).trans hf) (hS1.tr hS2)); exact ⟨rfl, rfl, trivial⟩)
                | (exact absurd rfl h98)
                | (exact absurd h98 (by decide))
            · refine x_aload_n dX11_wrongly_101 rfl ?_
              refine x_iload_n dX11_wrongly_102 rfl ?_
              refine x_cvi (c_answer) kX11_127 dX11_wrongly_103 rfl (Nat.le_of_ble_eq_true rfl) rfl rfl (Nat.le_of_ble_eq_true rfl) (fun ru Mu hq => ?_)
              obtain ⟨rfl, rfl⟩ := hq
              refine x_iret dX11_wrongly_106 rfl ?_
              have hx : wrg V N k = true → fst (wrg V N) 0 (V 0 9 0) = k := by
                intro z
                rw [← hf]
                exact fst_t z
              first
                | (exact absurd h98 (by decide))
                | (refine qA_ok ?_ ((hS1.tr hS2).wk (fun s h => by unfold scr; omega))
                   unfold a_wrongly fsO
                   rw [if_pos p0, hx, if_pos h29]
                   first
                     | (have hc : wk1 V N (V 15 k 0) = false := bI_eq.mp h69; simp [wrg, hc])
                     | simp [wrg, h88])
                | (refine qA_ok ?_ (hS1.wk (fun s h => by unfold scr; omega))
                   unfold a_wrongly fsO
                   rw [if_pos p0, hx, if_pos h29]
                   simp [wrg]
                   omega)
          · refine x_iconst dX11_wrongly_91 li_1 ?_
            refine x_goto 96 dX11_wrongly_92 (by decide) ?_
            refine x_istore_n dX11_wrongly_96 (by decide) rfl ?_
            refine x_iload_n dX11_wrongly_97 rfl ?_
            refine x_ifN_ne 107 dX11_wrongly_98 (by decide) (by omega) (fun h98 => ?_) (fun h98 => ?_)
            · refine x_iincN 1 dX11_wrongly_107 li_1 rfl (by decide) rfl ?_
              refine x_goto 18 dX11_wrongly_110 (by decide) ?_
              first
                | (exact absurd h98 (by decide))
                | (refine x_ls ?_ (ih (k + 1) I2 (by omega) (by omega) ((fst_f h29 (by have hc : wk1 V N (V 15 k 0) = true := bI_ne.mp h69; have hw : 0 < V 13 (V 15 k 0) 0 := (by omega); simp [wrg, hc, h88, hw])).trans hf) (hS1.tr hS2)); exact ⟨rfl, rfl, trivial⟩)
                | (exact absurd rfl h98)
                | (exact absurd h98 (by decide))
            · refine x_aload_n dX11_wrongly_101 rfl ?_
              refine x_iload_n dX11_wrongly_102 rfl ?_
              refine x_cvi (c_answer) kX11_127 dX11_wrongly_103 rfl (Nat.le_of_ble_eq_true rfl) rfl rfl (Nat.le_of_ble_eq_true rfl) (fun ru Mu hq => ?_)
              obtain ⟨rfl, rfl⟩ := hq
              refine x_iret dX11_wrongly_106 rfl ?_
              have hx : wrg V N k = true → fst (wrg V N) 0 (V 0 9 0) = k := by
                intro z
                rw [← hf]
                exact fst_t z
              first
                | (exact absurd h98 (by decide))
                | (refine qA_ok ?_ ((hS1.tr hS2).wk (fun s h => by unfold scr; omega))
                   unfold a_wrongly fsO
                   rw [if_pos p0, hx, if_pos h29]
                   first
                     | (have hc : wk1 V N (V 15 k 0) = false := bI_eq.mp h69; simp [wrg, hc])
                     | simp [wrg, h88])
                | (refine qA_ok ?_ (hS1.wk (fun s h => by unfold scr; omega))
                   unfold a_wrongly fsO
                   rw [if_pos p0, hx, if_pos h29]
                   simp [wrg]
                   omega)
set_option maxRecDepth 100000 in
set_option maxHeartbeats 4000000 in
theorem x_wrongly_c (hS : SW V N h mk) (hX : XS V N h mk I) : Mt G vX11_wrongly (d + 2 + 2) (0, 0) [.ref (ad 11 0)] (MM ad nb b r I L) (qA ad nb b r I L (a_wrongly V N)) := by
  have hV := hS.1
  obtain ⟨hB, hN, hH, hK⟩ := hX
  have hW := hS.2.1
  have v0 := hV.1
  have v1 := hV.2.1
  have v2 := hV.2.2.1
  have v3 := hV.2.2.2.1
  have v4 := hV.2.2.2.2.1
  have v7 := hV.2.2.2.2.2.2.2.1
  have v9 := hV.2.2.2.2.2.2.2.2.2.1
  have v10 := hV.2.2.2.2.2.2.2.2.2.2.1
  refine x_start (by decide) (Nat.le_of_ble_eq_true rfl) ?_
  refine x_aload_n dX11_wrongly_0 rfl ?_
  refine g_X_told fX11_16 dX11_wrongly_1 ?_
  refine x_cvi (c_stands (V := V) (bd := 0) (by omega) (hB.1 0 (by omega)) v0) kX11_227 dX11_wrongly_4 rfl (Nat.le_of_ble_eq_true rfl) rfl rfl (Nat.le_of_ble_eq_true rfl) (fun ru Mu hq => ?_)
  obtain ⟨rfl, rfl⟩ := hq
  refine x_if_ne 16 dX11_wrongly_7 (by decide) (fun h7 => ?_) (fun h7 => ?_)
  · have p0 : 0 < V 0 0 0 := of_decide_eq_true (bI_ne.mp h7)
    refine x_iconst dX11_wrongly_16 li_0 ?_
    refine x_istore_n dX11_wrongly_17 (by decide) rfl ?_
    refine x_ls ?_ (lp_wrongly hS ⟨hB, hN, hH, hK⟩ p0 (V 0 9 0 + 1) 0 I (by omega) (by omega) (by rw [Nat.zero_add, Nat.sub_zero]) Sm.rf)
    exact ⟨rfl, rfl, trivial⟩
  · refine x_aload_n dX11_wrongly_10 rfl ?_
    refine x_iconst dX11_wrongly_11 li_1 ?_
    refine x_cvi (c_refuse) kX11_102 dX11_wrongly_12 rfl (Nat.le_of_ble_eq_true rfl) rfl rfl (Nat.le_of_ble_eq_true rfl) (fun ru Mu hq => ?_)
    obtain ⟨rfl, rfl⟩ := hq
    refine x_iret dX11_wrongly_15 rfl ?_
    refine qA_no (c := 1) ?_
    have p0 := of_decide_eq_false (bI_eq.mp h7)
    unfold a_wrongly
    rw [if_neg p0]
end Xp2
