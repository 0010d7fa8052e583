section M21
variable {G : xG} {ad : Nat → Nat → Nat} {nb : Nat} {b r : Option Nat} {L : Nat → Nat → Nat → Int64} {V : sV} {I : Nat → Nat → Nat → Int32} {d : Nat}

variable {P w : List Nat} {T : List (List Nat)}
/-- rows that go on from P, r places more -/
def bl (V : sV) : Nat → List Nat → List (List Nat)
  | 0, P => if okw V (xq V P P.length) (V 0 2 0) = true then [P] else []
  | r + 1, P => (List.range (V 0 4 0)).flatMap (fun q => if pok V P q = true then bl V r (P ++ [q]) else [])
def blr (V : sV) (r : Nat) (P : List Nat) : Nat → Nat → List (List Nat)
  | 0, _ => []
  | m + 1, c => (if pok V P c = true then bl V r (P ++ [c]) else []) ++ blr V r P m (c + 1)
theorem blr_rg {r : Nat} : ∀ m c, (List.range c).flatMap (fun q => if pok V P q = true then bl V r (P ++ [q]) else []) ++ blr V r P m c = (List.range (c + m)).flatMap (fun q => if pok V P q = true then bl V r (P ++ [q]) else [])
  | 0, c => by rw [show blr V r P 0 c = [] from rfl, List.append_nil]; rfl
  | m + 1, c => by
    rw [show blr V r P (m + 1) c = (if pok V P c = true then bl V r (P ++ [c]) else []) ++ blr V r P m (c + 1) from rfl, ← List.append_assoc, ← rg_succ, blr_rg m (c + 1), show c + 1 + m = c + (m + 1) by omega]
theorem bl_blr {r : Nat} : bl V (r + 1) P = blr V r P (V 0 4 0) 0 := by
  have := blr_rg (V := V) (P := P) (r := r) (V 0 4 0) 0
  rw [List.range_zero, List.flatMap_nil, List.nil_append, Nat.zero_add] at this
  rw [this]
  rfl
theorem blr_none {r : Nat} : ∀ m c, (∀ j, c ≤ j → j < c + m → pok V P j = false) → blr V r P m c = []
  | 0, _, _ => rfl
  | m + 1, c, h => by
    rw [show blr V r P (m + 1) c = (if pok V P c = true then bl V r (P ++ [c]) else []) ++ blr V r P m (c + 1) from rfl, if_neg (by rw [h c (by omega) (by omega)]; decide), blr_none m (c + 1) (fun j h1 h2 => h j (by omega) (by omega))]
    rfl
theorem blr_next {r q : Nat} : ∀ m c, c ≤ q → q < c + m → (∀ j, c ≤ j → j < q → pok V P j = false) → pok V P q = true → blr V r P m c = bl V r (P ++ [q]) ++ blr V r P (c + m - (q + 1)) (q + 1)
  | 0, c, h1, h2, _, _ => by omega
  | m + 1, c, h1, h2, h3, h4 => by
    rw [show blr V r P (m + 1) c = (if pok V P c = true then bl V r (P ++ [c]) else []) ++ blr V r P m (c + 1) from rfl]
    by_cases e : c = q
    · subst e
      rw [if_pos h4, show c + (m + 1) - (c + 1) = m by omega]
    · rw [if_neg (by rw [h3 c (by omega) (by omega)]; decide), List.nil_append, blr_next m (c + 1) (by omega) (by omega) (fun j k1 k2 => h3 j (by omega) k2) h4, show c + 1 + m - (q + 1) = c + (m + 1) - (q + 1) by omega]
theorem fm_len {g : Nat → List (List Nat)} {B : Nat} (h : ∀ q, (g q).length ≤ B) : ∀ n, ((List.range n).flatMap g).length ≤ n * B
  | 0 => Nat.zero_le _
  | n + 1 => by
    have := fm_len h n
    have := h n
    rw [rg_succ, List.length_append, Nat.succ_mul]
    omega
theorem bl_len (h4 : V 0 4 0 ≤ 6) : ∀ r P, (bl V r P).length ≤ 6 ^ r
  | 0, P => by unfold bl; split <;> simp
  | r + 1, P => by
    show ((List.range (V 0 4 0)).flatMap (fun q => if pok V P q = true then bl V r (P ++ [q]) else [])).length ≤ _
    refine Nat.le_trans (fm_len (B := 6 ^ r) (fun q => ?_) (V 0 4 0)) ?_
    · split
      · exact bl_len h4 r (P ++ [q])
      · exact Nat.zero_le _
    · rw [Nat.pow_succ, Nat.mul_comm]; exact Nat.mul_le_mul_left _ h4
theorem sbit_get (P : List Nat) : ∀ k, k ≤ P.length → sbit (P.take k) = sbit (P.take k) := fun _ _ => rfl
theorem take_s {k : Nat} (h : k < P.length) : P.take (k + 1) = P.take k ++ [P.getD k 0] := by
  rw [List.take_succ, List.getD_eq_getElem?_getD, List.getElem?_eq_getElem h]; rfl

set_option maxRecDepth 100000 in
set_option maxHeartbeats 600000 in
theorem mct2 (hw1 : 1 ≤ w.length) (hw4 : w.length ≤ 4) (hwq : ∀ q ∈ w, q < 6) (hT : TB V T I) (hT2 : T.length ≤ 2000) (hw : ∀ i, i < w.length → I 98 0 i = nI (w.getD i 0)) {I1 : Nat → Nat → Nat → Int32} (h34 : I1 13 0 34 = nI T.length) (h35 : I1 13 0 35 = nI (orT T ||| sbit w)) (h36 : I1 13 0 36 = nI (anP V T &&& sbit w)) (h37 : I1 13 0 37 = nI ((T ++ [w]).getD 0 []).length ∧ ∀ i, i < ((T ++ [w]).getD 0 []).length → I1 99 0 i = nI (((T ++ [w]).getD 0 []).getD i 0)) (hs : ∀ s, s ≠ 99 → s ≠ 13 → I1 s = I s) (hk : ∀ k, k < 34 → I1 13 0 k = I 13 0 k) : X G vX13_counts (d) (0, 0) 83 [(0, some (.ref (ad 13 0)))] [] (MM ad nb b r I1 L) (xT G (qV (fun M' => ∃ I', M' = MM ad nb b r I' L ∧ TB V (T ++ [w]) I' ∧ (∀ s, s ≠ 99 → s ≠ 13 → I' s = I s) ∧ ∀ k, k < 34 → I' 13 0 k = I 13 0 k))) := by
  refine x_aload_n dX13_counts_83 rfl ?_
  refine x_dup dX13_counts_84 rfl ?_
  refine g_M_rows fX13_472 dX13_counts_85 ?_
  rw [h34]
  refine x_iconst dX13_counts_88 li_1 ?_
  refine x_iaddN dX13_counts_89 ?_
  refine p_M_rows fX13_472 dX13_counts_90 ?_
  refine x_vret dX13_counts_93 rfl ?_
  refine ⟨rfl, _, rfl, ⟨?_, ?_, ?_, fun _ => ⟨?_, fun i hi => ?_⟩⟩, fun s a c => ?_, fun k hk2 => ?_⟩
  · rw [xu_s, List.length_append]; rfl
  · rw [xu_nk (by decide), h35, orT_app]
  · rw [xu_nk (by decide), h36, anP_app]
  · rw [xu_nk (by decide)]; exact h37.1
  · rw [xu_ns (by decide)]; exact h37.2 i hi
  · rw [← hs s a c]; funext x y; rw [xu_ns c]
  · rw [xu_nk (by omega)]; exact hk k hk2
set_option maxRecDepth 100000 in
set_option maxHeartbeats 600000 in
theorem lp_mct1 (hw1 : 1 ≤ w.length) (hw4 : w.length ≤ 4) (hwq : ∀ q ∈ w, q < 6) (hT : TB V T I) (hT2 : T.length ≤ 2000) (hw : ∀ i, i < w.length → I 98 0 i = nI (w.getD i 0)) (hT0 : T = []) : ∀ (n : Nat) (k : Nat) (I1 : Nat → Nat → Nat → Int32), w.length - k < n → k ≤ w.length → (∀ i, i < k → I1 99 0 i = nI (w.getD i 0)) → (∀ s, s ≠ 99 → I1 s = xu (xu (xu I 13 0 35 (nI (orT T ||| sbit w))) 13 0 36 (nI (anP V T &&& sbit w))) 13 0 37 (nI w.length) s) → X G vX13_counts (d) (0, 0) 60 [(0, some (.ref (ad 13 0))), (1, some (.int (nI (w.length)))), (3, some (.int (nI (k))))] [] (MM ad nb b r I1 L) (xT G (qV (fun M' => ∃ I', M' = MM ad nb b r I' L ∧ TB V (T ++ [w]) I' ∧ (∀ s, s ≠ 99 → s ≠ 13 → I' s = I s) ∧ ∀ k, k < 34 → I' 13 0 k = I 13 0 k))) := by
  intro n
  induction n with
  | zero => intro k I1 h0; omega
  | succ n ih =>
    intro k I1 hn hk h1 hs
    refine x_iload_n dX13_counts_60 rfl ?_
    refine x_iload_n dX13_counts_61 rfl ?_
    refine x_icN_ge 83 dX13_counts_62 (by decide) (by omega) (by omega) (fun h62 => ?_) (fun h62 => ?_)
    · obtain rfl : k = w.length := by omega
      subst hT0
      refine x_ls ?_ (mct2 hw1 hw4 hwq hT hT2 hw (I1 := I1) ?_ ?_ ?_ ⟨?_, h1⟩ (fun s a c => ?_) (fun k hk => ?_))
      · exact ⟨rfl, trivial⟩
      · rw [hs 13 (by decide), xu_nk (by decide), xu_nk (by decide), xu_nk (by decide)]; exact hT.1
      · rw [hs 13 (by decide), xu_nk (by decide), xu_nk (by decide), xu_s]
      · rw [hs 13 (by decide), xu_nk (by decide), xu_s]
      · rw [hs 13 (by decide), xu_s]; rfl
      · rw [hs s a]; funext x y; rw [xu_ns c, xu_ns c, xu_ns c]
      · rw [hs 13 (by decide), xu_nk (by omega), xu_nk (by omega), xu_nk (by omega)]
    · refine x_aload_n dX13_counts_65 rfl ?_
      refine g_M_firstRow fX13_60 dX13_counts_66 ?_
      refine x_iload_n dX13_counts_69 rfl ?_
      refine x_aload_n dX13_counts_70 rfl ?_
      refine g_M_row fX13_57 dX13_counts_71 ?_
      refine x_iload_n dX13_counts_74 rfl ?_
      refine x_iald dX13_counts_75 rfl rfl (Nat.le_of_ble_eq_true rfl) (by first | exact Nat.le_of_ble_eq_true rfl | assumption | omega) ?_
      rw [hs 98 (by decide), xu_ns (by decide), xu_ns (by decide), xu_ns (by decide), hw k h62]
      refine x_iast dX13_counts_76 rfl rfl (Nat.le_of_ble_eq_true rfl) (by first | exact Nat.le_of_ble_eq_true rfl | assumption | omega) ?_
      refine x_iincN 1 dX13_counts_77 li_1 rfl (by decide) rfl ?_
      refine x_goto 60 dX13_counts_80 (by decide) ?_
      refine x_ls ?_ (ih (k + 1) _ (by omega) (by omega) (fun i hi => ?_) (fun s h => ?_))
      · exact ⟨rfl, rfl, rfl, trivial⟩
      · rw [xu_at]
        by_cases e0 : i = k
        · rw [if_pos e0, e0]
        · rw [if_neg e0]; exact h1 i (by omega)
      · rw [← hs s h]; funext x y; rw [xu_ns h]
set_option maxRecDepth 100000 in
set_option maxHeartbeats 600000 in
theorem m_counts (hw1 : 1 ≤ w.length) (hw4 : w.length ≤ 4) (hwq : ∀ q ∈ w, q < 6) (hT : TB V T I) (hT2 : T.length ≤ 2000) (hw : ∀ i, i < w.length → I 98 0 i = nI (w.getD i 0)) : Mt G vX13_counts (d) (0, 0) [.ref (ad 13 0), .int (nI (w.length))] (MM ad nb b r I L) (qV (fun M' => ∃ I', M' = MM ad nb b r I' L ∧ TB V (T ++ [w]) I' ∧ (∀ s, s ≠ 99 → s ≠ 13 → I' s = I s) ∧ ∀ k, k < 34 → I' 13 0 k = I 13 0 k)) := by
  have loop4 : ∀ (n : Nat) (k : Nat), w.length - k < n → k ≤ w.length → X G vX13_counts (d) (0, 0) 4 [(0, some (.ref (ad 13 0))), (1, some (.int (nI (w.length)))), (2, some (.int (nI (sbit (w.take k))))), (3, some (.int (nI (k))))] [] (MM ad nb b r I L) (xT G (qV (fun M' => ∃ I', M' = MM ad nb b r I' L ∧ TB V (T ++ [w]) I' ∧ (∀ s, s ≠ 99 → s ≠ 13 → I' s = I s) ∧ ∀ k, k < 34 → I' 13 0 k = I 13 0 k))) := by
    intro n
    induction n with
    | zero => intro k h0; omega
    | succ n ih =>
      intro k hn hk
      refine x_iload_n dX13_counts_4 rfl ?_
      refine x_iload_n dX13_counts_5 rfl ?_
      refine x_icN_ge 26 dX13_counts_6 (by decide) (by omega) (by omega) (fun h6 => ?_) (fun h6 => ?_)
      · have ek : w.take k = w := List.take_of_length_le (by omega)
        rw [ek]
        refine x_aload_n dX13_counts_26 rfl ?_
        refine x_dup dX13_counts_27 rfl ?_
        refine g_M_some fX13_475 dX13_counts_28 ?_
        rw [hT.2.1]
        refine x_iload_n dX13_counts_31 rfl ?_
        refine x_ior dX13_counts_32 ?_
        rw [nI_or]
        refine p_M_some fX13_475 dX13_counts_33 ?_
        refine x_aload_n dX13_counts_36 rfl ?_
        refine x_dup dX13_counts_37 rfl ?_
        refine g_M_all fX13_478 dX13_counts_38 ?_
        rw [xu_nk (by decide), hT.2.2.1]
        refine x_iload_n dX13_counts_41 rfl ?_
        refine x_iand dX13_counts_42 ?_
        rw [nI_and]
        refine p_M_all fX13_478 dX13_counts_43 ?_
        refine x_aload_n dX13_counts_46 rfl ?_
        refine g_M_rows fX13_472 dX13_counts_47 ?_
        rw [xu_nk (by decide), xu_nk (by decide), hT.1]
        refine x_ifN_ne 83 dX13_counts_50 (by decide) (by omega) (fun h50 => ?_) (fun h50 => ?_)
        · have hne : T ≠ [] := fun z => by rw [z] at h50; exact absurd h50 (by decide)
          have e0 : (T ++ [w]).getD 0 [] = T.getD 0 [] := by
            cases T with
            | nil => exact absurd rfl hne
            | cons a l => rfl
          refine x_ls ?_ (mct2 hw1 hw4 hwq hT hT2 hw (I1 := (xu (xu I 13 0 35 (nI (orT T ||| sbit w))) 13 0 36 (nI (anP V T &&& sbit w)))) ?_ ?_ xu_s (by rw [e0]; exact ⟨by rw [xu_nk (by decide), xu_nk (by decide)]; exact (hT.2.2.2 hne).1, fun i hi => by rw [xu_ns (by decide), xu_ns (by decide)]; exact (hT.2.2.2 hne).2 i hi⟩) (fun s a c => ?_) (fun k hk => ?_))
          · exact ⟨rfl, trivial⟩
          · rw [xu_nk (by decide), xu_nk (by decide)]; exact hT.1
          · rw [xu_nk (by decide), xu_s]
          · funext x y; rw [xu_ns c, xu_ns c]
          · rw [xu_nk (by omega), xu_nk (by omega)]
        · refine x_aload_n dX13_counts_53 rfl ?_
          refine x_iload_n dX13_counts_54 rfl ?_
          refine p_M_firstSize fX13_493 dX13_counts_55 ?_
          refine x_iconst dX13_counts_58 li_0 ?_
          refine x_istore_n dX13_counts_59 (by decide) rfl ?_
          obtain rfl : T = [] := List.eq_nil_of_length_eq_zero h50
          refine x_ls ?_ (lp_mct1 hw1 hw4 hwq hT hT2 hw rfl (w.length + 1) 0 _ (by omega) (by omega) (fun i h => absurd h (Nat.not_lt_zero i)) (fun _ _ => rfl))
          exact ⟨rfl, rfl, rfl, trivial⟩
      · refine x_iload_n dX13_counts_9 rfl ?_
        refine x_iconst dX13_counts_10 li_1 ?_
        refine x_aload_n dX13_counts_11 rfl ?_
        refine g_M_row fX13_57 dX13_counts_12 ?_
        refine x_iload_n dX13_counts_15 rfl ?_
        refine x_iald dX13_counts_16 rfl rfl (Nat.le_of_ble_eq_true rfl) (by first | exact Nat.le_of_ble_eq_true rfl | assumption | omega) ?_
        have hk6 := getD_lt hwq h6
        rw [hw k h6]
        refine x_ishl dX13_counts_17 ?_
        rw [sh1 _ (by omega)]
        refine x_ior dX13_counts_18 ?_
        rw [nI_or]
        refine x_istore_n dX13_counts_19 (by decide) rfl ?_
        refine x_iincN 1 dX13_counts_20 li_1 rfl (by decide) rfl ?_
        refine x_goto 4 dX13_counts_23 (by decide) ?_
        refine x_ls ?_ (ih (k + 1) (by omega) (by omega))
        exact ⟨rfl, rfl, by rw [take_s h6, sbit_app]; rfl, rfl, trivial⟩
  refine x_start (by decide) (Nat.le_of_ble_eq_true rfl) ?_
  refine x_iconst dX13_counts_0 li_0 ?_
  refine x_istore_n dX13_counts_1 (by decide) rfl ?_
  refine x_iconst dX13_counts_2 li_0 ?_
  refine x_istore_n dX13_counts_3 (by decide) rfl ?_
  refine x_ls ?_ (loop4 (w.length + 1) 0 (by omega) (by omega))
  exact ⟨rfl, rfl, rfl, rfl, trivial⟩

theorem pre98 {q : Nat} {I1 : Nat → Nat → Nat → Int32} (h : ∀ i, i < P.length → I1 98 0 i = nI (P.getD i 0)) (hq : I1 98 0 P.length = nI q) : ∀ i, i < (P ++ [q]).length → I1 98 0 i = nI ((P ++ [q]).getD i 0) := by
  intro i hi
  rw [List.length_append] at hi
  have hi2 : i < P.length + 1 := hi
  rw [List.getD_eq_getElem?_getD]
  by_cases e : i = P.length
  · rw [e, List.getElem?_concat_length]; exact hq
  · rw [List.getElem?_append_left (by omega), ← List.getD_eq_getElem?_getD]; exact h i (by omega)
theorem un98 {q : Nat} {I1 : Nat → Nat → Nat → Int32} (h : ∀ i, i < (P ++ [q]).length → I1 98 0 i = nI ((P ++ [q]).getD i 0)) : (∀ i, i < P.length → I1 98 0 i = nI (P.getD i 0)) ∧ I1 98 0 P.length = nI q := by
  have hl : (P ++ [q]).length = P.length + 1 := by rw [List.length_append]; rfl
  refine ⟨fun i hi => ?_, ?_⟩
  · rw [h i (by omega), List.getD_eq_getElem?_getD, List.getElem?_append_left hi, ← List.getD_eq_getElem?_getD]
  · rw [h P.length (by omega), List.getD_eq_getElem?_getD, List.getElem?_concat_length]; rfl

set_option maxRecDepth 100000 in
set_option maxHeartbeats 600000 in
theorem lp_mbf (hV : VW V) {bi : Nat} (hb : b = some bi) (hbn : bi < nb) (hB : YB V bi I) (h0 : 0 < V 0 0 0) {Tz : List (List Nat)} {mn : Nat} (hmn : mn ≤ 4) (hP4 : P.length < 4) (hPq : ∀ x ∈ P, x < V 0 4 0) {c0 : Nat} (kc : ∀ q I2, c0 ≤ q → q ≤ V 0 4 0 → (∀ j, c0 ≤ j → j < q → pok V P j = false) → (q < V 0 4 0 → pok V P q = true) → (TB V T I2 ∧ FB I I2 ∧ ∀ i, i < (P).length → I2 98 0 i = nI ((P).getD i 0)) → I2 98 0 P.length = nI q → X G vX13_beensOf (d + 3) (0, 0) 60 [(0, some (.ref (ad 13 0))), (1, some (.int (nI (mn)))), (2, some (.int (nI (P.length))))] [] (MM ad nb b r I2 L) (xT G (qV (fun M' => ∃ I', M' = MM ad nb b r I' L ∧ TB V Tz I' ∧ FB I I')))) : ∀ (n : Nat) (c : Nat) (I1 : Nat → Nat → Nat → Int32), V 0 4 0 - c < n → c0 ≤ c → c ≤ V 0 4 0 → (∀ j, c0 ≤ j → j < c → pok V P j = false) → (TB V T I1 ∧ FB I I1 ∧ ∀ i, i < (P).length → I1 98 0 i = nI ((P).getD i 0)) → I1 98 0 P.length = nI c → X G vX13_beensOf (d + 3) (0, 0) 23 [(0, some (.ref (ad 13 0))), (1, some (.int (nI (mn)))), (2, some (.int (nI (P.length))))] [] (MM ad nb b r I1 L) (xT G (qV (fun M' => ∃ I', M' = MM ad nb b r I' L ∧ TB V Tz I' ∧ FB I I'))) := by
  have v0 := hV.1
  have v1 := hV.2.1
  have v2 := hV.2.2.1
  have v3 := hV.2.2.2.1
  have v4 := hV.2.2.2.2.1
  have v7 := hV.2.2.2.2.2.2.2.1
  have v9 := hV.2.2.2.2.2.2.2.2.2.1
  have v10 := hV.2.2.2.2.2.2.2.2.2.2.1
  intro n
  induction n with
  | zero => intro c I1 h0; omega
  | succ n ih =>
    intro c I1 hn hc0 hc hno hS hk
    have hB1 := hB.mx hS.2.1.mx
    refine x_aload_n dX13_beensOf_23 rfl ?_
    refine g_M_row fX13_57 dX13_beensOf_24 ?_
    refine x_iload_n dX13_beensOf_27 rfl ?_
    refine x_iald dX13_beensOf_28 rfl rfl (Nat.le_of_ble_eq_true rfl) (by first | exact Nat.le_of_ble_eq_true rfl | assumption | omega) ?_
    rw [hk]
    refine x_aload_n dX13_beensOf_29 rfl ?_
    refine g_M_border hb fX13_397 dX13_beensOf_30 ?_
    refine g_MB_places fX13_230 dX13_beensOf_33 hbn ?_
    refine x_top (y12_4 hB1) ?_
    refine x_icN_ge 60 dX13_beensOf_36 (by decide) (by omega) (by omega) (fun h36 => ?_) (fun h36 => ?_)
    · first
        | (refine x_ls ?_ (kc c I1 hc0 hc hno (fun z => bI_ne.mp h44) hS hk); exact ⟨rfl, rfl, rfl, trivial⟩)
        | (refine x_ls ?_ (kc c I1 hc0 hc hno (fun z => absurd h36 (by omega)) hS hk); exact ⟨rfl, rfl, rfl, trivial⟩)
    · refine x_aload_n dX13_beensOf_39 rfl ?_
      refine x_iload_n dX13_beensOf_40 rfl ?_
      refine x_cvi (m_isNext (d := d + 2) (P := P) (q := c) hV hb hbn hB1 hS.2.2 hP4 hPq h36 hk) kX13_484 dX13_beensOf_41 rfl (Nat.le_of_ble_eq_true rfl) rfl rfl (Nat.le_of_ble_eq_true rfl) (fun ru Mu hq => ?_)
      obtain ⟨rfl, rfl⟩ := hq
      refine x_if_ne 60 dX13_beensOf_44 (by decide) (fun h44 => ?_) (fun h44 => ?_)
      · first
          | (refine x_ls ?_ (kc c I1 hc0 hc hno (fun z => bI_ne.mp h44) hS hk); exact ⟨rfl, rfl, rfl, trivial⟩)
          | (refine x_ls ?_ (kc c I1 hc0 hc hno (fun z => absurd h36 (by omega)) hS hk); exact ⟨rfl, rfl, rfl, trivial⟩)
      · refine x_aload_n dX13_beensOf_47 rfl ?_
        refine g_M_row fX13_57 dX13_beensOf_48 ?_
        refine x_iload_n dX13_beensOf_51 rfl ?_
        refine x_dup2 dX13_beensOf_52 rfl rfl ?_
        refine x_iald dX13_beensOf_53 rfl rfl (Nat.le_of_ble_eq_true rfl) (by first | exact Nat.le_of_ble_eq_true rfl | assumption | omega) ?_
        rw [hk]
        refine x_iconst dX13_beensOf_54 li_1 ?_
        refine x_iaddN dX13_beensOf_55 ?_
        refine x_iast dX13_beensOf_56 rfl rfl (Nat.le_of_ble_eq_true rfl) (by first | exact Nat.le_of_ble_eq_true rfl | assumption | omega) ?_
        refine x_goto 23 dX13_beensOf_57 (by decide) ?_
        refine x_ls ?_ (ih (c + 1) _ (by omega) (by omega) (by omega) (fun j h1 h2 => ?_) ⟨hS.1.sm (by funext x y; rw [xu_ns (by decide)]) (by funext x y; rw [xu_ns (by decide)]), hS.2.1.tr (FB.of (s0 := 98) (fun q hq => by funext x y; rw [xu_ns hq]) (by omega)), fun i hi => by rw [xu_nk (by omega)]; exact hS.2.2 i hi⟩ xu_s)
        · exact ⟨rfl, rfl, rfl, trivial⟩
        · rcases (show j = c ∨ j < c by omega) with e | e
          · subst e; exact bI_eq.mp h44
          · exact hno j h1 e
set_option maxRecDepth 100000 in
set_option maxHeartbeats 2000000 in
theorem lp_bsr (hV : VW V) {bi : Nat} (hb : b = some bi) (hbn : bi < nb) (hB : YB V bi I) (h0 : 0 < V 0 0 0) {Tz : List (List Nat)} {mn : Nat} (hmn : mn ≤ 4) : ∀ (r0 : Nat) (P : List Nat), P.length + (r0 + 1) = mn → (∀ x ∈ P, x < V 0 4 0) → ∀ (n c : Nat) (T : List (List Nat)) (I1 : Nat → Nat → Nat → Int32), V 0 4 0 - c < n → c ≤ V 0 4 0 → (T ++ blr V r0 P (V 0 4 0 - c) c).length ≤ 2000 → (TB V T I1 ∧ FB I I1 ∧ ∀ i, i < (P).length → I1 98 0 i = nI ((P).getD i 0)) → I1 98 0 P.length = nO (-1) c → (∀ I2, (TB V (T ++ blr V r0 P (V 0 4 0 - c) c) I2 ∧ FB I I2 ∧ ∀ i, i < (P).length → I2 98 0 i = nI ((P).getD i 0)) → X G vX13_beensOf (d + 3) (0, 0) 9 [(0, some (.ref (ad 13 0))), (1, some (.int (nI (mn)))), (2, some (.int (nI P.length + Int32.ofInt (-1))))] [] (MM ad nb b r I2 L) (xT G (qV (fun M' => ∃ I', M' = MM ad nb b r I' L ∧ TB V Tz I' ∧ FB I I')))) → X G vX13_beensOf (d + 3) (0, 0) 9 [(0, some (.ref (ad 13 0))), (1, some (.int (nI (mn)))), (2, some (.int (nI (P.length))))] [] (MM ad nb b r I1 L) (xT G (qV (fun M' => ∃ I', M' = MM ad nb b r I' L ∧ TB V Tz I' ∧ FB I I'))) := by
  have v0 := hV.1
  have v1 := hV.2.1
  have v2 := hV.2.2.1
  have v3 := hV.2.2.2.1
  have v4 := hV.2.2.2.2.1
  have v7 := hV.2.2.2.2.2.2.2.1
  have v9 := hV.2.2.2.2.2.2.2.2.2.1
  have v10 := hV.2.2.2.2.2.2.2.2.2.2.1
  intro r0
  induction r0 with
  | zero =>
    intro P hl hPq n
    induction n with
    | zero => intro c T I1 h0; omega
    | succ n ih =>
      intro c T I1 hn hc h2000 hS hk kc
      have hP4 : P.length < 4 := by omega
      have key : X G vX13_beensOf (d + 3) (0, 0) 23 [(0, some (.ref (ad 13 0))), (1, some (.int (nI (mn)))), (2, some (.int (nI (P.length))))] [] (MM ad nb b r (xu I1 98 0 P.length (nI c)) L) (xT G (qV (fun M' => ∃ I', M' = MM ad nb b r I' L ∧ TB V Tz I' ∧ FB I I'))) := by
        refine lp_mbf (T := T) (P := P) (c0 := c) hV hb hbn hB h0 hmn hP4 hPq ?_ (V 0 4 0 + 1) c _ (by omega) (Nat.le_refl c) hc (fun j h1 h2 => absurd h1 (by omega)) ⟨hS.1.sm (by funext x y; rw [xu_ns (by decide)]) (by funext x y; rw [xu_ns (by decide)]), hS.2.1.tr (FB.of (s0 := 98) (fun q hq => by funext x y; rw [xu_ns hq]) (by omega)), fun i hi => by rw [xu_nk (by omega)]; exact hS.2.2 i hi⟩ xu_s
        intro q I2 hcq hq4 hno hok hS2 hk2
        have hB2 := hB.mx hS2.2.1.mx
        refine x_aload_n dX13_beensOf_60 rfl ?_
        refine g_M_row fX13_57 dX13_beensOf_61 ?_
        refine x_iload_n dX13_beensOf_64 rfl ?_
        refine x_iald dX13_beensOf_65 rfl rfl (Nat.le_of_ble_eq_true rfl) (by first | exact Nat.le_of_ble_eq_true rfl | assumption | omega) ?_
        rw [hk2]
        refine x_aload_n dX13_beensOf_66 rfl ?_
        refine g_M_border hb fX13_397 dX13_beensOf_67 ?_
        refine g_MB_places fX13_230 dX13_beensOf_70 hbn ?_
        refine x_top (y12_4 hB2) ?_
        refine x_icN_lt 82 dX13_beensOf_73 (by decide) (by omega) (by omega) (fun h73 => ?_) (fun h73 => ?_)
        · have hok2 := hok h73
          have hnx := blr_next (V := V) (P := P) (r := 0) (q := q) (V 0 4 0 - c) c hcq (by omega) hno hok2
          rw [show c + (V 0 4 0 - c) - (q + 1) = V 0 4 0 - (q + 1) by omega] at hnx
          have hlen : P.length + 1 = (P ++ [q]).length := by rw [List.length_append]; rfl
          have hPq2 : ∀ x ∈ P ++ [q], x < V 0 4 0 := fun x hx => by
            rcases List.mem_append.mp hx with e | e
            · exact hPq x e
            · rw [List.mem_singleton.mp e]; exact h73
          refine x_iload_n dX13_beensOf_82 rfl ?_
          refine x_iconst dX13_beensOf_83 li_1 ?_
          refine x_iaddN dX13_beensOf_84 ?_
          refine x_iload_n dX13_beensOf_85 rfl ?_
          refine x_icN_ge 102 dX13_beensOf_86 (by decide) (by omega) (by omega) (fun h86 => ?_) (fun h86 => absurd h86 (by omega))
          refine x_aload_n dX13_beensOf_102 rfl ?_
          refine x_iload_n dX13_beensOf_103 rfl ?_
          rw [show mn = (P ++ [q]).length by omega]
          refine x_cvi (m_isWhiffed (d := d) (P := P ++ [q]) hV hb hbn hB2 h0 (pre98 hS2.2.2 hk2) (by omega) hPq2) kX13_487 dX13_beensOf_104 rfl (Nat.le_of_ble_eq_true rfl) rfl rfl (Nat.le_of_ble_eq_true rfl) (fun ru Mu hq => ?_)
          obtain ⟨rfl, I3, rfl, w3⟩ := hq
          refine x_if_eq 9 dX13_beensOf_107 (by decide) (fun h107 => ?_) (fun h107 => ?_)
          · have heq : T ++ blr V 0 P (V 0 4 0 - (q + 1)) (q + 1) = T ++ blr V 0 P (V 0 4 0 - c) c := by rw [hnx, show bl V 0 (P ++ [q]) = [] from if_neg (by rw [bI_eq.mp h107]; decide), List.nil_append]
            first
              | (refine x_ls ?_ (ih (q + 1) (T ++ [P ++ [q]]) I4 (by omega) (by omega) (by rw [heq]; exact h2000) ⟨t4, (hS2.2.1.tr (FB.of w3 (Or.inl rfl))).tr ⟨fun s _ _ h99 h13 => s4 s h99 h13, k4⟩, fun i hi => by rw [s4 98 (by decide) (by decide), w3 98 (by decide)]; exact hS2.2.2 i hi⟩ (by rw [s4 98 (by decide) (by decide), w3 98 (by decide), hk2, nO_pos (by omega), Nat.add_sub_cancel]) (fun I4 hI4 => kc I4 (by rw [← heq]; exact hI4)))
                 exact ⟨rfl, by rw [show mn = (P ++ [q]).length by omega]; rfl, rfl, trivial⟩
                )
              | (refine x_ls ?_ (ih (q + 1) (T) I3 (by omega) (by omega) (by rw [heq]; exact h2000) ⟨hS2.1.sm (w3 13 (by decide)) (w3 99 (by decide)), hS2.2.1.tr (FB.of w3 (Or.inl rfl)), fun i hi => by rw [w3 98 (by decide)]; exact hS2.2.2 i hi⟩ (by rw [w3 98 (by decide), hk2, nO_pos (by omega), Nat.add_sub_cancel]) (fun I4 hI4 => kc I4 (by rw [← heq]; exact hI4)))
                 exact ⟨rfl, by rw [show mn = (P ++ [q]).length by omega]; rfl, rfl, trivial⟩
                )
          · have heq : T ++ [P ++ [q]] ++ blr V 0 P (V 0 4 0 - (q + 1)) (q + 1) = T ++ blr V 0 P (V 0 4 0 - c) c := by rw [hnx, show bl V 0 (P ++ [q]) = [P ++ [q]] from if_pos (bI_ne.mp h107), List.append_assoc]
            refine x_aload_n dX13_beensOf_110 rfl ?_
            refine x_iload_n dX13_beensOf_111 rfl ?_
            refine x_cvv (m_counts (d := d + 2) (T := T) (w := P ++ [q]) (by omega) (by omega) (fun x hx => by have := hPq2 x hx; omega) (hS2.1.sm (w3 13 (by decide)) (w3 99 (by decide))) (by have := h2000; rw [List.length_append] at this; omega) (fun i hi => by rw [w3 98 (by decide)]; exact pre98 hS2.2.2 hk2 i hi)) kX13_490 dX13_beensOf_112 rfl (Nat.le_of_ble_eq_true rfl) rfl rfl (Nat.le_of_ble_eq_true rfl) (fun Mu hq => ?_)
            obtain ⟨I4, rfl, t4, s4, k4⟩ := hq
            refine x_goto 9 dX13_beensOf_115 (by decide) ?_
            first
              | (refine x_ls ?_ (ih (q + 1) (T ++ [P ++ [q]]) I4 (by omega) (by omega) (by rw [heq]; exact h2000) ⟨t4, (hS2.2.1.tr (FB.of w3 (Or.inl rfl))).tr ⟨fun s _ _ h99 h13 => s4 s h99 h13, k4⟩, fun i hi => by rw [s4 98 (by decide) (by decide), w3 98 (by decide)]; exact hS2.2.2 i hi⟩ (by rw [s4 98 (by decide) (by decide), w3 98 (by decide), hk2, nO_pos (by omega), Nat.add_sub_cancel]) (fun I4 hI4 => kc I4 (by rw [← heq]; exact hI4)))
                 exact ⟨rfl, by rw [show mn = (P ++ [q]).length by omega]; rfl, rfl, trivial⟩
                )
              | (refine x_ls ?_ (ih (q + 1) (T) I3 (by omega) (by omega) (by rw [heq]; exact h2000) ⟨hS2.1.sm (w3 13 (by decide)) (w3 99 (by decide)), hS2.2.1.tr (FB.of w3 (Or.inl rfl)), fun i hi => by rw [w3 98 (by decide)]; exact hS2.2.2 i hi⟩ (by rw [w3 98 (by decide), hk2, nO_pos (by omega), Nat.add_sub_cancel]) (fun I4 hI4 => kc I4 (by rw [← heq]; exact hI4)))
                 exact ⟨rfl, by rw [show mn = (P ++ [q]).length by omega]; rfl, rfl, trivial⟩
                )
        · refine x_iinc dX13_beensOf_76 rfl rfl (by decide) rfl ?_
          refine x_goto 9 dX13_beensOf_79 (by decide) ?_
          have hq : q = V 0 4 0 := by omega
          refine x_ls ?_ (kc I2 ?_)
          · exact ⟨rfl, rfl, rfl, trivial⟩
          · rw [blr_none _ _ (fun j h1 h2 => hno j h1 (by omega)), List.append_nil]; exact hS2
      rcases Nat.eq_zero_or_pos c with z | z
      · subst z
        refine x_iload_n dX13_beensOf_9 rfl ?_
        refine x_ifN_lt 118 dX13_beensOf_10 (by decide) (by omega) (fun h10 => ?_)
        refine x_aload_n dX13_beensOf_13 rfl ?_
        refine g_M_row fX13_57 dX13_beensOf_14 ?_
        refine x_iload_n dX13_beensOf_17 rfl ?_
        refine x_dup2 dX13_beensOf_18 rfl rfl ?_
        refine x_iald dX13_beensOf_19 rfl rfl (Nat.le_of_ble_eq_true rfl) (by first | exact Nat.le_of_ble_eq_true rfl | assumption | omega) ?_
        rw [show I1 98 0 P.length = -1 from hk]
        refine x_iconst dX13_beensOf_20 li_1 ?_
        refine x_iadd dX13_beensOf_21 ?_
        refine x_top (v := nI 0) (by decide) ?_
        refine x_iast dX13_beensOf_22 rfl rfl (Nat.le_of_ble_eq_true rfl) (by first | exact Nat.le_of_ble_eq_true rfl | assumption | omega) ?_
        refine x_ls ?_ key
        exact ⟨rfl, rfl, rfl, trivial⟩
      · have hk3 : I1 98 0 P.length = nI (c - 1) := by rw [hk, nO_pos (by omega)]
        refine x_iload_n dX13_beensOf_9 rfl ?_
        refine x_ifN_lt 118 dX13_beensOf_10 (by decide) (by omega) (fun h10 => ?_)
        refine x_aload_n dX13_beensOf_13 rfl ?_
        refine g_M_row fX13_57 dX13_beensOf_14 ?_
        refine x_iload_n dX13_beensOf_17 rfl ?_
        refine x_dup2 dX13_beensOf_18 rfl rfl ?_
        refine x_iald dX13_beensOf_19 rfl rfl (Nat.le_of_ble_eq_true rfl) (by first | exact Nat.le_of_ble_eq_true rfl | assumption | omega) ?_
        rw [hk3]
        refine x_iconst dX13_beensOf_20 li_1 ?_
        refine x_iaddN dX13_beensOf_21 ?_
        rw [show c - 1 + 1 = c by omega]
        refine x_iast dX13_beensOf_22 rfl rfl (Nat.le_of_ble_eq_true rfl) (by first | exact Nat.le_of_ble_eq_true rfl | assumption | omega) ?_
        refine x_ls ?_ key
        exact ⟨rfl, rfl, rfl, trivial⟩
  | succ r0 ihr =>
    intro P hl hPq n
    induction n with
    | zero => intro c T I1 h0; omega
    | succ n ih =>
      intro c T I1 hn hc h2000 hS hk kc
      have hP4 : P.length < 4 := by omega
      have key : X G vX13_beensOf (d + 3) (0, 0) 23 [(0, some (.ref (ad 13 0))), (1, some (.int (nI (mn)))), (2, some (.int (nI (P.length))))] [] (MM ad nb b r (xu I1 98 0 P.length (nI c)) L) (xT G (qV (fun M' => ∃ I', M' = MM ad nb b r I' L ∧ TB V Tz I' ∧ FB I I'))) := by
        refine lp_mbf (T := T) (P := P) (c0 := c) hV hb hbn hB h0 hmn hP4 hPq ?_ (V 0 4 0 + 1) c _ (by omega) (Nat.le_refl c) hc (fun j h1 h2 => absurd h1 (by omega)) ⟨hS.1.sm (by funext x y; rw [xu_ns (by decide)]) (by funext x y; rw [xu_ns (by decide)]), hS.2.1.tr (FB.of (s0 := 98) (fun q hq => by funext x y; rw [xu_ns hq]) (by omega)), fun i hi => by rw [xu_nk (by omega)]; exact hS.2.2 i hi⟩ xu_s
        intro q I2 hcq hq4 hno hok hS2 hk2
        have hB2 := hB.mx hS2.2.1.mx
        refine x_aload_n dX13_beensOf_60 rfl ?_
        refine g_M_row fX13_57 dX13_beensOf_61 ?_
        refine x_iload_n dX13_beensOf_64 rfl ?_
        refine x_iald dX13_beensOf_65 rfl rfl (Nat.le_of_ble_eq_true rfl) (by first | exact Nat.le_of_ble_eq_true rfl | assumption | omega) ?_
        rw [hk2]
        refine x_aload_n dX13_beensOf_66 rfl ?_
        refine g_M_border hb fX13_397 dX13_beensOf_67 ?_
        refine g_MB_places fX13_230 dX13_beensOf_70 hbn ?_
        refine x_top (y12_4 hB2) ?_
        refine x_icN_lt 82 dX13_beensOf_73 (by decide) (by omega) (by omega) (fun h73 => ?_) (fun h73 => ?_)
        · have hok2 := hok h73
          have hnx := blr_next (V := V) (P := P) (r := (r0 + 1)) (q := q) (V 0 4 0 - c) c hcq (by omega) hno hok2
          rw [show c + (V 0 4 0 - c) - (q + 1) = V 0 4 0 - (q + 1) by omega] at hnx
          have hlen : P.length + 1 = (P ++ [q]).length := by rw [List.length_append]; rfl
          have hPq2 : ∀ x ∈ P ++ [q], x < V 0 4 0 := fun x hx => by
            rcases List.mem_append.mp hx with e | e
            · exact hPq x e
            · rw [List.mem_singleton.mp e]; exact h73
          refine x_iload_n dX13_beensOf_82 rfl ?_
          refine x_iconst dX13_beensOf_83 li_1 ?_
          refine x_iaddN dX13_beensOf_84 ?_
          refine x_iload_n dX13_beensOf_85 rfl ?_
          refine x_icN_ge 102 dX13_beensOf_86 (by decide) (by omega) (by omega) (fun h86 => absurd h86 (by omega)) (fun h86 => ?_)
          refine x_iincN 1 dX13_beensOf_89 li_1 rfl (by decide) rfl ?_
          refine x_aload_n dX13_beensOf_92 rfl ?_
          refine g_M_row fX13_57 dX13_beensOf_93 ?_
          refine x_iload_n dX13_beensOf_96 rfl ?_
          refine x_iconst dX13_beensOf_97 li_m1 ?_
          refine x_iast dX13_beensOf_98 rfl rfl (Nat.le_of_ble_eq_true rfl) (by first | exact Nat.le_of_ble_eq_true rfl | assumption | omega) ?_
          refine x_goto 9 dX13_beensOf_99 (by decide) ?_
          have hex : bl V (r0 + 1) (P ++ [q]) = blr V r0 (P ++ [q]) (V 0 4 0 - 0) 0 := by rw [Nat.sub_zero]; exact bl_blr
          have heq : T ++ bl V (r0 + 1) (P ++ [q]) ++ blr V (r0 + 1) P (V 0 4 0 - (q + 1)) (q + 1) = T ++ blr V (r0 + 1) P (V 0 4 0 - c) c := by rw [hnx, List.append_assoc]
          refine x_ls ?_ (ihr (P ++ [q]) (by omega) hPq2 (V 0 4 0 + 1) 0 T _ (by omega) (by omega) (by rw [← hex]; have := h2000; rw [hnx] at this; simp only [List.length_append] at this ⊢; omega) ⟨hS2.1.sm (by funext x y; rw [xu_ns (by decide)]) (by funext x y; rw [xu_ns (by decide)]), hS2.2.1.tr (FB.of (s0 := 98) (fun q hq => by funext x y; rw [xu_ns hq]) (by omega)), fun i hi => by rw [xu_nk (by omega)]; exact pre98 hS2.2.2 hk2 i hi⟩ (by rw [← hlen, xu_s]; rfl) (fun I3 hI3 => ?_))
          · exact ⟨rfl, rfl, by rw [← hlen]; rfl, trivial⟩
          · rw [← hex] at hI3
            obtain ⟨u1, u2⟩ := un98 hI3.2.2
            rw [← hlen, nI_dec]
            refine x_ls ?_ (ih (q + 1) (T ++ bl V (r0 + 1) (P ++ [q])) I3 (by omega) (by omega) (by rw [heq]; exact h2000) ⟨hI3.1, hI3.2.1, u1⟩ (by rw [u2, nO_pos (by omega), Nat.add_sub_cancel]) (fun I4 hI4 => kc I4 (by rw [← heq]; exact hI4)))
            exact ⟨rfl, rfl, rfl, trivial⟩
        · refine x_iinc dX13_beensOf_76 rfl rfl (by decide) rfl ?_
          refine x_goto 9 dX13_beensOf_79 (by decide) ?_
          have hq : q = V 0 4 0 := by omega
          refine x_ls ?_ (kc I2 ?_)
          · exact ⟨rfl, rfl, rfl, trivial⟩
          · rw [blr_none _ _ (fun j h1 h2 => hno j h1 (by omega)), List.append_nil]; exact hS2
      rcases Nat.eq_zero_or_pos c with z | z
      · subst z
        refine x_iload_n dX13_beensOf_9 rfl ?_
        refine x_ifN_lt 118 dX13_beensOf_10 (by decide) (by omega) (fun h10 => ?_)
        refine x_aload_n dX13_beensOf_13 rfl ?_
        refine g_M_row fX13_57 dX13_beensOf_14 ?_
        refine x_iload_n dX13_beensOf_17 rfl ?_
        refine x_dup2 dX13_beensOf_18 rfl rfl ?_
        refine x_iald dX13_beensOf_19 rfl rfl (Nat.le_of_ble_eq_true rfl) (by first | exact Nat.le_of_ble_eq_true rfl | assumption | omega) ?_
        rw [show I1 98 0 P.length = -1 from hk]
        refine x_iconst dX13_beensOf_20 li_1 ?_
        refine x_iadd dX13_beensOf_21 ?_
        refine x_top (v := nI 0) (by decide) ?_
        refine x_iast dX13_beensOf_22 rfl rfl (Nat.le_of_ble_eq_true rfl) (by first | exact Nat.le_of_ble_eq_true rfl | assumption | omega) ?_
        refine x_ls ?_ key
        exact ⟨rfl, rfl, rfl, trivial⟩
      · have hk3 : I1 98 0 P.length = nI (c - 1) := by rw [hk, nO_pos (by omega)]
        refine x_iload_n dX13_beensOf_9 rfl ?_
        refine x_ifN_lt 118 dX13_beensOf_10 (by decide) (by omega) (fun h10 => ?_)
        refine x_aload_n dX13_beensOf_13 rfl ?_
        refine g_M_row fX13_57 dX13_beensOf_14 ?_
        refine x_iload_n dX13_beensOf_17 rfl ?_
        refine x_dup2 dX13_beensOf_18 rfl rfl ?_
        refine x_iald dX13_beensOf_19 rfl rfl (Nat.le_of_ble_eq_true rfl) (by first | exact Nat.le_of_ble_eq_true rfl | assumption | omega) ?_
        rw [hk3]
        refine x_iconst dX13_beensOf_20 li_1 ?_
        refine x_iaddN dX13_beensOf_21 ?_
        rw [show c - 1 + 1 = c by omega]
        refine x_iast dX13_beensOf_22 rfl rfl (Nat.le_of_ble_eq_true rfl) (by first | exact Nat.le_of_ble_eq_true rfl | assumption | omega) ?_
        refine x_ls ?_ key
        exact ⟨rfl, rfl, rfl, trivial⟩
set_option maxRecDepth 100000 in
set_option maxHeartbeats 600000 in
theorem m_beensOf (hV : VW V) {bi : Nat} (hb : b = some bi) (hbn : bi < nb) (hB : YB V bi I) (h0 : 0 < V 0 0 0) {m : Nat} (hm1 : 1 ≤ m) (hm4 : m ≤ 4) (hT : TB V T I) (hl : (T ++ bl V m []).length ≤ 2000) : Mt G vX13_beensOf (d + 3) (0, 0) [.ref (ad 13 0), .int (nI (m))] (MM ad nb b r I L) (qV (fun M' => ∃ I', M' = MM ad nb b r I' L ∧ TB V (T ++ bl V m []) I' ∧ FB I I')) := by
  have v0 := hV.1
  have v1 := hV.2.1
  have v2 := hV.2.2.1
  have v3 := hV.2.2.2.1
  have v4 := hV.2.2.2.2.1
  have v7 := hV.2.2.2.2.2.2.2.1
  have v9 := hV.2.2.2.2.2.2.2.2.2.1
  have v10 := hV.2.2.2.2.2.2.2.2.2.2.1
  refine x_start (by decide) (Nat.le_of_ble_eq_true rfl) ?_
  refine x_iconst dX13_beensOf_0 li_0 ?_
  refine x_istore_n dX13_beensOf_1 (by decide) rfl ?_
  refine x_aload_n dX13_beensOf_2 rfl ?_
  refine g_M_row fX13_57 dX13_beensOf_3 ?_
  refine x_iconst dX13_beensOf_6 li_0 ?_
  refine x_iconst dX13_beensOf_7 li_m1 ?_
  refine x_iast dX13_beensOf_8 rfl rfl (Nat.le_of_ble_eq_true rfl) (by first | exact Nat.le_of_ble_eq_true rfl | assumption | omega) ?_
  obtain ⟨r0, rfl⟩ : ∃ r0, m = r0 + 1 := ⟨m - 1, by omega⟩
  have ew : bl V (r0 + 1) [] = blr V r0 [] (V 0 4 0 - 0) 0 := by rw [Nat.sub_zero]; exact bl_blr
  refine x_ls ?_ (lp_bsr (Tz := T ++ bl V (r0 + 1) []) (mn := r0 + 1) hV hb hbn hB h0 hm4 r0 [] (by rw [List.length_nil]; omega) (fun x hx => absurd hx List.not_mem_nil) (V 0 4 0 + 1) 0 T _ (by omega) (by omega) (by rw [← ew]; exact hl) ⟨hT.sm (by funext x y; rw [xu_ns (by decide)]) (by funext x y; rw [xu_ns (by decide)]), FB.of (s0 := 98) (fun q hq => by funext x y; rw [xu_ns hq]) (by omega), fun i hi => absurd hi (Nat.not_lt_zero i)⟩ xu_s (fun I2 hI2 => ?_))
  · exact ⟨rfl, rfl, rfl, trivial⟩
  · rw [← ew] at hI2
    refine x_iload_n dX13_beensOf_9 rfl ?_
    refine x_if_lt 118 dX13_beensOf_10 (by decide) (fun h10 => ?_) (fun h10 => absurd (show nI 0 + Int32.ofInt (-1) < 0 by decide) h10)
    refine x_vret dX13_beensOf_118 rfl ?_
    exact ⟨rfl, _, rfl, hI2.1, hI2.2.1⟩
end M21
