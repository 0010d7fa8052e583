section M20
variable {G : xG} {ad : Nat → Nat → Nat} {nb : Nat} {b r : Option Nat} {L : Nat → Nat → Nat → Int64} {V : sV} {I : Nat → Nat → Nat → Int32} {d : Nat}

variable {P : List Nat} {T : List (List Nat)}
/-- half units behind the first k places of a row -/
def xq (V : sV) (P : List Nat) : Nat → Nat → Nat
  | 0 => fun _ => 0
  | k + 1 => cmf V (fun s => xq V P k s - (if k = 0 then 0 else fd (V 2 s 0) * V 7 (P.getD (k - 1) 0) (P.getD k 0))) (P.getD k 0)
theorem xq_le (hV : VW V) {s : Nat} : ∀ k, xq V P k s ≤ 198
  | 0 => Nat.zero_le _
  | k + 1 => cmf_le hV (Nat.le_trans (Nat.sub_le _ _) (xq_le hV k))
theorem xq_app {q : Nat} : ∀ k, k ≤ P.length → xq V (P ++ [q]) k = xq V P k
  | 0, _ => rfl
  | k + 1, h => by
    have e : ∀ i, i < P.length → (P ++ [q]).getD i 0 = P.getD i 0 := fun i hi => by rw [List.getD_eq_getElem?_getD, List.getD_eq_getElem?_getD, List.getElem?_append_left hi]
    show cmf V _ _ = cmf V _ _
    rw [xq_app k (by omega), e k (by omega)]
    congr 1
    funext s
    by_cases z : k = 0
    · rw [if_pos z, if_pos z]
    · rw [if_neg z, if_neg z, e (k - 1) (by omega)]
/-- may q be the next of a row -/
def pok (V : sV) (P : List Nat) (q : Nat) : Bool := decide (q ∉ P) && (decide (P.length = 0) || decide (0 < V 7 (P.getD (P.length - 1) 0) q))
/-- the rows so far, as the model counts them -/
def anP (V : sV) (T : List (List Nat)) : Nat := T.foldl (fun a w => a &&& sbit w) (2 ^ V 0 4 0 - 1)
theorem anP_app (w : List Nat) : anP V (T ++ [w]) = anP V T &&& sbit w := by unfold anP; rw [List.foldl_append]; rfl
def TB (V : sV) (T : List (List Nat)) (I : Nat → Nat → Nat → Int32) : Prop := I 13 0 34 = nI T.length ∧ I 13 0 35 = nI (orT T) ∧ I 13 0 36 = nI (anP V T) ∧ (T ≠ [] → I 13 0 37 = nI (T.getD 0 []).length ∧ ∀ i, i < (T.getD 0 []).length → I 99 0 i = nI ((T.getD 0 []).getD i 0))
def FB (I I' : Nat → Nat → Nat → Int32) : Prop := (∀ s, s ≠ 88 → s ≠ 98 → s ≠ 99 → s ≠ 13 → I' s = I s) ∧ ∀ k, k < 34 → I' 13 0 k = I 13 0 k
theorem FB.rf : FB I I := ⟨fun _ _ _ _ _ => rfl, fun _ _ => rfl⟩
theorem FB.tr {I1 I2 : Nat → Nat → Nat → Int32} (h1 : FB I I1) (h2 : FB I1 I2) : FB I I2 := ⟨fun s a c e g => (h2.1 s a c e g).trans (h1.1 s a c e g), fun k hk => (h2.2 k hk).trans (h1.2 k hk)⟩
theorem FB.of {I' : Nat → Nat → Nat → Int32} {s0 : Nat} (h : ∀ q, q ≠ s0 → I' q = I q) (hs : s0 = 88 ∨ s0 = 98 ∨ s0 = 99) : FB I I' := ⟨fun s a c e _ => h s (by omega), fun k _ => by rw [h 13 (by omega)]⟩
theorem FB.mx {I' : Nat → Nat → Nat → Int32} (h : FB I I') : MX I I' := ⟨fun s a c => h.1 s (fun z => a (by unfold msc; omega)) (fun z => a (by unfold msc; omega)) (fun z => a (by unfold msc; omega)) c, fun k hk => h.2 k (by omega)⟩
theorem TB.sm {I' : Nat → Nat → Nat → Int32} (h : TB V T I) (h13 : I' 13 = I 13) (h99 : I' 99 = I 99) : TB V T I' := by
  unfold TB at h ⊢
  rw [h13, h99]
  exact h

set_option maxRecDepth 100000 in
set_option maxHeartbeats 600000 in
theorem m_comesBy (hV : VW V) {bi : Nat} (hb : b = some bi) (hbn : bi < nb) (hB : YB V bi I) {g : Nat → Nat} (hx : ∀ s, s < V 0 2 0 → I 88 0 s = nI (g s)) (hg : ∀ s, s < V 0 2 0 → g s ≤ 198) {q : Nat} (hq4 : q < V 0 4 0) : Mt G vX13_comesBy (d) (0, 0) [.ref (ad 13 0), .int (nI (q))] (MM ad nb b r I L) (qV (fun M' => ∃ I', M' = MM ad nb b r I' L ∧ (∀ s, s < V 0 2 0 → I' 88 0 s = nI (cmf V g q s)) ∧ ∀ s, s ≠ 88 → I' s = I s)) := by
  have v0 := hV.1
  have v1 := hV.2.1
  have v2 := hV.2.2.1
  have v3 := hV.2.2.2.1
  have v4 := hV.2.2.2.2.1
  have v7 := hV.2.2.2.2.2.2.2.1
  have v9 := hV.2.2.2.2.2.2.2.2.2.1
  have v10 := hV.2.2.2.2.2.2.2.2.2.2.1
  have loop2 : ∀ (n : Nat) (k : Nat) (I1 : Nat → Nat → Nat → Int32), V 0 2 0 - k < n → k ≤ V 0 2 0 → (∀ s, s < k → I1 88 0 s = nI (cmf V g q s)) → (∀ s, k ≤ s → I1 88 0 s = I 88 0 s) → (∀ s, s ≠ 88 → I1 s = I s) → X G vX13_comesBy (d) (0, 0) 2 [(0, some (.ref (ad 13 0))), (1, some (.int (nI (q)))), (2, some (.int (nI (k))))] [] (MM ad nb b r I1 L) (xT G (qV (fun M' => ∃ I', M' = MM ad nb b r I' L ∧ (∀ s, s < V 0 2 0 → I' 88 0 s = nI (cmf V g q s)) ∧ ∀ s, s ≠ 88 → I' s = I s))) := by
    intro n
    induction n with
    | zero => intro k I1 h0; omega
    | succ n ih =>
      intro k I1 hn hk h1 h2 hs
      have hB := hB.sm (I' := I1) (fun q hq => hs q (by omega))
      have h8 := hV.2.2.2.2.2.2.2.2.2.2.2.2.2.2.2.2.2.1 q k
      refine x_iload_n dX13_comesBy_2 rfl ?_
      refine x_aload_n dX13_comesBy_3 rfl ?_
      refine g_M_border hb fX13_397 dX13_comesBy_4 ?_
      refine g_MB_smells fX13_301 dX13_comesBy_7 hbn ?_
      refine x_top (y12_2 hB) ?_
      refine x_icN_ge 53 dX13_comesBy_10 (by decide) (by omega) (by omega) (fun h10 => ?_) (fun h10 => ?_)
      · refine x_vret dX13_comesBy_53 rfl ?_
        obtain rfl : k = V 0 2 0 := by omega
        exact ⟨rfl, _, rfl, h1, hs⟩
      · have hgk := hg k h10
        refine x_iconst dX13_comesBy_13 li_2 ?_
        refine x_aload_n dX13_comesBy_14 rfl ?_
        refine g_M_border hb fX13_397 dX13_comesBy_15 ?_
        refine g_MB_leaves fX13_341 dX13_comesBy_18 hbn ?_
        refine x_bipush dX13_comesBy_21 lb_6 ?_
        refine x_iload_n dX13_comesBy_23 rfl ?_
        refine x_imulN dX13_comesBy_24 ?_
        refine x_iload_n dX13_comesBy_25 rfl ?_
        refine x_iaddN dX13_comesBy_26 ?_
        refine x_iald dX13_comesBy_27 rfl rfl hbn (by first | exact Nat.le_of_ble_eq_true rfl | assumption | omega) ?_
        refine x_top (y71 hB (by first | assumption | omega) (by first | assumption | omega)) ?_
        refine x_imulN dX13_comesBy_28 ?_
        refine x_istore_n dX13_comesBy_29 (by decide) rfl ?_
        refine x_iload_n dX13_comesBy_30 rfl ?_
        refine x_aload_n dX13_comesBy_31 rfl ?_
        refine g_M_x fX13_27 dX13_comesBy_32 ?_
        refine x_iload_n dX13_comesBy_35 rfl ?_
        refine x_iald dX13_comesBy_36 rfl rfl (Nat.le_of_ble_eq_true rfl) (by first | exact Nat.le_of_ble_eq_true rfl | assumption | omega) ?_
        rw [h2 k (Nat.le_refl k), hx k (by omega)]
        refine x_icN_le 47 dX13_comesBy_37 (by decide) (by omega) (by omega) (fun h37 => ?_) (fun h37 => ?_)
        · have emx : cmf V g q k = g k := by unfold cmf; omega
          refine x_iincN 1 dX13_comesBy_47 li_1 rfl (by decide) rfl ?_
          refine x_goto 2 dX13_comesBy_50 (by decide) ?_
          first
            | (refine x_ls ?_ (ih (k + 1) _ (by omega) (by omega) (fun s h => ?_) (fun s h => ?_) (fun s h => ?_))
               · exact ⟨rfl, rfl, rfl, trivial⟩
               · rw [xu_at]
                 by_cases e0 : s = k
                 · rw [if_pos e0, e0, emx]
                 · rw [if_neg e0]; exact h1 s (by omega)
               · rw [xu_nk (by omega)]; exact h2 s (by omega)
               · rw [← hs s h]; funext x y; rw [xu_ns h])
            | (refine x_ls ?_ (ih (k + 1) I1 (by omega) (by omega) (fun s h => ?_) (fun s h => h2 s (by omega)) hs)
               · exact ⟨rfl, rfl, rfl, trivial⟩
               · rcases (show s = k ∨ s < k by omega) with e0 | e0
                 · rw [e0, emx, h2 k (Nat.le_refl k), hx k (by omega)]
                 · exact h1 s e0)
        · have emx : cmf V g q k = 2 * V 8 q k := by unfold cmf; omega
          refine x_aload_n dX13_comesBy_40 rfl ?_
          refine g_M_x fX13_27 dX13_comesBy_41 ?_
          refine x_iload_n dX13_comesBy_44 rfl ?_
          refine x_iload_n dX13_comesBy_45 rfl ?_
          refine x_iast dX13_comesBy_46 rfl rfl (Nat.le_of_ble_eq_true rfl) (by first | exact Nat.le_of_ble_eq_true rfl | assumption | omega) ?_
          refine x_iincN 1 dX13_comesBy_47 li_1 rfl (by decide) rfl ?_
          refine x_goto 2 dX13_comesBy_50 (by decide) ?_
          first
            | (refine x_ls ?_ (ih (k + 1) _ (by omega) (by omega) (fun s h => ?_) (fun s h => ?_) (fun s h => ?_))
               · exact ⟨rfl, rfl, rfl, trivial⟩
               · rw [xu_at]
                 by_cases e0 : s = k
                 · rw [if_pos e0, e0, emx]
                 · rw [if_neg e0]; exact h1 s (by omega)
               · rw [xu_nk (by omega)]; exact h2 s (by omega)
               · rw [← hs s h]; funext x y; rw [xu_ns h])
            | (refine x_ls ?_ (ih (k + 1) I1 (by omega) (by omega) (fun s h => ?_) (fun s h => h2 s (by omega)) hs)
               · exact ⟨rfl, rfl, rfl, trivial⟩
               · rcases (show s = k ∨ s < k by omega) with e0 | e0
                 · rw [e0, emx, h2 k (Nat.le_refl k), hx k (by omega)]
                 · exact h1 s e0)
  refine x_start (by decide) (Nat.le_of_ble_eq_true rfl) ?_
  refine x_iconst dX13_comesBy_0 li_0 ?_
  refine x_istore_n dX13_comesBy_1 (by decide) rfl ?_
  refine x_ls ?_ (loop2 (V 0 2 0 + 1) 0 I (by omega) (by omega) (fun s h => absurd h (Nat.not_lt_zero s)) (fun _ _ => rfl) (fun _ _ => rfl))
  exact ⟨rfl, rfl, rfl, trivial⟩

theorem okw_no {g : Nat → Nat} {k : Nat} (h1 : V 17 k 0 ≠ 0) (h2 : g k / 2 + 1 ≠ V 17 k 0) : ∀ n, k < n → okw V g n = false
  | 0, h => absurd h (Nat.not_lt_zero k)
  | n + 1, h => by
    unfold okw
    by_cases e : k = n
    · subst e; rw [decide_eq_false h1, decide_eq_false h2]; simp
    · rw [okw_no h1 h2 n (by omega)]; rfl

set_option maxRecDepth 100000 in
set_option maxHeartbeats 600000 in
theorem lp_mwh3 (hV : VW V) {bi : Nat} (hb : b = some bi) (hbn : bi < nb) (hB : YB V bi I) (h0 : 0 < V 0 0 0) (hw : ∀ i, i < P.length → I 98 0 i = nI (P.getD i 0)) (hP4 : P.length ≤ 4) (hPq : ∀ q ∈ P, q < V 0 4 0)  : ∀ (n : Nat) (k : Nat) (I1 : Nat → Nat → Nat → Int32), V 0 2 0 - k < n → k ≤ V 0 2 0 → (∀ s, s < V 0 2 0 → I1 88 0 s = nI (xq V P P.length s)) → (∀ s, s ≠ 88 → I1 s = I s) → okw V (xq V P P.length) k = true → X G vX13_isWhiffed (d + 2) (0, 0) 80 [(0, some (.ref (ad 13 0))), (1, some (.int (nI (P.length)))), (2, some (.int (nI (k))))] [] (MM ad nb b r I1 L) (xT G (qI (fun rr M' => rr = bI (okw V (xq V P P.length) (V 0 2 0)) ∧ ∃ I', M' = MM ad nb b r I' L ∧ ∀ s, s ≠ 88 → I' s = I s))) := by
  have v0 := hV.1
  have v1 := hV.2.1
  have v2 := hV.2.2.1
  have v3 := hV.2.2.2.1
  have v4 := hV.2.2.2.2.1
  have v7 := hV.2.2.2.2.2.2.2.1
  have v9 := hV.2.2.2.2.2.2.2.2.2.1
  have v10 := hV.2.2.2.2.2.2.2.2.2.2.1
  intro n
  induction n with
  | zero => intro k I1 h0; omega
  | succ n ih =>
    intro k I1 hn hk hx hs ho
    have hB := hB.sm (I' := I1) (fun q hq => hs q (by omega))
    have h17 := hV.2.2.2.2.2.2.2.2.2.2.2.2.2.2.2.2.2.2.2.2.2.2.2 k
    have hxl := xq_le (V := V) (P := P) (s := k) hV P.length
    refine x_iload_n dX13_isWhiffed_80 rfl ?_
    refine x_aload_n dX13_isWhiffed_81 rfl ?_
    refine g_M_border hb fX13_397 dX13_isWhiffed_82 ?_
    refine g_MB_smells fX13_301 dX13_isWhiffed_85 hbn ?_
    refine x_top (y12_2 hB) ?_
    refine x_icN_ge 132 dX13_isWhiffed_88 (by decide) (by omega) (by omega) (fun h88 => ?_) (fun h88 => ?_)
    · refine x_iconst dX13_isWhiffed_132 li_1 ?_
      refine x_zret dX13_isWhiffed_133 rfl rfl ?_
      obtain rfl : k = V 0 2 0 := by omega
      refine ⟨_, rfl, ?_, _, rfl, hs⟩
      rw [ho]; rfl
    · refine x_aload_n dX13_isWhiffed_91 rfl ?_
      refine g_M_border hb fX13_397 dX13_isWhiffed_92 ?_
      refine g_MB_whiff fX13_274 dX13_isWhiffed_95 hbn ?_
      refine x_iload_n dX13_isWhiffed_98 rfl ?_
      refine x_iald dX13_isWhiffed_99 rfl rfl hbn (by first | exact Nat.le_of_ble_eq_true rfl | assumption | omega) ?_
      refine x_top (y80 hB (by first | assumption | omega) (by first | assumption | omega)) ?_
      refine x_iconst dX13_isWhiffed_100 li_m1 ?_
      refine x_ic_eq 126 dX13_isWhiffed_101 (by decide) (fun h101 => ?_) (fun h101 => ?_)
      · have e1 : okw V (xq V P P.length) (k + 1) = true := by unfold okw; rw [ho, decide_eq_true ((nO_m1 (by omega)).mp h101)]; rfl
        refine x_iincN 1 dX13_isWhiffed_126 li_1 rfl (by decide) rfl ?_
        refine x_goto 80 dX13_isWhiffed_129 (by decide) ?_
        refine x_ls ?_ (ih (k + 1) I1 (by omega) (by omega) hx hs e1)
        exact ⟨rfl, rfl, rfl, trivial⟩
      · have hw0 : V 17 k 0 ≠ 0 := fun z => h101 ((nO_m1 (by omega)).mpr z)
        refine x_aload_n dX13_isWhiffed_104 rfl ?_
        refine g_M_x fX13_27 dX13_isWhiffed_105 ?_
        refine x_iload_n dX13_isWhiffed_108 rfl ?_
        refine x_iald dX13_isWhiffed_109 rfl rfl (Nat.le_of_ble_eq_true rfl) (by first | exact Nat.le_of_ble_eq_true rfl | assumption | omega) ?_
        refine x_top (hx _ (by first | assumption | omega)) ?_
        refine x_iconst dX13_isWhiffed_110 li_2 ?_
        refine x_idivN dX13_isWhiffed_111 (by omega) (by omega) (by omega) ?_
        refine x_aload_n dX13_isWhiffed_112 rfl ?_
        refine g_M_border hb fX13_397 dX13_isWhiffed_113 ?_
        refine g_MB_whiff fX13_274 dX13_isWhiffed_116 hbn ?_
        refine x_iload_n dX13_isWhiffed_119 rfl ?_
        refine x_iald dX13_isWhiffed_120 rfl rfl hbn (by first | exact Nat.le_of_ble_eq_true rfl | assumption | omega) ?_
        refine x_top (y80 hB (by first | assumption | omega) (by first | assumption | omega)) ?_
        rw [nO_pos hw0]
        refine x_icN_eq 126 dX13_isWhiffed_121 (by decide) (by omega) (by omega) (fun h121 => ?_) (fun h121 => ?_)
        · have e1 : okw V (xq V P P.length) (k + 1) = true := by unfold okw; rw [ho, decide_eq_true (show xq V P P.length k / 2 + 1 = V 17 k 0 by omega)]; simp
          refine x_iincN 1 dX13_isWhiffed_126 li_1 rfl (by decide) rfl ?_
          refine x_goto 80 dX13_isWhiffed_129 (by decide) ?_
          refine x_ls ?_ (ih (k + 1) I1 (by omega) (by omega) hx hs e1)
          exact ⟨rfl, rfl, rfl, trivial⟩
        · refine x_iconst dX13_isWhiffed_124 li_0 ?_
          refine x_zret dX13_isWhiffed_125 rfl rfl ?_
          refine ⟨_, rfl, ?_, _, rfl, hs⟩
          rw [okw_no hw0 (by omega) _ h88]; rfl
set_option maxRecDepth 100000 in
set_option maxHeartbeats 600000 in
theorem lp_mwh2 (hV : VW V) {bi : Nat} (hb : b = some bi) (hbn : bi < nb) (hB : YB V bi I) (h0 : 0 < V 0 0 0) (hw : ∀ i, i < P.length → I 98 0 i = nI (P.getD i 0)) (hP4 : P.length ≤ 4) (hPq : ∀ q ∈ P, q < V 0 4 0)  : ∀ (n : Nat) (k : Nat) (I1 : Nat → Nat → Nat → Int32), P.length - k < n → k ≤ P.length → (∀ s, s < V 0 2 0 → I1 88 0 s = nI (xq V P k s)) → (∀ s, s ≠ 88 → I1 s = I s) → X G vX13_isWhiffed (d + 2) (0, 0) 23 [(0, some (.ref (ad 13 0))), (1, some (.int (nI (P.length)))), (2, some (.int (nI (k))))] [] (MM ad nb b r I1 L) (xT G (qI (fun rr M' => rr = bI (okw V (xq V P P.length) (V 0 2 0)) ∧ ∃ I', M' = MM ad nb b r I' L ∧ ∀ s, s ≠ 88 → I' s = I s))) := by
  have v0 := hV.1
  have v1 := hV.2.1
  have v2 := hV.2.2.1
  have v3 := hV.2.2.2.1
  have v4 := hV.2.2.2.2.1
  have v7 := hV.2.2.2.2.2.2.2.1
  have v9 := hV.2.2.2.2.2.2.2.2.2.1
  have v10 := hV.2.2.2.2.2.2.2.2.2.2.1
  intro n
  induction n with
  | zero => intro k I1 h0; omega
  | succ n ih =>
    intro k I1 hn hk hx hs
    have hB1 := hB.sm (I' := I1) (fun q hq => hs q (by omega))
    have hxl : ∀ s, s < V 0 2 0 → xq V P k s ≤ 198 := fun s _ => xq_le hV k
    refine x_iload_n dX13_isWhiffed_23 rfl ?_
    refine x_iload_n dX13_isWhiffed_24 rfl ?_
    refine x_icN_ge 78 dX13_isWhiffed_25 (by decide) (by omega) (by omega) (fun h25 => ?_) (fun h25 => ?_)
    · refine x_iconst dX13_isWhiffed_78 li_0 ?_
      refine x_istore_n dX13_isWhiffed_79 (by decide) rfl ?_
      obtain rfl : k = P.length := by omega
      refine x_ls ?_ (lp_mwh3 hV hb hbn hB h0 hw hP4 hPq (V 0 2 0 + 1) 0 I1 (by omega) (by omega) hx hs rfl)
      exact ⟨rfl, rfl, rfl, trivial⟩
    · have hq1 := getD_lt hPq h25
      refine x_iload_n dX13_isWhiffed_28 rfl ?_
      refine x_ifN_le 62 dX13_isWhiffed_29 (by decide) (by omega) (fun h29 => ?_) (fun h29 => ?_)
      · have hxc : ∀ s, s < V 0 2 0 → I1 88 0 s = nI (xq V P k s - (if k = 0 then 0 else fd (V 2 s 0) * V 7 (P.getD (k - 1) 0) (P.getD k 0))) := fun s hs2 => by rw [hx s hs2, if_pos (by omega), Nat.sub_zero]
        have hBc := hB1
        have hsc := hs
        refine x_aload_n dX13_isWhiffed_62 rfl ?_
        refine x_aload_n dX13_isWhiffed_63 rfl ?_
        refine g_M_row fX13_57 dX13_isWhiffed_64 ?_
        refine x_iload_n dX13_isWhiffed_67 rfl ?_
        refine x_iald dX13_isWhiffed_68 rfl rfl (Nat.le_of_ble_eq_true rfl) (by first | exact Nat.le_of_ble_eq_true rfl | assumption | omega) ?_
        first
          | rw [show I2 98 0 k = nI (P.getD k 0) by rw [f3 98 (by decide), hs 98 (by decide)]; exact hw _ h25]
          | rw [show I1 98 0 k = nI (P.getD k 0) by rw [hs 98 (by decide)]; exact hw _ h25]
        refine x_cvv (m_comesBy (d := d + 1) (q := P.getD k 0) hV hb hbn hBc hxc (fun s hs2 => Nat.le_trans (Nat.sub_le _ _) (hxl s hs2)) hq1) kX13_469 dX13_isWhiffed_69 rfl (Nat.le_of_ble_eq_true rfl) rfl rfl (Nat.le_of_ble_eq_true rfl) (fun Mu hq => ?_)
        obtain ⟨I3, rfl, k1, k2⟩ := hq
        refine x_iincN 1 dX13_isWhiffed_72 li_1 rfl (by decide) rfl ?_
        refine x_goto 23 dX13_isWhiffed_75 (by decide) ?_
        refine x_ls ?_ (ih (k + 1) I3 (by omega) (by omega) k1 (fun s h => (k2 s h).trans (hsc s h)))
        exact ⟨rfl, rfl, rfl, trivial⟩
      · have hq0 := getD_lt hPq (show k - 1 < P.length by omega)
        have h7 := hV.2.2.2.2.2.2.2.2.2.2.2.2.2.2.2.2.1 (P.getD (k - 1) 0) (P.getD k 0)
        refine x_aload_n dX13_isWhiffed_32 rfl ?_
        refine x_aload_n dX13_isWhiffed_33 rfl ?_
        refine g_M_border hb fX13_397 dX13_isWhiffed_34 ?_
        refine g_MB_hours fX13_334 dX13_isWhiffed_37 hbn ?_
        refine x_bipush dX13_isWhiffed_40 lb_6 ?_
        refine x_aload_n dX13_isWhiffed_42 rfl ?_
        refine g_M_row fX13_57 dX13_isWhiffed_43 ?_
        refine x_iload_n dX13_isWhiffed_46 rfl ?_
        refine x_iconst dX13_isWhiffed_47 li_1 ?_
        refine x_isubN dX13_isWhiffed_48 (by omega) ?_
        refine x_iald dX13_isWhiffed_49 rfl rfl (Nat.le_of_ble_eq_true rfl) (by first | exact Nat.le_of_ble_eq_true rfl | assumption | omega) ?_
        rw [show I1 98 0 (k - 1) = nI (P.getD (k - 1) 0) by rw [hs 98 (by decide)]; exact hw _ (by omega)]
        refine x_imulN dX13_isWhiffed_50 ?_
        refine x_aload_n dX13_isWhiffed_51 rfl ?_
        refine g_M_row fX13_57 dX13_isWhiffed_52 ?_
        refine x_iload_n dX13_isWhiffed_55 rfl ?_
        refine x_iald dX13_isWhiffed_56 rfl rfl (Nat.le_of_ble_eq_true rfl) (by first | exact Nat.le_of_ble_eq_true rfl | assumption | omega) ?_
        rw [show I1 98 0 k = nI (P.getD k 0) by rw [hs 98 (by decide)]; exact hw _ h25]
        refine x_iaddN dX13_isWhiffed_57 ?_
        refine x_iald dX13_isWhiffed_58 rfl rfl hbn (by first | exact Nat.le_of_ble_eq_true rfl | assumption | omega) ?_
        refine x_top (y70 hB1 (by first | assumption | omega) (by first | assumption | omega)) ?_
        refine x_cvv (m_fades (d := d) hV hb hbn hB1 (by omega) hx hxl) kX13_431 dX13_isWhiffed_59 rfl (Nat.le_of_ble_eq_true rfl) rfl rfl (Nat.le_of_ble_eq_true rfl) (fun Mu hq => ?_)
        obtain ⟨I2, rfl, f1, f2, f3⟩ := hq
        have hxc : ∀ s, s < V 0 2 0 → I2 88 0 s = nI (xq V P k s - (if k = 0 then 0 else fd (V 2 s 0) * V 7 (P.getD (k - 1) 0) (P.getD k 0))) := fun s hs2 => by rw [f1 s hs2, if_neg (by omega)]
        have hBc := hB1.sm (I' := I2) (fun q hq => f3 q (by omega))
        have hsc : ∀ s, s ≠ 88 → I2 s = I s := fun s h => (f3 s h).trans (hs s h)
        refine x_aload_n dX13_isWhiffed_62 rfl ?_
        refine x_aload_n dX13_isWhiffed_63 rfl ?_
        refine g_M_row fX13_57 dX13_isWhiffed_64 ?_
        refine x_iload_n dX13_isWhiffed_67 rfl ?_
        refine x_iald dX13_isWhiffed_68 rfl rfl (Nat.le_of_ble_eq_true rfl) (by first | exact Nat.le_of_ble_eq_true rfl | assumption | omega) ?_
        first
          | rw [show I2 98 0 k = nI (P.getD k 0) by rw [f3 98 (by decide), hs 98 (by decide)]; exact hw _ h25]
          | rw [show I1 98 0 k = nI (P.getD k 0) by rw [hs 98 (by decide)]; exact hw _ h25]
        refine x_cvv (m_comesBy (d := d + 1) (q := P.getD k 0) hV hb hbn hBc hxc (fun s hs2 => Nat.le_trans (Nat.sub_le _ _) (hxl s hs2)) hq1) kX13_469 dX13_isWhiffed_69 rfl (Nat.le_of_ble_eq_true rfl) rfl rfl (Nat.le_of_ble_eq_true rfl) (fun Mu hq => ?_)
        obtain ⟨I3, rfl, k1, k2⟩ := hq
        refine x_iincN 1 dX13_isWhiffed_72 li_1 rfl (by decide) rfl ?_
        refine x_goto 23 dX13_isWhiffed_75 (by decide) ?_
        refine x_ls ?_ (ih (k + 1) I3 (by omega) (by omega) k1 (fun s h => (k2 s h).trans (hsc s h)))
        exact ⟨rfl, rfl, rfl, trivial⟩
set_option maxRecDepth 100000 in
set_option maxHeartbeats 600000 in
theorem lp_mwh1 (hV : VW V) {bi : Nat} (hb : b = some bi) (hbn : bi < nb) (hB : YB V bi I) (h0 : 0 < V 0 0 0) (hw : ∀ i, i < P.length → I 98 0 i = nI (P.getD i 0)) (hP4 : P.length ≤ 4) (hPq : ∀ q ∈ P, q < V 0 4 0)  : ∀ (n : Nat) (k : Nat) (I1 : Nat → Nat → Nat → Int32), 6 - k < n → k ≤ 6 → (∀ s, s < k → I1 88 0 s = nI 0) → (∀ s, s ≠ 88 → I1 s = I s) → X G vX13_isWhiffed (d + 2) (0, 0) 2 [(0, some (.ref (ad 13 0))), (1, some (.int (nI (P.length)))), (2, some (.int (nI (k))))] [] (MM ad nb b r I1 L) (xT G (qI (fun rr M' => rr = bI (okw V (xq V P P.length) (V 0 2 0)) ∧ ∃ I', M' = MM ad nb b r I' L ∧ ∀ s, s ≠ 88 → I' s = I s))) := by
  have v0 := hV.1
  have v1 := hV.2.1
  have v2 := hV.2.2.1
  have v3 := hV.2.2.2.1
  have v4 := hV.2.2.2.2.1
  have v7 := hV.2.2.2.2.2.2.2.1
  have v9 := hV.2.2.2.2.2.2.2.2.2.1
  have v10 := hV.2.2.2.2.2.2.2.2.2.2.1
  intro n
  induction n with
  | zero => intro k I1 h0; omega
  | succ n ih =>
    intro k I1 hn hk hx hs
    refine x_iload_n dX13_isWhiffed_2 rfl ?_
    refine x_bipush dX13_isWhiffed_3 lb_6 ?_
    refine x_icN_ge 21 dX13_isWhiffed_5 (by decide) (by omega) (by omega) (fun h5 => ?_) (fun h5 => ?_)
    · refine x_iconst dX13_isWhiffed_21 li_0 ?_
      refine x_istore_n dX13_isWhiffed_22 (by decide) rfl ?_
      refine x_ls ?_ (lp_mwh2 hV hb hbn hB h0 hw hP4 hPq (P.length + 1) 0 I1 (by omega) (by omega) (fun s h => hx s (by omega)) hs)
      exact ⟨rfl, rfl, rfl, trivial⟩
    · refine x_aload_n dX13_isWhiffed_8 rfl ?_
      refine g_M_x fX13_27 dX13_isWhiffed_9 ?_
      refine x_iload_n dX13_isWhiffed_12 rfl ?_
      refine x_iconst dX13_isWhiffed_13 li_0 ?_
      refine x_iast dX13_isWhiffed_14 rfl rfl (Nat.le_of_ble_eq_true rfl) (by first | exact Nat.le_of_ble_eq_true rfl | assumption | omega) ?_
      refine x_iincN 1 dX13_isWhiffed_15 li_1 rfl (by decide) rfl ?_
      refine x_goto 2 dX13_isWhiffed_18 (by decide) ?_
      refine x_ls ?_ (ih (k + 1) _ (by omega) (by omega) (fun s h => ?_) (fun s h => ?_))
      · exact ⟨rfl, rfl, rfl, trivial⟩
      · rw [xu_at]
        by_cases e0 : s = k
        · rw [if_pos e0]
        · rw [if_neg e0]; exact hx s (by omega)
      · rw [← hs s h]; funext x y; rw [xu_ns h]
set_option maxRecDepth 100000 in
set_option maxHeartbeats 600000 in
theorem m_isWhiffed (hV : VW V) {bi : Nat} (hb : b = some bi) (hbn : bi < nb) (hB : YB V bi I) (h0 : 0 < V 0 0 0) (hw : ∀ i, i < P.length → I 98 0 i = nI (P.getD i 0)) (hP4 : P.length ≤ 4) (hPq : ∀ q ∈ P, q < V 0 4 0) : Mt G vX13_isWhiffed (d + 2) (0, 0) [.ref (ad 13 0), .int (nI (P.length))] (MM ad nb b r I L) (qI (fun rr M' => rr = bI (okw V (xq V P P.length) (V 0 2 0)) ∧ ∃ I', M' = MM ad nb b r I' L ∧ ∀ s, s ≠ 88 → I' s = I s)) := by
  refine x_start (by decide) (Nat.le_of_ble_eq_true rfl) ?_
  refine x_iconst dX13_isWhiffed_0 li_0 ?_
  refine x_istore_n dX13_isWhiffed_1 (by decide) rfl ?_
  refine x_ls ?_ (lp_mwh1 hV hb hbn hB h0 hw hP4 hPq 7 0 I (by omega) (by omega) (fun s h => absurd h (Nat.not_lt_zero s)) (fun _ _ => rfl))
  exact ⟨rfl, rfl, rfl, trivial⟩
set_option maxRecDepth 100000 in
set_option maxHeartbeats 600000 in
theorem m_isNext (hV : VW V) {bi : Nat} (hb : b = some bi) (hbn : bi < nb) (hB : YB V bi I) (hw : ∀ i, i < P.length → I 98 0 i = nI (P.getD i 0)) (hP4 : P.length < 4) (hPq : ∀ x ∈ P, x < V 0 4 0) {q : Nat} (hq4 : q < V 0 4 0) (hwq : I 98 0 P.length = nI q) : Mt G vX13_isNext (d) (0, 0) [.ref (ad 13 0), .int (nI (P.length))] (MM ad nb b r I L) (qE (bI (pok V P q)) (MM ad nb b r I L)) := by
  have v0 := hV.1
  have v1 := hV.2.1
  have v2 := hV.2.2.1
  have v3 := hV.2.2.2.1
  have v4 := hV.2.2.2.2.1
  have v7 := hV.2.2.2.2.2.2.2.1
  have v9 := hV.2.2.2.2.2.2.2.2.2.1
  have v10 := hV.2.2.2.2.2.2.2.2.2.2.1
  have h7 := hV.2.2.2.2.2.2.2.2.2.2.2.2.2.2.2.2.1 (P.getD (P.length - 1) 0) q
  have loop2 : ∀ (n : Nat) (k : Nat), P.length - k < n → k ≤ P.length → (∀ i, i < k → P.getD i 0 ≠ q) → X G vX13_isNext (d) (0, 0) 2 [(0, some (.ref (ad 13 0))), (1, some (.int (nI (P.length)))), (2, some (.int (nI (k))))] [] (MM ad nb b r I L) (xT G (qE (bI (pok V P q)) (MM ad nb b r I L))) := by
    intro n
    induction n with
    | zero => intro k h0; omega
    | succ n ih =>
      intro k hn hk hn
      refine x_iload_n dX13_isNext_2 rfl ?_
      refine x_iload_n dX13_isNext_3 rfl ?_
      refine x_icN_ge 30 dX13_isNext_4 (by decide) (by omega) (by omega) (fun h4 => ?_) (fun h4 => ?_)
      · have hnm : q ∉ P := fun z => by
          obtain ⟨i, hi, e⟩ := List.mem_iff_getElem.mp z
          exact hn i (by omega) (by rw [List.getD_eq_getElem?_getD, List.getElem?_eq_getElem hi]; exact e)
        refine x_iload_n dX13_isNext_30 rfl ?_
        refine x_ifN_eq 63 dX13_isNext_31 (by decide) (by omega) (fun h31 => ?_) (fun h31 => ?_)
        · have hpk : pok V P q = true := by unfold pok; rw [decide_eq_true hnm, decide_eq_true (show P.length = 0 by omega)]; rfl
          refine x_iconst dX13_isNext_63 li_1 ?_
          refine x_goto 68 dX13_isNext_64 (by decide) ?_
          refine x_zret dX13_isNext_68 rfl rfl ?_
          rw [hpk]
          exact ⟨_, rfl, rfl, rfl⟩
        · refine x_aload_n dX13_isNext_34 rfl ?_
          refine g_M_border hb fX13_397 dX13_isNext_35 ?_
          refine g_MB_hours fX13_334 dX13_isNext_38 hbn ?_
          refine x_bipush dX13_isNext_41 lb_6 ?_
          refine x_aload_n dX13_isNext_43 rfl ?_
          refine g_M_row fX13_57 dX13_isNext_44 ?_
          refine x_iload_n dX13_isNext_47 rfl ?_
          refine x_iconst dX13_isNext_48 li_1 ?_
          refine x_isubN dX13_isNext_49 (by omega) ?_
          refine x_iald dX13_isNext_50 rfl rfl (Nat.le_of_ble_eq_true rfl) (by first | exact Nat.le_of_ble_eq_true rfl | assumption | omega) ?_
          have hl4 := getD_lt hPq (show P.length - 1 < P.length by omega)
          rw [hw (P.length - 1) (by omega)]
          refine x_imulN dX13_isNext_51 ?_
          refine x_aload_n dX13_isNext_52 rfl ?_
          refine g_M_row fX13_57 dX13_isNext_53 ?_
          refine x_iload_n dX13_isNext_56 rfl ?_
          refine x_iald dX13_isNext_57 rfl rfl (Nat.le_of_ble_eq_true rfl) (by first | exact Nat.le_of_ble_eq_true rfl | assumption | omega) ?_
          rw [hwq]
          refine x_iaddN dX13_isNext_58 ?_
          refine x_iald dX13_isNext_59 rfl rfl hbn (by first | exact Nat.le_of_ble_eq_true rfl | assumption | omega) ?_
          refine x_top (y70 hB (by first | assumption | omega) (by first | assumption | omega)) ?_
          refine x_ifN_le 67 dX13_isNext_60 (by decide) (by omega) (fun h60 => ?_) (fun h60 => ?_)
          · have hpk : pok V P q = false := by unfold pok; rw [decide_eq_false (show ¬ P.length = 0 by omega), decide_eq_false (show ¬ 0 < V 7 (P.getD (P.length - 1) 0) q by omega)]; simp
            refine x_iconst dX13_isNext_67 li_0 ?_
            refine x_zret dX13_isNext_68 rfl rfl ?_
            rw [hpk]
            exact ⟨_, rfl, rfl, rfl⟩
          · have hpk : pok V P q = true := by unfold pok; rw [decide_eq_true hnm, decide_eq_true (show 0 < V 7 (P.getD (P.length - 1) 0) q by omega)]; simp
            refine x_iconst dX13_isNext_63 li_1 ?_
            refine x_goto 68 dX13_isNext_64 (by decide) ?_
            refine x_zret dX13_isNext_68 rfl rfl ?_
            rw [hpk]
            exact ⟨_, rfl, rfl, rfl⟩
      · have hk4 := getD_lt hPq h4
        refine x_aload_n dX13_isNext_7 rfl ?_
        refine g_M_row fX13_57 dX13_isNext_8 ?_
        refine x_iload_n dX13_isNext_11 rfl ?_
        refine x_iald dX13_isNext_12 rfl rfl (Nat.le_of_ble_eq_true rfl) (by first | exact Nat.le_of_ble_eq_true rfl | assumption | omega) ?_
        rw [hw k h4]
        refine x_aload_n dX13_isNext_13 rfl ?_
        refine g_M_row fX13_57 dX13_isNext_14 ?_
        refine x_iload_n dX13_isNext_17 rfl ?_
        refine x_iald dX13_isNext_18 rfl rfl (Nat.le_of_ble_eq_true rfl) (by first | exact Nat.le_of_ble_eq_true rfl | assumption | omega) ?_
        rw [hwq]
        refine x_icN_ne 24 dX13_isNext_19 (by decide) (by omega) (by omega) (fun h19 => ?_) (fun h19 => ?_)
        · refine x_iincN 1 dX13_isNext_24 li_1 rfl (by decide) rfl ?_
          refine x_goto 2 dX13_isNext_27 (by decide) ?_
          refine x_ls ?_ (ih (k + 1) (by omega) (by omega) (fun i hi => ?_))
          · exact ⟨rfl, rfl, rfl, trivial⟩
          · rcases (show i = k ∨ i < k by omega) with e | e
            · subst e; exact h19
            · exact hn i e
        · have hpk : pok V P q = false := by unfold pok; rw [decide_eq_false (fun z => z (by rw [← h19, List.getD_eq_getElem?_getD, List.getElem?_eq_getElem h4]; exact List.getElem_mem h4))]; rfl
          refine x_iconst dX13_isNext_22 li_0 ?_
          refine x_zret dX13_isNext_23 rfl rfl ?_
          rw [hpk]
          exact ⟨_, rfl, rfl, rfl⟩
  refine x_start (by decide) (Nat.le_of_ble_eq_true rfl) ?_
  refine x_iconst dX13_isNext_0 li_0 ?_
  refine x_istore_n dX13_isNext_1 (by decide) rfl ?_
  refine x_ls ?_ (loop2 (P.length + 1) 0 (by omega) (by omega) (fun i h => absurd h (Nat.not_lt_zero i)))
  exact ⟨rfl, rfl, rfl, trivial⟩
end M20
