section Ways2
variable {G : xG} {ad : Nat → Nat → Nat} {nb : Nat} {b r : Option Nat} {L : Nat → Nat → Nat → Int64} {V : sV} {I : Nat → Nat → Nat → Int32} {d : Nat}

/-- how many places but those of w, but to, are among the first n -/
def cn (to : Nat) (w : List Nat) : Nat → Nat
  | 0 => 0
  | n + 1 => cn to w n + (if n ∉ w ∧ n ≠ to then 1 else 0)
def cB : Nat → Nat
  | 0 => 1
  | u + 1 => 1 + (u + 1) * cB u
theorem cn_s {to n : Nat} {w : List Nat} : cn to w (n + 1) = cn to w n + (if n ∉ w ∧ n ≠ to then 1 else 0) := rfl
theorem cB_s {u : Nat} : cB (u + 1) = 1 + (u + 1) * cB u := rfl
theorem cn_app {to q : Nat} {w : List Nat} (hq : q ∉ w) (hto : q ≠ to) : ∀ n, cn to (w ++ [q]) n + (if q < n then 1 else 0) = cn to w n
  | 0 => rfl
  | n + 1 => by
    have ih := cn_app hq hto n
    unfold cn
    by_cases e : n = q
    · subst e
      rw [if_neg (Nat.lt_irrefl n)] at ih
      rw [if_neg (fun z => z.1 (by simp)), if_pos (Nat.lt_succ_self n), if_pos ⟨hq, hto⟩]
      omega
    · have h1 : (n ∉ w ++ [q] ∧ n ≠ to) ↔ (n ∉ w ∧ n ≠ to) := by simp [e]
      have h2 : (q < n + 1) ↔ (q < n) := by omega
      simp only [h1, h2]
      omega
theorem cn_le {to : Nat} {w : List Nat} : ∀ n, cn to w n ≤ n
  | 0 => Nat.le_refl 0
  | n + 1 => by
    have := cn_le (to := to) (w := w) n
    unfold cn
    split <;> omega
theorem cn_to {to : Nat} {w : List Nat} : ∀ n, to < n → cn to w n + 1 ≤ n
  | 0, h => by omega
  | n + 1, h => by
    unfold cn
    by_cases e : n = to
    · rw [if_neg (fun z => z.2 e)]
      have := cn_le (to := to) (w := w) n
      omega
    · have := cn_to (to := to) (w := w) n (by omega)
      split <;> omega
theorem cn_to2 {to p : Nat} (hp : p ≠ to) : ∀ n, to < n → p < n → cn to [p] n + 2 ≤ n := by
  intro n h1 h2
  have h3 := cn_app (to := to) (q := p) (w := []) (by simp) hp n
  rw [if_pos h2] at h3
  have h4 := cn_to (to := to) (w := []) n h1
  simp only [List.nil_append] at h3
  omega
theorem cB_pos : ∀ n, 1 ≤ cB n
  | 0 => Nat.le_refl 1
  | n + 1 => by unfold cB; omega
theorem cB_mono {m n : Nat} (h : m ≤ n) : cB m ≤ cB n := by
  induction n with
  | zero => rw [Nat.le_zero.mp h]; exact Nat.le_refl _
  | succ n ih =>
    by_cases e : m = n + 1
    · rw [e]; exact Nat.le_refl _
    · have h1 := ih (by omega)
      have h2 : cB n ≤ (n + 1) * cB n := Nat.le_mul_of_pos_left _ (by omega)
      rw [cB_s]
      omega
/-- so many ways there are at most -/
theorem ex_le {to : Nat} : ∀ (f : Nat) (w : List Nat) (p : Nat), (ex V to f w p).length ≤ (if p = to then 1 else cB (cn to (w ++ [p]) (V 0 4 0)))
  | 0, w, p => by simp [ex]
  | f + 1, w, p => by
    unfold ex
    by_cases hp : p = to
    · rw [if_pos hp, if_pos hp]; simp
    · rw [if_neg hp, if_neg hp]
      generalize hg : (fun q => if 0 < V 7 p q ∧ q ∉ w ++ [p] then ex V to f (w ++ [p]) q else []) = g
      have hgl : ∀ q, (g q).length ≤ (if q ∉ w ++ [p] then (if q = to then 1 else cB (cn to (w ++ [p] ++ [q]) (V 0 4 0))) else 0) := by
        intro q
        rw [← hg]
        simp only []
        by_cases h : q ∉ w ++ [p]
        · rw [if_pos h]
          have := ex_le (to := to) f (w ++ [p]) q
          split
          · exact this
          · simp
        · rw [if_neg h, if_neg (fun z => h z.2)]; simp
      have key : ∀ K m, cB (cn to (w ++ [p]) (V 0 4 0) - 1) = K → m ≤ V 0 4 0 → ((List.range m).flatMap g).length ≤ (if to < m then 1 else 0) + cn to (w ++ [p]) m * K := by
        intro K m hK
        induction m with
        | zero => intro _; simp
        | succ m ih =>
          intro hm
          have h1 := ih (by omega)
          have h2 := hgl m
          rw [rg_succ, List.length_append, cn_s]
          by_cases hmp : m ∉ w ++ [p]
          · rw [if_pos hmp] at h2
            by_cases hmt : m = to
            · rw [if_pos hmt] at h2
              rw [if_neg (fun z : m ∉ w ++ [p] ∧ m ≠ to => z.2 hmt), if_pos (show to < m + 1 by omega)]
              rw [if_neg (show ¬ to < m by omega)] at h1
              rw [Nat.add_zero]
              omega
            · rw [if_neg hmt] at h2
              have h3 := cn_app (to := to) hmp hmt (V 0 4 0)
              rw [if_pos (by omega)] at h3
              have h4 : cn to (w ++ [p] ++ [m]) (V 0 4 0) = cn to (w ++ [p]) (V 0 4 0) - 1 := by omega
              rw [h4, hK] at h2
              rw [if_pos (show m ∉ w ++ [p] ∧ m ≠ to from ⟨hmp, hmt⟩), Nat.add_mul, Nat.one_mul]
              have h5 : (if to < m + 1 then 1 else 0) = (if to < m then 1 else 0) := by
                have : (to < m + 1) ↔ (to < m) := by omega
                simp only [this]
              rw [h5]
              omega
          · rw [if_neg hmp] at h2
            rw [if_neg (fun z : m ∉ w ++ [p] ∧ m ≠ to => hmp z.1)]
            simp only [Nat.add_zero]
            have h5 : (if to < m then 1 else 0) ≤ (if to < m + 1 then 1 else 0) := by split <;> split <;> omega
            omega
      have h1 := key _ (V 0 4 0) rfl (Nat.le_refl _)
      have h2 : (if to < V 0 4 0 then 1 else 0) ≤ 1 := by split <;> omega
      cases hc : cn to (w ++ [p]) (V 0 4 0) with
      | zero =>
        rw [hc] at h1
        simp only [Nat.zero_mul, Nat.add_zero] at h1
        show _ ≤ 1
        omega
      | succ u =>
        rw [hc] at h1
        simp only [Nat.add_sub_cancel] at h1
        rw [cB_s]
        omega
theorem ex_65 (hV : VW V) {to p : Nat} (hto : to < V 0 4 0) (hp : p < V 0 4 0) : (ex V to 6 [] p).length ≤ 65 := by
  have h := ex_le (V := V) (to := to) 6 [] p
  by_cases e : p = to
  · rw [if_pos e] at h; omega
  · rw [if_neg e] at h
    have h2 := cn_to2 e (V 0 4 0) hto hp
    have h6 := hV.2.2.2.2.1
    have h3 := cB_mono (show cn to [p] (V 0 4 0) ≤ 4 by omega)
    have h4 : cB 4 = 65 := rfl
    simp only [List.nil_append] at h
    omega
/-- DUTY along a way, of its stops before the k-th -/
def dl (V : sV) (f : Nat → Nat) (sort : Nat) (w : List Nat) : Nat → Nat
  | 0 => 0
  | k + 1 => dl V f sort w k + (if k = 0 then 0 else dtn V f sort (cum V w k) (w.getD k 0) (V 6 (w.getD k 0) 0))
theorem dl_s {f : Nat → Nat} {sort k : Nat} {w : List Nat} (h : k ≠ 0) : dl V f sort w (k + 1) = dl V f sort w k + dtn V f sort (cum V w k) (w.getD k 0) (V 6 (w.getD k 0) 0) := by
  show _ + (if k = 0 then 0 else _) = _
  rw [if_neg h]
theorem tol_le {g : Nat → Nat} {sort p skill : Nat} (hV : VW V) (hg : ∀ s, s < 6 → g s ≤ 99) : tol V g sort p skill ≤ 10692 := by
  have h1 := tls_le (land := V 5 p 0) (skill := skill) hV hg (V 0 2 0) (Nat.le_refl _)
  have h6 := hV.2.2.1
  unfold tol
  split
  · omega
  · split
    · omega
    · split <;> omega
theorem dtn_le {f : Nat → Nat} {sort H p m : Nat} (hV : VW V) (hf : ∀ s, s < 6 → f s ≤ 198) : dtn V f sort H p m ≤ 10692 := by
  unfold dtn
  split
  · omega
  · exact tol_le hV (fun s hs => str_le (hf s hs))
theorem dl_le {f : Nat → Nat} {sort : Nat} {w : List Nat} (hV : VW V) (hf : ∀ s, s < 6 → f s ≤ 198) : ∀ k, dl V f sort w k ≤ 10692 * k
  | 0 => by simp [dl]
  | k + 1 => by
    have h1 := dl_le (sort := sort) (w := w) hV hf k
    have h2 := dtn_le (sort := sort) (H := cum V w k) (p := w.getD k 0) (m := V 6 (w.getD k 0) 0) hV hf
    unfold dl
    split <;> omega
theorem getD_lt {w : List Nat} {n i : Nat} (h : ∀ q ∈ w, q < n) (hi : i < w.length) : w.getD i 0 < n := by
  rw [List.getD_eq_getElem?_getD, List.getElem?_eq_getElem hi]
  exact h _ (List.getElem_mem hi)
theorem XB.nz (h : XB V 0 I) (hV : VW V) : NZ V (fun p => V 6 p 0) 22 0 I := fun p hp => ⟨(h.2.2.2.2.1 p hp).2, (hV.2.2.2.2.2.2.2.2.2.2.2.2.2.2.2.1 p hp).2⟩
theorem WS.sm {W : List (List Nat)} {I I' : Nat → Nat → Nat → Int32} (h : WS V W I) (hs : ∀ s, s = 10 ∨ s = 48 ∨ s = 50 ∨ s = 52 → I' s = I s) : WS V W I' := by
  unfold WS at h ⊢
  simp only [hs 10 (by omega), hs 48 (by omega), hs 50 (by omega), hs 52 (by omega)]
  exact h

set_option maxRecDepth 100000 in
set_option maxHeartbeats 4000000 in
theorem c_dutyAlong (hV : VW V) (hB : XB V 0 I) {W : List (List Nat)} {w : List Nat} {k0 h j sort : Nat} {f : Nat → Nat} (hW : WS V W I) (hk : W[k0]? = some w) (hh : xsh h = .inl (0, 6)) (hh1 : h ≠ 41 ∧ h ≠ 1) (hj : j < CC nb h) (hf : ∀ s, s < 6 → I h j s = nI (f s) ∧ f s ≤ 198) (hso : sort < 4) : Mt G vX10_dutyAlong (d + 2 + 1) (0, 0) [.ref (ad 10 0), .int (nI (k0)), .ref (ad h j), .int (nI (sort))] (MM ad nb b r I L) (qI (fun rr M' => rr = nI (dl V f sort w w.length) ∧ ∃ I', M' = MM ad nb b r I' L ∧ Sm (fun s => s = 1 ∨ s = 41) I I')) := by
  have hp6 := hV.2.2.2.2.1
  obtain ⟨g0, g65, hh2⟩ := hW
  obtain ⟨g1, g2, g3, g4, g5⟩ := hh2 k0 w hk
  have hk65 := (List.getElem?_eq_some_iff.mp hk).1
  have loop6 : ∀ (n : Nat) (k : Nat) (I1 : Nat → Nat → Nat → Int32), w.length - k < n → 1 ≤ k → k ≤ w.length → Sm (fun s => s = 1 ∨ s = 41) I I1 → X G vX10_dutyAlong (d + 2 + 1) (0, 0) 6 [(0, some (.ref (ad 10 0))), (1, some (.int (nI (k0)))), (2, some (.ref (ad h j))), (3, some (.int (nI (sort)))), (4, some (.int (nI (dl V f sort w k)))), (5, some (.int (nI (k))))] [] (MM ad nb b r I1 L) (xT G (qI (fun rr M' => rr = nI (dl V f sort w w.length) ∧ ∃ I', M' = MM ad nb b r I' L ∧ Sm (fun s => s = 1 ∨ s = 41) I I'))) := by
    intro n
    induction n with
    | zero => intro k I1 h0; omega
    | succ n ih =>
      intro k I1 hn hk1 hk0 hi
      have hB1 : XB V 0 I1 := hB.sm (fun s h1 h2 => hi s (by omega))
      have el : I1 48 0 k0 = nI w.length := by rw [hi 48 (by omega)]; exact g1
      refine x_iload dX10_dutyAlong_6 rfl ?_
      refine x_aload_n dX10_dutyAlong_8 rfl ?_
      refine g_Ways_lengths fX10_11 dX10_dutyAlong_9 ?_
      refine x_iload_n dX10_dutyAlong_12 rfl ?_
      refine x_iald dX10_dutyAlong_13 rfl rfl (Nat.le_of_ble_eq_true rfl) (by first | exact Nat.le_of_ble_eq_true rfl | assumption | omega) ?_
      rw [el]
      refine x_icN_ge 83 dX10_dutyAlong_14 (by decide) (by omega) (by omega) (fun h14 => ?_) (fun h14 => ?_)
      · refine x_iload dX10_dutyAlong_83 rfl ?_
        refine x_iret dX10_dutyAlong_85 rfl ?_
        exact ⟨_, rfl, by rw [Nat.le_antisymm hk0 h14], _, rfl, hi⟩
      · refine x_aload_n dX10_dutyAlong_17 rfl ?_
        refine g_Ways_stops fX10_17 dX10_dutyAlong_18 ?_
        refine x_iload_n dX10_dutyAlong_21 rfl ?_
        refine aa_Ways_stops dX10_dutyAlong_22 rfl (by first | exact Nat.le_of_ble_eq_true rfl | assumption | omega) ?_
        refine x_iload dX10_dutyAlong_23 rfl ?_
        refine x_iald dX10_dutyAlong_25 rfl rfl (Nat.lt_of_lt_of_le (by first | assumption | omega | decide) (Nat.le_refl 65)) (by first | exact Nat.le_of_ble_eq_true rfl | assumption | omega) ?_
        have hgk := g5 k h14
        have hql := getD_lt g4 h14
        have es : I1 50 k0 k = nI (w.getD k 0) := by rw [hi 50 (by omega)]; exact hgk.1
        rw [es]
        refine x_istore dX10_dutyAlong_26 (by decide) rfl ?_
        refine x_aload_n dX10_dutyAlong_28 rfl ?_
        refine g_Ways_air fX10_36 dX10_dutyAlong_29 ?_
        refine x_aload_n dX10_dutyAlong_32 rfl ?_
        refine x_aload_n dX10_dutyAlong_33 rfl ?_
        refine g_Ways_arrivals fX10_20 dX10_dutyAlong_34 ?_
        refine x_iload_n dX10_dutyAlong_37 rfl ?_
        refine aa_Ways_arrivals dX10_dutyAlong_38 rfl (by first | exact Nat.le_of_ble_eq_true rfl | assumption | omega) ?_
        refine x_iload dX10_dutyAlong_39 rfl ?_
        refine x_iald dX10_dutyAlong_41 rfl rfl (Nat.lt_of_lt_of_le (by first | assumption | omega | decide) (Nat.le_refl 65)) (by first | exact Nat.le_of_ble_eq_true rfl | assumption | omega) ?_
        have ea : I1 52 k0 k = nI (cum V w k) := by rw [hi 52 (by omega)]; exact hgk.2
        have hcu := cum_le (w := w) hV k
        rw [ea]
        refine x_iconst dX10_dutyAlong_42 li_0 ?_
        refine x_cvv (c_take (h := h) (j := j) (f := f) hh hh1 hj hV hB1 (fun s hs => ⟨by rw [hi h (by omega)]; exact (hf s hs).1, (hf s hs).2⟩) (by omega) (by omega)) kX10_78 dX10_dutyAlong_43 rfl (Nat.le_of_ble_eq_true rfl) rfl rfl (Nat.le_of_ble_eq_true rfl) (fun M2 hq => ?_)
        obtain ⟨I2, rfl, hA2, hS2⟩ := hq
        have hB2 : XB V 0 I2 := hB1.sm (fun s h1 h2 => hS2 s (by omega))
        have hz2 := hB2.nz hV (w.getD k 0) hql
        have hsk := skl_le hV hz2.2
        refine x_iload dX10_dutyAlong_46 rfl ?_
        refine x_aload_n dX10_dutyAlong_48 rfl ?_
        refine g_Ways_air fX10_36 dX10_dutyAlong_49 ?_
        refine x_iload_n dX10_dutyAlong_52 rfl ?_
        refine x_iload dX10_dutyAlong_53 rfl ?_
        refine x_aload_n dX10_dutyAlong_55 rfl ?_
        refine g_Ways_border fX10_32 dX10_dutyAlong_56 ?_
        refine x_iload dX10_dutyAlong_59 rfl ?_
        refine x_aload_n dX10_dutyAlong_61 rfl ?_
        refine g_Ways_border fX10_32 dX10_dutyAlong_62 ?_
        refine g_Border_placeNose fX10_84 dX10_dutyAlong_65 (by first | exact Nat.le_of_ble_eq_true rfl | assumption | omega) ?_
        refine x_cvi (c_skillAt (h := 22) (j := 0) hV hB2 rfl (Nat.le_of_ble_eq_true rfl) (by omega) hz2.1 hz2.2) kX10_87 dX10_dutyAlong_68 rfl (Nat.le_of_ble_eq_true rfl) rfl rfl (Nat.le_of_ble_eq_true rfl) (fun ru Mu hq => ?_)
        obtain ⟨rfl, rfl⟩ := hq
        refine x_cvi (c_toll hV hB2 hA2 (fun s hs => str_le (hf s hs).2) hso hql hsk) kX10_91 dX10_dutyAlong_71 rfl (Nat.le_of_ble_eq_true rfl) rfl rfl (Nat.le_of_ble_eq_true rfl) (fun ru Mu hq => ?_)
        obtain ⟨rfl, rfl⟩ := hq
        refine x_iaddN dX10_dutyAlong_74 ?_
        refine x_top (v := nI (dl V f sort w (k + 1))) (by rw [dl_s (by omega)]; rfl) ?_
        refine x_istore dX10_dutyAlong_75 (by decide) rfl ?_
        refine x_iincN 1 dX10_dutyAlong_77 li_1 rfl (by decide) rfl ?_
        refine x_goto 6 dX10_dutyAlong_80 (by decide) ?_
        refine x_ls ?_ (ih (k + 1) _ (by omega) (by omega) (by omega) (hi.tr (hS2.wk (fun s h => by omega))))
        exact ⟨rfl, rfl, rfl, rfl, rfl, rfl, trivial⟩
  refine x_start (by decide) (Nat.le_of_ble_eq_true rfl) ?_
  refine x_iconst dX10_dutyAlong_0 li_0 ?_
  refine x_istore dX10_dutyAlong_1 (by decide) rfl ?_
  refine x_iconst dX10_dutyAlong_3 li_1 ?_
  refine x_istore dX10_dutyAlong_4 (by decide) rfl ?_
  refine x_ls ?_ (loop6 (w.length + 1) 1 I (by omega) (by omega) (by omega) Sm.rf)
  exact ⟨rfl, rfl, rfl, rfl, rfl, rfl, trivial⟩
set_option maxRecDepth 100000 in
set_option maxHeartbeats 4000000 in
theorem c_hoursOf (hV : VW V) {W : List (List Nat)} {w : List Nat} {k0 : Nat} (hW : WS V W I) (hk : W[k0]? = some w) : Mt G vX10_hoursOf (d) (0, 0) [.ref (ad 10 0), .int (nI (k0))] (MM ad nb b r I L) (qE (nI (cum V w (w.length - 1))) (MM ad nb b r I L)) := by
  obtain ⟨g0, g65, hh2⟩ := hW
  obtain ⟨g1, g2, g3, g4, g5⟩ := hh2 k0 w hk
  have hk65 := (List.getElem?_eq_some_iff.mp hk).1
  refine x_start (by decide) (Nat.le_of_ble_eq_true rfl) ?_
  refine x_aload_n dX10_hoursOf_0 rfl ?_
  refine g_Ways_lengths fX10_11 dX10_hoursOf_1 ?_
  refine x_iload_n dX10_hoursOf_4 rfl ?_
  refine x_iald dX10_hoursOf_5 rfl rfl (Nat.le_of_ble_eq_true rfl) (by first | exact Nat.le_of_ble_eq_true rfl | assumption | omega) ?_
  rw [g1]
  refine x_iconst dX10_hoursOf_6 li_1 ?_
  refine x_isubN dX10_hoursOf_7 (by omega) ?_
  refine x_istore_n dX10_hoursOf_8 (by decide) rfl ?_
  refine x_iload_n dX10_hoursOf_9 rfl ?_
  refine x_ifN_ge 17 dX10_hoursOf_10 (by decide) (by omega) (fun h10 => ?_)
  refine x_aload_n dX10_hoursOf_17 rfl ?_
  refine g_Ways_arrivals fX10_20 dX10_hoursOf_18 ?_
  refine x_iload_n dX10_hoursOf_21 rfl ?_
  refine aa_Ways_arrivals dX10_hoursOf_22 rfl (by first | exact Nat.le_of_ble_eq_true rfl | assumption | omega) ?_
  refine x_iload_n dX10_hoursOf_23 rfl ?_
  refine x_iald dX10_hoursOf_24 rfl rfl (Nat.lt_of_lt_of_le (by first | assumption | omega | decide) (Nat.le_refl 65)) (by first | exact Nat.le_of_ble_eq_true rfl | assumption | omega) ?_
  rw [(g5 (w.length - 1) (by omega)).2]
  refine x_iret dX10_hoursOf_25 rfl ?_
  exact ⟨_, rfl, rfl, rfl⟩
def btr (D H : Nat → Nat) (kind k q : Nat) : Bool := if kind = 1 ∧ D k ≠ D q then decide (D k < D q) else decide (H k < H q)
/-- the number of the best way and one more; 0 for none -/
def pkF (D H : Nat → Nat) (kind : Nat) : Nat → Nat
  | 0 => 0
  | k + 1 => if (kind ≠ 2 ∨ D k = 0) ∧ (pkF D H kind k = 0 ∨ btr D H kind k (pkF D H kind k - 1) = true) then k + 1 else pkF D H kind k
theorem pkF_le {D H : Nat → Nat} {kind : Nat} : ∀ k, pkF D H kind k ≤ k
  | 0 => Nat.le_refl 0
  | k + 1 => by
    have := pkF_le (D := D) (H := H) (kind := kind) k
    unfold pkF
    split <;> omega
/-- hours of the k-th way, its DUTY -/
def hWd (V : sV) (W : List (List Nat)) (k : Nat) : Nat := cum V (W.getD k []) ((W.getD k []).length - 1)
def dW (V : sV) (f : Nat → Nat) (sort : Nat) (W : List (List Nat)) (k : Nat) : Nat := dl V f sort (W.getD k []) (W.getD k []).length
def WD (V : sV) (f : Nat → Nat) (sort : Nat) (W : List (List Nat)) (I : Nat → Nat → Nat → Int32) : Prop := ∀ k, k < W.length → I 53 0 k = nI (dW V f sort W k)
theorem W_at {W : List (List Nat)} {k : Nat} (h : k < W.length) : W[k]? = some (W.getD k []) := by
  rw [List.getD_eq_getElem?_getD, List.getElem?_eq_getElem h]; rfl
theorem hW_lt {W : List (List Nat)} {k : Nat} (hV : VW V) (hW' : WS V W I) (h : k < W.length) : hWd V W k ≤ 200 := by
  obtain ⟨-, -, g3, -⟩ := hW'.2.2 k _ (W_at h)
  have := cum_le (w := W.getD k []) hV ((W.getD k []).length - 1)
  unfold hWd
  omega
theorem dW_lt {W : List (List Nat)} {k sort : Nat} {f : Nat → Nat} (hV : VW V) (hf : ∀ s, s < 6 → f s ≤ 198) (hW' : WS V W I) (h : k < W.length) : dW V f sort W k ≤ 64152 := by
  obtain ⟨-, -, g3, -⟩ := hW'.2.2 k _ (W_at h)
  have := dl_le (sort := sort) (w := W.getD k []) hV hf (W.getD k []).length
  unfold dW
  omega
set_option maxRecDepth 100000 in
set_option maxHeartbeats 4000000 in
theorem c_isBetter (hV : VW V) {W : List (List Nat)} {f : Nat → Nat} {sort : Nat} (hf : ∀ s, s < 6 → f s ≤ 198) (hW : WS V W I) (hD : WD V f sort W I) {kind k q : Nat} (hki : kind < 3) (hk : k < W.length) (hq : q < W.length) : Mt G vX10_isBetter (d + 1) (0, 0) [.ref (ad 10 0), .int (nI (kind)), .int (nI (k)), .int (nI (q))] (MM ad nb b r I L) (qE (bI (btr (dW V f sort W) (hWd V W) kind k q)) (MM ad nb b r I L)) := by
  have h65 := hW.2.1
  have d1 := dW_lt (sort := sort) hV hf hW hk
  have d2 := dW_lt (sort := sort) hV hf hW hq
  have t1 := hW_lt hV hW hk
  have t2 := hW_lt hV hW hq
  refine x_start (by decide) (Nat.le_of_ble_eq_true rfl) ?_
  refine x_iload_n dX10_isBetter_0 rfl ?_
  refine x_iconst dX10_isBetter_1 li_1 ?_
  refine x_icN_ne 41 dX10_isBetter_2 (by decide) (by omega) (by omega) (fun h2 => ?_) (fun h2 => ?_)
  · refine x_aload_n dX10_isBetter_41 rfl ?_
    refine x_iload_n dX10_isBetter_42 rfl ?_
    refine x_cvi (c_hoursOf hV hW (W_at hk)) kX10_99 dX10_isBetter_43 rfl (Nat.le_of_ble_eq_true rfl) rfl rfl (Nat.le_of_ble_eq_true rfl) (fun ru Mu hq1 => ?_)
    obtain ⟨rfl, rfl⟩ := hq1
    refine x_top (v := nI (hWd V W k)) rfl ?_
    refine x_aload_n dX10_isBetter_46 rfl ?_
    refine x_iload_n dX10_isBetter_47 rfl ?_
    refine x_cvi (c_hoursOf hV hW (W_at hq)) kX10_99 dX10_isBetter_48 rfl (Nat.le_of_ble_eq_true rfl) rfl rfl (Nat.le_of_ble_eq_true rfl) (fun ru Mu hq1 => ?_)
    obtain ⟨rfl, rfl⟩ := hq1
    refine x_top (v := nI (hWd V W q)) rfl ?_
    refine x_icN_ge 58 dX10_isBetter_51 (by decide) (by omega) (by omega) (fun h51 => ?_) (fun h51 => ?_)
    · refine x_iconst dX10_isBetter_58 li_0 ?_
      refine x_zret dX10_isBetter_59 rfl rfl ?_
      refine ⟨_, rfl, ?_, rfl⟩
      unfold btr
      rw [if_neg (fun z => by first | exact h2 z.1 | exact z.2 h17)]
      first | exact bI_1 (decide_eq_true h51) | exact bI_0 (fun z => by have := of_decide_eq_true z; omega)
    · refine x_iconst dX10_isBetter_54 li_1 ?_
      refine x_goto 59 dX10_isBetter_55 (by decide) ?_
      refine x_zret dX10_isBetter_59 rfl rfl ?_
      refine ⟨_, rfl, ?_, rfl⟩
      unfold btr
      rw [if_neg (fun z => by first | exact h2 z.1 | exact z.2 h17)]
      first | exact bI_1 (decide_eq_true h51) | exact bI_0 (fun z => by have := of_decide_eq_true z; omega)
  · refine x_aload_n dX10_isBetter_5 rfl ?_
    refine g_Ways_duties fX10_23 dX10_isBetter_6 ?_
    refine x_iload_n dX10_isBetter_9 rfl ?_
    refine x_iald dX10_isBetter_10 rfl rfl (Nat.le_of_ble_eq_true rfl) (by first | exact Nat.le_of_ble_eq_true rfl | assumption | omega) ?_
    rw [hD k hk]
    refine x_aload_n dX10_isBetter_11 rfl ?_
    refine g_Ways_duties fX10_23 dX10_isBetter_12 ?_
    refine x_iload_n dX10_isBetter_15 rfl ?_
    refine x_iald dX10_isBetter_16 rfl rfl (Nat.le_of_ble_eq_true rfl) (by first | exact Nat.le_of_ble_eq_true rfl | assumption | omega) ?_
    rw [hD q hq]
    refine x_icN_eq 41 dX10_isBetter_17 (by decide) (by omega) (by omega) (fun h17 => ?_) (fun h17 => ?_)
    · refine x_aload_n dX10_isBetter_41 rfl ?_
      refine x_iload_n dX10_isBetter_42 rfl ?_
      refine x_cvi (c_hoursOf hV hW (W_at hk)) kX10_99 dX10_isBetter_43 rfl (Nat.le_of_ble_eq_true rfl) rfl rfl (Nat.le_of_ble_eq_true rfl) (fun ru Mu hq1 => ?_)
      obtain ⟨rfl, rfl⟩ := hq1
      refine x_top (v := nI (hWd V W k)) rfl ?_
      refine x_aload_n dX10_isBetter_46 rfl ?_
      refine x_iload_n dX10_isBetter_47 rfl ?_
      refine x_cvi (c_hoursOf hV hW (W_at hq)) kX10_99 dX10_isBetter_48 rfl (Nat.le_of_ble_eq_true rfl) rfl rfl (Nat.le_of_ble_eq_true rfl) (fun ru Mu hq1 => ?_)
      obtain ⟨rfl, rfl⟩ := hq1
      refine x_top (v := nI (hWd V W q)) rfl ?_
      refine x_icN_ge 58 dX10_isBetter_51 (by decide) (by omega) (by omega) (fun h51 => ?_) (fun h51 => ?_)
      · refine x_iconst dX10_isBetter_58 li_0 ?_
        refine x_zret dX10_isBetter_59 rfl rfl ?_
        refine ⟨_, rfl, ?_, rfl⟩
        unfold btr
        rw [if_neg (fun z => by first | exact h2 z.1 | exact z.2 h17)]
        first | exact bI_1 (decide_eq_true h51) | exact bI_0 (fun z => by have := of_decide_eq_true z; omega)
      · refine x_iconst dX10_isBetter_54 li_1 ?_
        refine x_goto 59 dX10_isBetter_55 (by decide) ?_
        refine x_zret dX10_isBetter_59 rfl rfl ?_
        refine ⟨_, rfl, ?_, rfl⟩
        unfold btr
        rw [if_neg (fun z => by first | exact h2 z.1 | exact z.2 h17)]
        first | exact bI_1 (decide_eq_true h51) | exact bI_0 (fun z => by have := of_decide_eq_true z; omega)
    · refine x_aload_n dX10_isBetter_20 rfl ?_
      refine g_Ways_duties fX10_23 dX10_isBetter_21 ?_
      refine x_iload_n dX10_isBetter_24 rfl ?_
      refine x_iald dX10_isBetter_25 rfl rfl (Nat.le_of_ble_eq_true rfl) (by first | exact Nat.le_of_ble_eq_true rfl | assumption | omega) ?_
      rw [hD k hk]
      refine x_aload_n dX10_isBetter_26 rfl ?_
      refine g_Ways_duties fX10_23 dX10_isBetter_27 ?_
      refine x_iload_n dX10_isBetter_30 rfl ?_
      refine x_iald dX10_isBetter_31 rfl rfl (Nat.le_of_ble_eq_true rfl) (by first | exact Nat.le_of_ble_eq_true rfl | assumption | omega) ?_
      rw [hD q hq]
      refine x_icN_ge 39 dX10_isBetter_32 (by decide) (by omega) (by omega) (fun h32 => ?_) (fun h32 => ?_)
      · refine x_iconst dX10_isBetter_39 li_0 ?_
        refine x_zret dX10_isBetter_40 rfl rfl ?_
        refine ⟨_, rfl, ?_, rfl⟩
        unfold btr
        rw [if_pos ⟨h2, h17⟩]
        first | exact bI_1 (decide_eq_true h32) | exact bI_0 (fun z => by have := of_decide_eq_true z; omega)
      · refine x_iconst dX10_isBetter_35 li_1 ?_
        refine x_goto 40 dX10_isBetter_36 (by decide) ?_
        refine x_zret dX10_isBetter_40 rfl rfl ?_
        refine ⟨_, rfl, ?_, rfl⟩
        unfold btr
        rw [if_pos ⟨h2, h17⟩]
        first | exact bI_1 (decide_eq_true h32) | exact bI_0 (fun z => by have := of_decide_eq_true z; omega)
set_option maxRecDepth 100000 in
set_option maxHeartbeats 4000000 in
theorem c_pick (hV : VW V) {W : List (List Nat)} {f : Nat → Nat} {sort : Nat} (hf : ∀ s, s < 6 → f s ≤ 198) (hW : WS V W I) (hD : WD V f sort W I) {kind : Nat} (hki : kind < 3) : Mt G vX10_pick (d + 2) (0, 0) [.ref (ad 10 0), .int (nI (kind))] (MM ad nb b r I L) (qE (nO (-1) (pkF (dW V f sort W) (hWd V W) kind W.length)) (MM ad nb b r I L)) := by
  have h65 := hW.2.1
  have loop4 : ∀ (n : Nat) (k : Nat), W.length - k < n → k ≤ W.length → X G vX10_pick (d + 2) (0, 0) 4 [(0, some (.ref (ad 10 0))), (1, some (.int (nI (kind)))), (2, some (.int (nO (-1) (pkF (dW V f sort W) (hWd V W) kind k)))), (3, some (.int (nI (k))))] [] (MM ad nb b r I L) (xT G (qE (nO (-1) (pkF (dW V f sort W) (hWd V W) kind W.length)) (MM ad nb b r I L))) := by
    intro n
    induction n with
    | zero => intro k h0; omega
    | succ n ih =>
      intro k hn hk0
      have hple := pkF_le (D := dW V f sort W) (H := hWd V W) (kind := kind) k
      refine x_iload_n dX10_pick_4 rfl ?_
      refine x_aload_n dX10_pick_5 rfl ?_
      refine g_Ways_count fX10_40 dX10_pick_6 ?_
      rw [hW.1]
      refine x_icN_ge 61 dX10_pick_9 (by decide) (by omega) (by omega) (fun h9 => ?_) (fun h9 => ?_)
      · refine x_iload_n dX10_pick_61 rfl ?_
        refine x_iret dX10_pick_62 rfl ?_
        exact ⟨_, rfl, by rw [Nat.le_antisymm hk0 h9], rfl⟩
      · refine x_iload_n dX10_pick_12 rfl ?_
        refine x_iconst dX10_pick_13 li_2 ?_
        refine x_icN_ne 26 dX10_pick_14 (by decide) (by omega) (by omega) (fun h14 => ?_) (fun h14 => ?_)
        · have hfit : kind ≠ 2 ∨ dW V f sort W k = 0 := by first | exact Or.inl h14 | exact Or.inr h23
          refine x_iconst dX10_pick_26 li_1 ?_
          refine x_goto 31 dX10_pick_27 (by decide) ?_
          refine x_istore dX10_pick_31 (by decide) rfl ?_
          refine x_iload dX10_pick_33 rfl ?_
          refine x_ifN_eq 55 dX10_pick_35 (by decide) (by omega) (fun h35 => ?_) (fun h35 => ?_)
          · have hsm : some (Value.int (nO (-1) (pkF (dW V f sort W) (hWd V W) kind k))) = some (Value.int (nO (-1) (pkF (dW V f sort W) (hWd V W) kind (k + 1)))) := by first | exact absurd h35 (by decide) | rw [pkF, if_neg (fun z => hfit z.1)]
            refine x_iincN 1 dX10_pick_55 li_1 rfl (by decide) rfl ?_
            refine x_goto 4 dX10_pick_58 (by decide) ?_
            refine x_ls ?_ (ih (k + 1) (by omega) (by omega))
            exact ⟨rfl, rfl, hsm, rfl, trivial⟩
          · have hfit2 : kind ≠ 2 ∨ dW V f sort W k = 0 := by first | exact hfit | exact absurd h35 (by decide)
            refine x_iload_n dX10_pick_38 rfl ?_
            refine x_iconst dX10_pick_39 li_m1 ?_
            refine x_ic_eq 53 dX10_pick_40 (by decide) (fun h40 => ?_) (fun h40 => ?_)
            · have hgo : pkF (dW V f sort W) (hWd V W) kind k = 0 ∨ btr (dW V f sort W) (hWd V W) kind k (pkF (dW V f sort W) (hWd V W) kind k - 1) = true := by
                first
                  | exact Or.inr (bI_ne.mp h50)
                  | (left
                     unfold nO at h40
                     by_cases z : pkF (dW V f sort W) (hWd V W) kind k = 0
                     · exact z
                     · rw [if_neg z] at h40
                       exact absurd h40 (fun q => by
                         have := nI_pos (n := pkF (dW V f sort W) (hWd V W) kind k - 1) (by omega)
                         rw [q] at this
                         exact this (by decide)))
              have hsm : some (Value.int (nI k)) = some (Value.int (nO (-1) (pkF (dW V f sort W) (hWd V W) kind (k + 1)))) := by rw [pkF, if_pos ⟨hfit2, hgo⟩]; rfl
              refine x_iload_n dX10_pick_53 rfl ?_
              refine x_istore_n dX10_pick_54 (by decide) rfl ?_
              refine x_iincN 1 dX10_pick_55 li_1 rfl (by decide) rfl ?_
              refine x_goto 4 dX10_pick_58 (by decide) ?_
              refine x_ls ?_ (ih (k + 1) (by omega) (by omega))
              exact ⟨rfl, rfl, hsm, rfl, trivial⟩
            · have hpos : 0 < pkF (dW V f sort W) (hWd V W) kind k := Nat.pos_of_ne_zero (fun z => h40 (by rw [z]; rfl))
              have hnk : nO (-1) (pkF (dW V f sort W) (hWd V W) kind k) = nI (pkF (dW V f sort W) (hWd V W) kind k - 1) := by unfold nO; rw [if_neg (by omega)]
              refine x_aload_n dX10_pick_43 rfl ?_
              refine x_iload_n dX10_pick_44 rfl ?_
              refine x_iload_n dX10_pick_45 rfl ?_
              refine x_iload_n dX10_pick_46 rfl ?_
              refine x_top hnk ?_
              refine x_cvi (c_isBetter hV hf hW hD hki h9 (by omega)) kX10_95 dX10_pick_47 rfl (Nat.le_of_ble_eq_true rfl) rfl rfl (Nat.le_of_ble_eq_true rfl) (fun ru Mu hq1 => ?_)
              obtain ⟨rfl, rfl⟩ := hq1
              refine x_if_eq 55 dX10_pick_50 (by decide) (fun h50 => ?_) (fun h50 => ?_)
              · have hsm : some (Value.int (nO (-1) (pkF (dW V f sort W) (hWd V W) kind k))) = some (Value.int (nO (-1) (pkF (dW V f sort W) (hWd V W) kind (k + 1)))) := by rw [pkF, if_neg (fun z => by rcases z.2 with q | q; omega; rw [bI_eq.mp h50] at q; cases q)]
                refine x_iincN 1 dX10_pick_55 li_1 rfl (by decide) rfl ?_
                refine x_goto 4 dX10_pick_58 (by decide) ?_
                refine x_ls ?_ (ih (k + 1) (by omega) (by omega))
                exact ⟨rfl, rfl, hsm, rfl, trivial⟩
              · have hgo : pkF (dW V f sort W) (hWd V W) kind k = 0 ∨ btr (dW V f sort W) (hWd V W) kind k (pkF (dW V f sort W) (hWd V W) kind k - 1) = true := by
                  first
                    | exact Or.inr (bI_ne.mp h50)
                    | (left
                       unfold nO at h40
                       by_cases z : pkF (dW V f sort W) (hWd V W) kind k = 0
                       · exact z
                       · rw [if_neg z] at h40
                         exact absurd h40 (fun q => by
                           have := nI_pos (n := pkF (dW V f sort W) (hWd V W) kind k - 1) (by omega)
                           rw [q] at this
                           exact this (by decide)))
                have hsm : some (Value.int (nI k)) = some (Value.int (nO (-1) (pkF (dW V f sort W) (hWd V W) kind (k + 1)))) := by rw [pkF, if_pos ⟨hfit2, hgo⟩]; rfl
                refine x_iload_n dX10_pick_53 rfl ?_
                refine x_istore_n dX10_pick_54 (by decide) rfl ?_
                refine x_iincN 1 dX10_pick_55 li_1 rfl (by decide) rfl ?_
                refine x_goto 4 dX10_pick_58 (by decide) ?_
                refine x_ls ?_ (ih (k + 1) (by omega) (by omega))
                exact ⟨rfl, rfl, hsm, rfl, trivial⟩
        · refine x_aload_n dX10_pick_17 rfl ?_
          refine g_Ways_duties fX10_23 dX10_pick_18 ?_
          refine x_iload_n dX10_pick_21 rfl ?_
          refine x_iald dX10_pick_22 rfl rfl (Nat.le_of_ble_eq_true rfl) (by first | exact Nat.le_of_ble_eq_true rfl | assumption | omega) ?_
          have d1 := dW_lt (sort := sort) hV hf hW h9
          rw [hD k h9]
          refine x_ifN_ne 30 dX10_pick_23 (by decide) (by omega) (fun h23 => ?_) (fun h23 => ?_)
          · have hfit : ¬ (kind ≠ 2 ∨ dW V f sort W k = 0) := by omega
            refine x_iconst dX10_pick_30 li_0 ?_
            refine x_istore dX10_pick_31 (by decide) rfl ?_
            refine x_iload dX10_pick_33 rfl ?_
            refine x_ifN_eq 55 dX10_pick_35 (by decide) (by omega) (fun h35 => ?_) (fun h35 => ?_)
            · have hsm : some (Value.int (nO (-1) (pkF (dW V f sort W) (hWd V W) kind k))) = some (Value.int (nO (-1) (pkF (dW V f sort W) (hWd V W) kind (k + 1)))) := by first | exact absurd h35 (by decide) | rw [pkF, if_neg (fun z => hfit z.1)]
              refine x_iincN 1 dX10_pick_55 li_1 rfl (by decide) rfl ?_
              refine x_goto 4 dX10_pick_58 (by decide) ?_
              refine x_ls ?_ (ih (k + 1) (by omega) (by omega))
              exact ⟨rfl, rfl, hsm, rfl, trivial⟩
            · have hfit2 : kind ≠ 2 ∨ dW V f sort W k = 0 := by first | exact hfit | exact absurd h35 (by decide)
              refine x_iload_n dX10_pick_38 rfl ?_
              refine x_iconst dX10_pick_39 li_m1 ?_
              refine x_ic_eq 53 dX10_pick_40 (by decide) (fun h40 => ?_) (fun h40 => ?_)
              · have hgo : pkF (dW V f sort W) (hWd V W) kind k = 0 ∨ btr (dW V f sort W) (hWd V W) kind k (pkF (dW V f sort W) (hWd V W) kind k - 1) = true := by
                  first
                    | exact Or.inr (bI_ne.mp h50)
                    | (left
                       unfold nO at h40
                       by_cases z : pkF (dW V f sort W) (hWd V W) kind k = 0
                       · exact z
                       · rw [if_neg z] at h40
                         exact absurd h40 (fun q => by
                           have := nI_pos (n := pkF (dW V f sort W) (hWd V W) kind k - 1) (by omega)
                           rw [q] at this
                           exact this (by decide)))
                have hsm : some (Value.int (nI k)) = some (Value.int (nO (-1) (pkF (dW V f sort W) (hWd V W) kind (k + 1)))) := by rw [pkF, if_pos ⟨hfit2, hgo⟩]; rfl
                refine x_iload_n dX10_pick_53 rfl ?_
                refine x_istore_n dX10_pick_54 (by decide) rfl ?_
                refine x_iincN 1 dX10_pick_55 li_1 rfl (by decide) rfl ?_
                refine x_goto 4 dX10_pick_58 (by decide) ?_
                refine x_ls ?_ (ih (k + 1) (by omega) (by omega))
                exact ⟨rfl, rfl, hsm, rfl, trivial⟩
              · have hpos : 0 < pkF (dW V f sort W) (hWd V W) kind k := Nat.pos_of_ne_zero (fun z => h40 (by rw [z]; rfl))
                have hnk : nO (-1) (pkF (dW V f sort W) (hWd V W) kind k) = nI (pkF (dW V f sort W) (hWd V W) kind k - 1) := by unfold nO; rw [if_neg (by omega)]
                refine x_aload_n dX10_pick_43 rfl ?_
                refine x_iload_n dX10_pick_44 rfl ?_
                refine x_iload_n dX10_pick_45 rfl ?_
                refine x_iload_n dX10_pick_46 rfl ?_
                refine x_top hnk ?_
                refine x_cvi (c_isBetter hV hf hW hD hki h9 (by omega)) kX10_95 dX10_pick_47 rfl (Nat.le_of_ble_eq_true rfl) rfl rfl (Nat.le_of_ble_eq_true rfl) (fun ru Mu hq1 => ?_)
                obtain ⟨rfl, rfl⟩ := hq1
                refine x_if_eq 55 dX10_pick_50 (by decide) (fun h50 => ?_) (fun h50 => ?_)
                · have hsm : some (Value.int (nO (-1) (pkF (dW V f sort W) (hWd V W) kind k))) = some (Value.int (nO (-1) (pkF (dW V f sort W) (hWd V W) kind (k + 1)))) := by rw [pkF, if_neg (fun z => by rcases z.2 with q | q; omega; rw [bI_eq.mp h50] at q; cases q)]
                  refine x_iincN 1 dX10_pick_55 li_1 rfl (by decide) rfl ?_
                  refine x_goto 4 dX10_pick_58 (by decide) ?_
                  refine x_ls ?_ (ih (k + 1) (by omega) (by omega))
                  exact ⟨rfl, rfl, hsm, rfl, trivial⟩
                · have hgo : pkF (dW V f sort W) (hWd V W) kind k = 0 ∨ btr (dW V f sort W) (hWd V W) kind k (pkF (dW V f sort W) (hWd V W) kind k - 1) = true := by
                    first
                      | exact Or.inr (bI_ne.mp h50)
                      | (left
                         unfold nO at h40
                         by_cases z : pkF (dW V f sort W) (hWd V W) kind k = 0
                         · exact z
                         · rw [if_neg z] at h40
                           exact absurd h40 (fun q => by
                             have := nI_pos (n := pkF (dW V f sort W) (hWd V W) kind k - 1) (by omega)
                             rw [q] at this
                             exact this (by decide)))
                  have hsm : some (Value.int (nI k)) = some (Value.int (nO (-1) (pkF (dW V f sort W) (hWd V W) kind (k + 1)))) := by rw [pkF, if_pos ⟨hfit2, hgo⟩]; rfl
                  refine x_iload_n dX10_pick_53 rfl ?_
                  refine x_istore_n dX10_pick_54 (by decide) rfl ?_
                  refine x_iincN 1 dX10_pick_55 li_1 rfl (by decide) rfl ?_
                  refine x_goto 4 dX10_pick_58 (by decide) ?_
                  refine x_ls ?_ (ih (k + 1) (by omega) (by omega))
                  exact ⟨rfl, rfl, hsm, rfl, trivial⟩
          · have hfit : kind ≠ 2 ∨ dW V f sort W k = 0 := by first | exact Or.inl h14 | exact Or.inr h23
            refine x_iconst dX10_pick_26 li_1 ?_
            refine x_goto 31 dX10_pick_27 (by decide) ?_
            refine x_istore dX10_pick_31 (by decide) rfl ?_
            refine x_iload dX10_pick_33 rfl ?_
            refine x_ifN_eq 55 dX10_pick_35 (by decide) (by omega) (fun h35 => ?_) (fun h35 => ?_)
            · have hsm : some (Value.int (nO (-1) (pkF (dW V f sort W) (hWd V W) kind k))) = some (Value.int (nO (-1) (pkF (dW V f sort W) (hWd V W) kind (k + 1)))) := by first | exact absurd h35 (by decide) | rw [pkF, if_neg (fun z => hfit z.1)]
              refine x_iincN 1 dX10_pick_55 li_1 rfl (by decide) rfl ?_
              refine x_goto 4 dX10_pick_58 (by decide) ?_
              refine x_ls ?_ (ih (k + 1) (by omega) (by omega))
              exact ⟨rfl, rfl, hsm, rfl, trivial⟩
            · have hfit2 : kind ≠ 2 ∨ dW V f sort W k = 0 := by first | exact hfit | exact absurd h35 (by decide)
              refine x_iload_n dX10_pick_38 rfl ?_
              refine x_iconst dX10_pick_39 li_m1 ?_
              refine x_ic_eq 53 dX10_pick_40 (by decide) (fun h40 => ?_) (fun h40 => ?_)
              · have hgo : pkF (dW V f sort W) (hWd V W) kind k = 0 ∨ btr (dW V f sort W) (hWd V W) kind k (pkF (dW V f sort W) (hWd V W) kind k - 1) = true := by
                  first
                    | exact Or.inr (bI_ne.mp h50)
                    | (left
                       unfold nO at h40
                       by_cases z : pkF (dW V f sort W) (hWd V W) kind k = 0
                       · exact z
                       · rw [if_neg z] at h40
                         exact absurd h40 (fun q => by
                           have := nI_pos (n := pkF (dW V f sort W) (hWd V W) kind k - 1) (by omega)
                           rw [q] at this
                           exact this (by decide)))
                have hsm : some (Value.int (nI k)) = some (Value.int (nO (-1) (pkF (dW V f sort W) (hWd V W) kind (k + 1)))) := by rw [pkF, if_pos ⟨hfit2, hgo⟩]; rfl
                refine x_iload_n dX10_pick_53 rfl ?_
                refine x_istore_n dX10_pick_54 (by decide) rfl ?_
                refine x_iincN 1 dX10_pick_55 li_1 rfl (by decide) rfl ?_
                refine x_goto 4 dX10_pick_58 (by decide) ?_
                refine x_ls ?_ (ih (k + 1) (by omega) (by omega))
                exact ⟨rfl, rfl, hsm, rfl, trivial⟩
              · have hpos : 0 < pkF (dW V f sort W) (hWd V W) kind k := Nat.pos_of_ne_zero (fun z => h40 (by rw [z]; rfl))
                have hnk : nO (-1) (pkF (dW V f sort W) (hWd V W) kind k) = nI (pkF (dW V f sort W) (hWd V W) kind k - 1) := by unfold nO; rw [if_neg (by omega)]
                refine x_aload_n dX10_pick_43 rfl ?_
                refine x_iload_n dX10_pick_44 rfl ?_
                refine x_iload_n dX10_pick_45 rfl ?_
                refine x_iload_n dX10_pick_46 rfl ?_
                refine x_top hnk ?_
                refine x_cvi (c_isBetter hV hf hW hD hki h9 (by omega)) kX10_95 dX10_pick_47 rfl (Nat.le_of_ble_eq_true rfl) rfl rfl (Nat.le_of_ble_eq_true rfl) (fun ru Mu hq1 => ?_)
                obtain ⟨rfl, rfl⟩ := hq1
                refine x_if_eq 55 dX10_pick_50 (by decide) (fun h50 => ?_) (fun h50 => ?_)
                · have hsm : some (Value.int (nO (-1) (pkF (dW V f sort W) (hWd V W) kind k))) = some (Value.int (nO (-1) (pkF (dW V f sort W) (hWd V W) kind (k + 1)))) := by rw [pkF, if_neg (fun z => by rcases z.2 with q | q; omega; rw [bI_eq.mp h50] at q; cases q)]
                  refine x_iincN 1 dX10_pick_55 li_1 rfl (by decide) rfl ?_
                  refine x_goto 4 dX10_pick_58 (by decide) ?_
                  refine x_ls ?_ (ih (k + 1) (by omega) (by omega))
                  exact ⟨rfl, rfl, hsm, rfl, trivial⟩
                · have hgo : pkF (dW V f sort W) (hWd V W) kind k = 0 ∨ btr (dW V f sort W) (hWd V W) kind k (pkF (dW V f sort W) (hWd V W) kind k - 1) = true := by
                    first
                      | exact Or.inr (bI_ne.mp h50)
                      | (left
                         unfold nO at h40
                         by_cases z : pkF (dW V f sort W) (hWd V W) kind k = 0
                         · exact z
                         · rw [if_neg z] at h40
                           exact absurd h40 (fun q => by
                             have := nI_pos (n := pkF (dW V f sort W) (hWd V W) kind k - 1) (by omega)
                             rw [q] at this
                             exact this (by decide)))
                  have hsm : some (Value.int (nI k)) = some (Value.int (nO (-1) (pkF (dW V f sort W) (hWd V W) kind (k + 1)))) := by rw [pkF, if_pos ⟨hfit2, hgo⟩]; rfl
                  refine x_iload_n dX10_pick_53 rfl ?_
                  refine x_istore_n dX10_pick_54 (by decide) rfl ?_
                  refine x_iincN 1 dX10_pick_55 li_1 rfl (by decide) rfl ?_
                  refine x_goto 4 dX10_pick_58 (by decide) ?_
                  refine x_ls ?_ (ih (k + 1) (by omega) (by omega))
                  exact ⟨rfl, rfl, hsm, rfl, trivial⟩
  refine x_start (by decide) (Nat.le_of_ble_eq_true rfl) ?_
  refine x_iconst dX10_pick_0 li_m1 ?_
  refine x_istore_n dX10_pick_1 (by decide) rfl ?_
  refine x_iconst dX10_pick_2 li_0 ?_
  refine x_istore_n dX10_pick_3 (by decide) rfl ?_
  refine x_ls ?_ (loop4 (W.length + 1) 0 (by omega) (by omega))
  exact ⟨rfl, rfl, rfl, rfl, trivial⟩
end Ways2
