section Post
variable {G : xG} {ad : Nat → Nat → Nat} {nb : Nat} {b r : Option Nat} {L : Nat → Nat → Nat → Int64} {V : sV} {I : Nat → Nat → Nat → Int32} {d : Nat}

/-- all rows of BEEN, in the order of the search -/
def bqs (V : sV) (n : Nat) : List (List Nat) := (List.range n).flatMap (fun q => bm V 4 [] q (fun _ => 0))
theorem bqs_s {n : Nat} : bqs V (n + 1) = bqs V n ++ bm V 4 [] n (fun _ => 0) := rg_succ _ n
def been (V : sV) : List (List Nat) := bqs V (V 0 4 0)

set_option maxRecDepth 100000 in
set_option maxHeartbeats 4000000 in
theorem c_tsearch (hV : VW V) (hB : XB V 0 I) (h00 : 0 < V 0 0 0) : Mt G vX8_search (d + 3 + 3 + 1) (0, 0) [.ref (ad 8 0)] (MM ad nb b r I L) (qV (fun M' => ∃ I', M' = MM ad nb b r I' L ∧ TS (been V) I' ∧ Sm sT I I')) := by
  have hp6 := hV.2.2.2.2.1
  have loop23 : ∀ (n : Nat) (k : Nat) (I1 : Nat → Nat → Nat → Int32), V 0 4 0 - k < n → k ≤ V 0 4 0 → (TS (bqs V k) I1 ∧ Sm sT I I1) → X G vX8_search (d + 3 + 3 + 1) (0, 0) 23 [(0, some (.ref (ad 8 0))), (1, some (.int (nI (k))))] [] (MM ad nb b r I1 L) (xT G (qV (fun M' => ∃ I', M' = MM ad nb b r I' L ∧ TS (been V) I' ∧ Sm sT I I'))) := by
    intro n
    induction n with
    | zero => intro k I1 h0; omega
    | succ n ih =>
      intro k I1 hn hk0 hi
      obtain ⟨hi1, hi2⟩ := hi
      have hB1 : XB V 0 I1 := hB.sm (fun s h1 h2 => hi2 s (by unfold sT; omega))
      have e4 : I1 16 0 4 = nI (V 0 4 0) := hB1.1 4 (by omega)
      have loop38 : k < V 0 4 0 → ∀ (n2 j : Nat) (I1 : Nat → Nat → Nat → Int32), 6 - j < n2 → j ≤ 6 → (TS (bqs V k) I1 ∧ (∀ z, z < j → I1 59 0 z = nI 0) ∧ Sm sT I I1) → X G vX8_search (d + 3 + 3 + 1) (0, 0) 38 [(0, some (.ref (ad 8 0))), (1, some (.int (nI (k)))), (2, some (.int (nI (j))))] [] (MM ad nb b r I1 L) (xT G (qV (fun M' => ∃ I', M' = MM ad nb b r I' L ∧ TS (been V) I' ∧ Sm sT I I'))) := by
        intro hkn n2
        induction n2 with
        | zero => intro j I1 h0; omega
        | succ n2 ih2 =>
          intro j I1 hn2 hj0 hi
          obtain ⟨hi1, hi3, hi2⟩ := hi
          have hB1 : XB V 0 I1 := hB.sm (fun s h1 h2 => hi2 s (by unfold sT; omega))
          refine x_iload_n dX8_search_38 rfl ?_
          refine x_bipush dX8_search_39 lb_6 ?_
          refine x_icN_ge 59 dX8_search_41 (by decide) (by omega) (by omega) (fun h41 => ?_) (fun h41 => ?_)
          · refine x_aload_n dX8_search_59 rfl ?_
            refine x_iconst dX8_search_60 li_0 ?_
            refine x_iload_n dX8_search_61 rfl ?_
            refine x_iconst dX8_search_62 li_1 ?_
            refine x_iload_n dX8_search_63 rfl ?_
            refine x_ishl dX8_search_64 ?_
            rw [sh1 k (by omega), ← sbit_1 k]
            refine x_cvv (c_come (d := d) hV h00 3 [] k (fun _ => 0) (bqs V k) I1 hB1 rfl hkn (fun q hq => absurd hq List.not_mem_nil) hi1 (fun s hs => ⟨hi3 s (by have := hV.2.2.1; omega), by omega⟩) (fun j hj => absurd hj (Nat.not_lt_zero j))) kX8_49 dX8_search_65 rfl (Nat.le_of_ble_eq_true rfl) rfl rfl (Nat.le_of_ble_eq_true rfl) (fun M2 hq2 => ?_)
            obtain ⟨I2, rfl, hT2, -, hS2⟩ := hq2
            refine x_iincN 1 dX8_search_68 li_1 rfl (by decide) rfl ?_
            refine x_goto 23 dX8_search_71 (by decide) ?_
            refine x_ls ?_ (ih (k + 1) _ (by omega) (by omega) ⟨by rw [bqs_s]; exact hT2, hi2.tr hS2⟩)
            exact ⟨rfl, rfl, trivial⟩
          · refine x_aload_n dX8_search_44 rfl ?_
            refine g_Trace_halves fX8_20 dX8_search_45 ?_
            refine x_iconst dX8_search_48 li_0 ?_
            refine aa_Trace_halves dX8_search_49 rfl (by first | exact Nat.le_of_ble_eq_true rfl | assumption | omega) ?_
            refine x_iload_n dX8_search_50 rfl ?_
            refine x_iconst dX8_search_51 li_0 ?_
            refine x_iast dX8_search_52 rfl rfl (Nat.lt_of_lt_of_le (by first | assumption | omega | decide) (Nat.le_refl 4)) (by first | exact Nat.le_of_ble_eq_true rfl | assumption | omega) ?_
            refine x_iincN 1 dX8_search_53 li_1 rfl (by decide) rfl ?_
            refine x_goto 38 dX8_search_56 (by decide) ?_
            refine x_ls ?_ (ih2 (j + 1) _ (by omega) (by omega) ⟨hi1.sm (by funext a c; exact xu_ns (by decide)) (by funext a c; exact xu_ns (by decide)), ?_, Sm.xu hi2 (by unfold sT; omega)⟩)
            · exact ⟨rfl, rfl, rfl, trivial⟩
            · intro z hz
              rw [xu_at]
              by_cases e : z = j
              · rw [if_pos e]
              · rw [if_neg e]; exact hi3 z (by omega)
      refine x_iload_n dX8_search_23 rfl ?_
      refine x_aload_n dX8_search_24 rfl ?_
      refine g_Trace_border fX8_23 dX8_search_25 ?_
      refine g_Border_sizes fX8_44 dX8_search_28 (by first | exact Nat.le_of_ble_eq_true rfl | assumption | omega) ?_
      refine x_iconst dX8_search_31 li_4 ?_
      refine x_iald dX8_search_32 rfl rfl (Nat.lt_of_lt_of_le (by first | assumption | omega | decide) (Nat.le_refl 2)) (by first | exact Nat.le_of_ble_eq_true rfl | assumption | omega) ?_
      rw [e4]
      refine x_icN_ge 74 dX8_search_33 (by decide) (by omega) (by omega) (fun h33 => ?_) (fun h33 => ?_)
      · refine x_vret dX8_search_74 rfl ?_
        have hkn : k = V 0 4 0 := Nat.le_antisymm hk0 h33
        subst hkn
        exact ⟨rfl, _, rfl, hi1, hi2⟩
      · refine x_iconst dX8_search_36 li_0 ?_
        refine x_istore_n dX8_search_37 (by decide) rfl ?_
        refine x_ls ?_ (loop38 h33 7 0 I1 (by omega) (by omega) ⟨hi1, fun z hz => absurd hz (Nat.not_lt_zero z), hi2⟩)
        exact ⟨rfl, rfl, rfl, trivial⟩
  refine x_start (by decide) (Nat.le_of_ble_eq_true rfl) ?_
  refine x_aload_n dX8_search_0 rfl ?_
  refine x_iconst dX8_search_1 li_0 ?_
  refine p_Trace_rows fX8_31 dX8_search_2 ?_
  refine x_aload_n dX8_search_5 rfl ?_
  refine x_iconst dX8_search_6 li_0 ?_
  refine p_Trace_inSome fX8_35 dX8_search_7 ?_
  refine x_aload_n dX8_search_10 rfl ?_
  refine x_bipush dX8_search_11 lb_63 ?_
  refine p_Trace_inAll fX8_38 dX8_search_13 ?_
  refine x_aload_n dX8_search_16 rfl ?_
  refine x_iconst dX8_search_17 li_0 ?_
  refine p_Trace_firstLength fX8_41 dX8_search_18 ?_
  refine x_iconst dX8_search_21 li_0 ?_
  refine x_istore_n dX8_search_22 (by decide) rfl ?_
  refine x_ls ?_ (loop23 (V 0 4 0 + 1) 0 _ (by omega) (by omega) ⟨⟨?_, ?_, ?_, ?_, by simp [bqs, fsT], fun i hi => by simp [bqs, fsT] at hi⟩, ?_⟩)
  · exact ⟨rfl, rfl, trivial⟩
  · rw [xu_nk (by decide), xu_nk (by decide), xu_nk (by decide), xu_s]; rfl
  · rw [xu_nk (by decide), xu_nk (by decide), xu_s]; rfl
  · rw [xu_nk (by decide), xu_s]; rfl
  · rw [xu_s]; rfl
  · exact Sm.xu (Sm.xu (Sm.xu (Sm.xu Sm.rf (Or.inl rfl)) (Or.inl rfl)) (Or.inl rfl)) (Or.inl rfl)

/-- DUTY of all walks that can be, of the first n travellers, by noses nz -/
def wsm (V : sV) (N : sN) (nz : Nat → Nat) : Nat → Nat
  | 0 => 0
  | n + 1 => wsm V N nz n + (if cw V (N n 0) n (V 13 n 0) = true then wt V (fun s => N n (3 + s)) nz (N n 0) n (V 13 n 0) else 0)
theorem wd_le {f nz : Nat → Nat} {p0 t i : Nat} (hV : VW V) (hf : ∀ s, s < 6 → f s ≤ 198) : wd V f nz p0 t i ≤ 10692 := dtn_le hV hf
theorem wt_le {f nz : Nat → Nat} {p0 t : Nat} (hV : VW V) (hf : ∀ s, s < 6 → f s ≤ 198) : ∀ n, wt V f nz p0 t n ≤ 10692 * n
  | 0 => by simp [wt]
  | n + 1 => by
    have h1 := wt_le (nz := nz) (p0 := p0) (t := t) hV hf n
    have h2 := wd_le (nz := nz) (p0 := p0) (t := t) (i := n) hV hf
    unfold wt
    omega
theorem wsm_le {N : sN} {nz : Nat → Nat} (hV : VW V) (hN : NW V N) : ∀ n, n ≤ V 0 7 0 → wsm V N nz n ≤ 53460 * n
  | 0, _ => by simp [wsm]
  | n + 1, h => by
    have h1 := wsm_le (nz := nz) hV hN n (by omega)
    have h2 := wt_le (nz := nz) (p0 := N n 0) (t := n) hV (hN n (by omega)).2 (V 13 n 0)
    have h3 := hV.2.2.2.2.2.2.2.2.2.2.2.2.2.2.2.2.2.2.2.2.1 n
    unfold wsm
    split <;> omega
/-- a row of noses for all places, kept in an array -/
def AR (V : sV) (a : List Nat) (h : Nat) (I : Nat → Nat → Nat → Int32) : Prop := ∀ p, p < V 0 4 0 → I h 0 p = nO (-2) (a.getD p 0)
/-- the best: most and one more, by which noses -/
def psF (V : sV) (N : sN) (q : Nat × List Nat) (a : List Nat) : Nat × List Nat := if q.1 ≤ wsm V N (fun p => a.getD p 0) (V 0 7 0) then (wsm V N (fun p => a.getD p 0) (V 0 7 0) + 1, a) else q
def psT (V : sV) (N : sN) (A : List (List Nat)) : Nat × List Nat := A.foldl (psF V N) (0, [])
theorem psT_app {N : sN} (A : List (List Nat)) (a : List Nat) : psT V N (A ++ [a]) = psF V N (psT V N A) a := by unfold psT; rw [List.foldl_append]; rfl
def PS (V : sV) (N : sN) (A : List (List Nat)) (I : Nat → Nat → Nat → Int32) : Prop := I 5 0 2 = nO (-1) (psT V N A).1 ∧ (0 < (psT V N A).1 → AR V (psT V N A).2 60 I)
def sP (s : Nat) : Prop := s = 5 ∨ s = 60 ∨ s = 61 ∨ s = 9 ∨ s = 47 ∨ s = 1 ∨ s = 41
theorem psT_le {N : sN} (hV : VW V) (hN : NW V N) : ∀ (A : List (List Nat)), (psT V N A).1 ≤ 213841 := by
  have key : ∀ (A : List (List Nat)) (q : Nat × List Nat), q.1 ≤ 213841 → (A.foldl (psF V N) q).1 ≤ 213841 := by
    intro A
    induction A with
    | nil => intro q h; exact h
    | cons a l ih =>
      intro q h
      refine ih _ ?_
      have := wsm_le (nz := fun p => a.getD p 0) hV hN (V 0 7 0) (Nat.le_refl _)
      have := hV.2.2.2.2.2.2.2.1
      unfold psF
      split
      · simp only []; omega
      · exact h
  intro A
  exact key A (0, []) (by simp)

set_option maxRecDepth 100000 in
set_option maxHeartbeats 4000000 in
theorem c_weigh (hV : VW V) (hB : XB V 0 I) {N : sN} (hN : XN V N I) (hW : NW V N) {A : List (List Nat)} {a : List Nat} (hA : PS V N A I) (ha : AR V a 61 I) (hal : ∀ q, q < V 0 4 0 → a.getD q 0 ≤ V 0 3 0) : Mt G vX5_weigh (d + 2 + 1 + 1) (0, 0) [.ref (ad 5 0)] (MM ad nb b r I L) (qV (fun M' => ∃ I', M' = MM ad nb b r I' L ∧ PS V N (A ++ [a]) I' ∧ I' 61 = I 61 ∧ Sm sP I I')) := by
  have ht4 := hV.2.2.2.2.2.2.2.1
  have hp6 := hV.2.2.2.2.1
  have hps := psT_le hV hW A
  have loop4 : ∀ (n : Nat) (k : Nat) (I1 : Nat → Nat → Nat → Int32), V 0 7 0 - k < n → k ≤ V 0 7 0 → Sm (fun s => s = 9 ∨ s = 47 ∨ s = 1 ∨ s = 41) I I1 → X G vX5_weigh (d + 2 + 1 + 1) (0, 0) 4 [(0, some (.ref (ad 5 0))), (1, some (.int (nI (wsm V N (fun p => a.getD p 0) k)))), (2, some (.int (nI (k))))] [] (MM ad nb b r I1 L) (xT G (qV (fun M' => ∃ I', M' = MM ad nb b r I' L ∧ PS V N (A ++ [a]) I' ∧ I' 61 = I 61 ∧ Sm sP I I'))) := by
    intro n
    induction n with
    | zero => intro k I1 h0; omega
    | succ n ih =>
      intro k I1 hn hk0 hi
      have hB1 : XB V 0 I1 := hB.sm (fun s h1 h2 => hi s (by omega))
      have e7 : I1 16 0 7 = nI (V 0 7 0) := hB1.1 7 (by omega)
      have hsl := wsm_le (nz := fun p => a.getD p 0) hV hW k hk0
      refine x_iload_n dX5_weigh_4 rfl ?_
      refine x_aload_n dX5_weigh_5 rfl ?_
      refine g_Posting_border fX5_18 dX5_weigh_6 ?_
      refine g_Border_sizes fX5_34 dX5_weigh_9 (by first | exact Nat.le_of_ble_eq_true rfl | assumption | omega) ?_
      refine x_bipush dX5_weigh_12 lb_7 ?_
      refine x_iald dX5_weigh_14 rfl rfl (Nat.lt_of_lt_of_le (by first | assumption | omega | decide) (Nat.le_refl 2)) (by first | exact Nat.le_of_ble_eq_true rfl | assumption | omega) ?_
      rw [e7]
      refine x_icN_ge 49 dX5_weigh_15 (by decide) (by omega) (by omega) (fun h15 => ?_) (fun h15 => ?_)
      · have hkn : k = V 0 7 0 := Nat.le_antisymm hk0 h15
        subst hkn
        refine x_iload_n dX5_weigh_49 rfl ?_
        refine x_aload_n dX5_weigh_50 rfl ?_
        refine g_Posting_most fX5_26 dX5_weigh_51 ?_
        have e5 : I1 5 0 2 = nO (-1) (psT V N A).1 := by rw [hi 5 (by omega)]; exact hA.1
        rw [e5]
        refine x_ic_le 77 dX5_weigh_54 (by decide) (fun h54 => ?_) (fun h54 => ?_)
        · have hF : psF V N (psT V N A) a = psT V N A := by
            unfold psF
            rw [if_neg (fun z => by
              unfold nO at h54
              split at h54
              · exact absurd h54 (fun q => by
                  have := Int32.le_iff_toInt_le.mp q
                  rw [nI_toInt (by omega)] at this
                  have e1 : (-1 : Int32).toInt = -1 := by decide
                  omega)
              · have := (nI_leI (by omega) (by omega)).mp h54
                omega)]
          refine x_vret dX5_weigh_77 rfl ?_
          refine ⟨rfl, _, rfl, ?_, ?_, ?_⟩
          · unfold PS
            rw [psT_app, hF]
            first
              | (refine ⟨?_, fun _ => ?_⟩
                 · rw [xur_ns (by decide), xu_s]; rfl
                 · intro q hq
                   rw [xur_s, pk_cpy_in (by omega) (by omega), xu_ns (by decide), hi 61 (by omega)]
                   simpa using ha q hq)
              | (refine ⟨e5, fun hpo => ?_⟩
                 intro q hq
                 rw [hi 60 (by omega)]
                 exact hA.2 hpo q hq)
          · first | (rw [xur_ns (by decide)]; funext a c; rw [xu_ns (by decide), hi 61 (by omega)]) | exact hi 61 (by omega)
          · first | exact Sm.xur (Sm.xu (hi.wk (fun s h => by unfold sP; omega)) (by unfold sP; omega)) (by unfold sP; omega) | exact hi.wk (fun s h => by unfold sP; omega)
        · have hF : psF V N (psT V N A) a = (wsm V N (fun p => a.getD p 0) (V 0 7 0) + 1, a) := by
            unfold psF
            rw [if_pos (Nat.le_of_not_lt (fun z => h54 (by
              unfold nO
              rw [if_neg (by omega)]
              exact nI_le (by omega) (by omega))))]
          refine x_aload_n dX5_weigh_57 rfl ?_
          refine x_iload_n dX5_weigh_58 rfl ?_
          refine p_Posting_most fX5_26 dX5_weigh_59 ?_
          refine x_aload_n dX5_weigh_62 rfl ?_
          refine g_Posting_noses fX5_15 dX5_weigh_63 ?_
          refine x_iconst dX5_weigh_66 li_0 ?_
          refine x_aload_n dX5_weigh_67 rfl ?_
          refine g_Posting_best fX5_9 dX5_weigh_68 ?_
          refine x_iconst dX5_weigh_71 li_0 ?_
          refine x_bipush dX5_weigh_72 lb_6 ?_
          refine x_copy dX5_weigh_74 (xm5 33 rfl rfl) rfl rfl rfl rfl rfl (Nat.le_of_ble_eq_true rfl) (Nat.le_of_ble_eq_true rfl) (by first | exact Nat.le_of_ble_eq_true rfl | assumption | omega) (by first | exact Nat.le_of_ble_eq_true rfl | assumption | omega) (Nat.le_of_ble_eq_true rfl) ?_
          refine x_vret dX5_weigh_77 rfl ?_
          refine ⟨rfl, _, rfl, ?_, ?_, ?_⟩
          · unfold PS
            rw [psT_app, hF]
            first
              | (refine ⟨?_, fun _ => ?_⟩
                 · rw [xur_ns (by decide), xu_s]; rfl
                 · intro q hq
                   rw [xur_s, pk_cpy_in (by omega) (by omega), xu_ns (by decide), hi 61 (by omega)]
                   simpa using ha q hq)
              | (refine ⟨e5, fun hpo => ?_⟩
                 intro q hq
                 rw [hi 60 (by omega)]
                 exact hA.2 hpo q hq)
          · first | (rw [xur_ns (by decide)]; funext a c; rw [xu_ns (by decide), hi 61 (by omega)]) | exact hi 61 (by omega)
          · first | exact Sm.xur (Sm.xu (hi.wk (fun s h => by unfold sP; omega)) (by unfold sP; omega)) (by unfold sP; omega) | exact hi.wk (fun s h => by unfold sP; omega)
      · refine x_aload_n dX5_weigh_18 rfl ?_
        refine g_Posting_walks fX5_22 dX5_weigh_19 ?_
        refine x_iload_n dX5_weigh_22 rfl ?_
        refine x_aload_n dX5_weigh_23 rfl ?_
        refine g_Posting_noses fX5_15 dX5_weigh_24 ?_
        refine x_cvi (c_follow (d := d) (h := 61) (j := 0) (f := N k) (nz := fun p => a.getD p 0) hV hB1 h15 ((hN k h15).to (by rw [hi 4 (by omega)]) (by rw [hi 43 (by omega)])) (hW k h15).1 (hW k h15).2 rfl (Or.inr rfl) (Nat.le_of_ble_eq_true rfl) (fun q hq => ⟨by rw [hi 61 (by omega)]; exact ha q hq, hal q hq⟩)) kX5_45 dX5_weigh_27 rfl (Nat.le_of_ble_eq_true rfl) rfl rfl (Nat.le_of_ble_eq_true rfl) (fun ru M2 hq2 => ?_)
        obtain ⟨rfl, I2, rfl, hS2, hQ2⟩ := hq2
        refine x_if_eq 43 dX5_weigh_30 (by decide) (fun h30 => ?_) (fun h30 => ?_)
        · have hsm : some (Value.int (nI (wsm V N (fun p => a.getD p 0) k))) = some (Value.int (nI (wsm V N (fun p => a.getD p 0) (k + 1)))) := by rw [wsm, if_neg (by rw [bI_eq.mp h30]; simp)]; rfl
          refine x_iincN 1 dX5_weigh_43 li_1 rfl (by decide) rfl ?_
          refine x_goto 4 dX5_weigh_46 (by decide) ?_
          refine x_ls ?_ (ih (k + 1) _ (by omega) (by omega) (hi.tr hS2))
          exact ⟨rfl, hsm, rfl, trivial⟩
        · refine x_iload_n dX5_weigh_33 rfl ?_
          refine x_aload_n dX5_weigh_34 rfl ?_
          refine g_Posting_walks fX5_22 dX5_weigh_35 ?_
          refine g_Walks_total fX5_51 dX5_weigh_38 ?_
          rw [(hQ2 (bI_ne.mp h30)).1]
          refine x_iaddN dX5_weigh_41 ?_
          have hsm : some (Value.int (nI (wsm V N (fun p => a.getD p 0) k + wt V (fun s => N k (3 + s)) (fun p => a.getD p 0) (N k 0) k (V 13 k 0)))) = some (Value.int (nI (wsm V N (fun p => a.getD p 0) (k + 1)))) := by rw [wsm, if_pos (bI_ne.mp h30)]
          refine x_istore_n dX5_weigh_42 (by decide) rfl ?_
          refine x_iincN 1 dX5_weigh_43 li_1 rfl (by decide) rfl ?_
          refine x_goto 4 dX5_weigh_46 (by decide) ?_
          refine x_ls ?_ (ih (k + 1) _ (by omega) (by omega) (hi.tr hS2))
          exact ⟨rfl, hsm, rfl, trivial⟩
  refine x_start (by decide) (Nat.le_of_ble_eq_true rfl) ?_
  refine x_iconst dX5_weigh_0 li_0 ?_
  refine x_istore_n dX5_weigh_1 (by decide) rfl ?_
  refine x_iconst dX5_weigh_2 li_0 ?_
  refine x_istore_n dX5_weigh_3 (by decide) rfl ?_
  refine x_ls ?_ (loop4 (V 0 7 0 + 1) 0 I (by omega) (by omega) Sm.rf)
  exact ⟨rfl, rfl, rfl, trivial⟩
end Post
