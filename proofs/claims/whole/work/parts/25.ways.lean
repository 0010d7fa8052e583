section Ways
variable {G : xG} {ad : Nat → Nat → Nat} {nb : Nat} {b r : Option Nat} {L : Nat → Nat → Nat → Int64} {V : sV} {I : Nat → Nat → Nat → Int32} {d : Nat}

/-- hours along a row of places, up to its i-th -/
def cum (V : sV) (w : List Nat) : Nat → Nat
  | 0 => 0
  | i + 1 => cum V w i + V 7 (w.getD i 0) (w.getD (i + 1) 0)
/-- all WAYS on from p, behind the places of w, at most f more -/
def ex (V : sV) (to : Nat) : Nat → List Nat → Nat → List (List Nat)
  | 0, _, _ => []
  | f + 1, w, p => if p = to then [w ++ [p]] else (List.range (V 0 4 0)).flatMap (fun q => if 0 < V 7 p q ∧ q ∉ w ++ [p] then ex V to f (w ++ [p]) q else [])
def sbit (w : List Nat) : Nat := w.foldl (fun a q => a ||| 2 ^ q) 0
theorem sbit_app (w : List Nat) (q : Nat) : sbit (w ++ [q]) = sbit w ||| 2 ^ q := by unfold sbit; rw [List.foldl_append]; rfl
theorem sbit_lt : ∀ (w : List Nat), (∀ q ∈ w, q < 6) → sbit w < 64 := by
  intro w
  have key : ∀ (w : List Nat) (a : Nat), a < 64 → (∀ q ∈ w, q < 6) → w.foldl (fun a q => a ||| 2 ^ q) a < 64 := by
    intro w
    induction w with
    | nil => intro a ha _; exact ha
    | cons x l ih =>
      intro a ha h
      refine ih _ ?_ (fun q hq => h q (List.mem_cons_of_mem _ hq))
      have hx := h x List.mem_cons_self
      exact Nat.or_lt_two_pow (n := 6) ha (Nat.pow_lt_pow_right (by omega) hx)
  intro h
  exact key w 0 (by omega) h
theorem sbit_in (q : Nat) : ∀ (w : List Nat), (sbit w).testBit q = true ↔ q ∈ w := by
  intro w
  have key : ∀ (w : List Nat) (a : Nat), (w.foldl (fun a q => a ||| 2 ^ q) a).testBit q = true ↔ (a.testBit q = true ∨ q ∈ w) := by
    intro w
    induction w with
    | nil => intro a; simp
    | cons x l ih =>
      intro a
      show (l.foldl _ (a ||| 2 ^ x)).testBit q = true ↔ _
      rw [ih, Nat.testBit_or, Nat.testBit_two_pow]
      simp only [Bool.or_eq_true, decide_eq_true_eq, List.mem_cons]
      constructor
      · rintro ((h | h) | h)
        · exact Or.inl h
        · exact Or.inr (Or.inl h.symm)
        · exact Or.inr (Or.inr h)
      · rintro (h | h | h)
        · exact Or.inl (Or.inl h)
        · exact Or.inl (Or.inr h.symm)
        · exact Or.inr h
  unfold sbit
  rw [key]
  simp
theorem bt_tst : ∀ a, a < 64 → ∀ q, q < 6 → ((nI a >>> (nI q &&& 31)) &&& nI 1 = 0 ↔ a.testBit q = false) := by decide +kernel
theorem cum_app {w v : List Nat} : ∀ i, i < w.length → cum V (w ++ v) i = cum V w i
  | 0, _ => rfl
  | i + 1, h => by
    unfold cum
    rw [cum_app i (by omega)]
    simp only [List.getD_eq_getElem?_getD]
    rw [List.getElem?_append_left (by omega), List.getElem?_append_left (by omega)]
theorem cum_le {w : List Nat} (hV : VW V) : ∀ i, cum V w i ≤ 40 * i
  | 0 => by simp [cum]
  | i + 1 => by
    have := cum_le (w := w) hV i
    have := hV.2.2.2.2.2.2.2.2.2.2.2.2.2.2.2.2.1 (w.getD i 0) (w.getD (i + 1) 0)
    unfold cum
    omega
/-- the ways that are kept -/
def WS (V : sV) (W : List (List Nat)) (I : Nat → Nat → Nat → Int32) : Prop := I 10 0 2 = nI W.length ∧ W.length ≤ 65 ∧ ∀ (k : Nat) (w : List Nat), W[k]? = some w → I 48 0 k = nI w.length ∧ 1 ≤ w.length ∧ w.length ≤ 6 ∧ (∀ q ∈ w, q < V 0 4 0) ∧ ∀ i, i < w.length → I 50 k i = nI (w.getD i 0) ∧ I 52 k i = nI (cum V w i)

set_option maxRecDepth 100000 in
set_option maxHeartbeats 4000000 in
theorem c_wadd {W : List (List Nat)} {w : List Nat} (hW : WS V W I) (hl : W.length < 65) (h1 : 1 ≤ w.length) (h6w : w.length ≤ 6) (hq : ∀ q ∈ w, q < V 0 4 0) (hw : ∀ i, i < w.length → I 54 0 i = nI (w.getD i 0) ∧ I 55 0 i = nI (cum V w i)) : Mt G vX10_add (d + 1) (0, 0) [.ref (ad 10 0), .int (nI (w.length))] (MM ad nb b r I L) (qV (fun M' => ∃ I', M' = MM ad nb b r I' L ∧ WS V (W ++ [w]) I' ∧ Sm (fun s => s = 10 ∨ s = 48 ∨ s = 50 ∨ s = 52) I I')) := by
  obtain ⟨e2, hl5, hh⟩ := hW
  refine x_start (by decide) (Nat.le_of_ble_eq_true rfl) ?_
  refine x_aload_n dX10_add_0 rfl ?_
  refine g_Ways_count fX10_40 dX10_add_1 ?_
  rw [e2]
  refine x_bipush dX10_add_4 lb_65 ?_
  refine x_icN_ge 67 dX10_add_6 (by decide) (by omega) (by omega) (fun h6 => absurd h6 (by omega)) (fun h6 => ?_)
  refine x_aload_n dX10_add_9 rfl ?_
  refine g_Ways_lengths fX10_11 dX10_add_10 ?_
  refine x_aload_n dX10_add_13 rfl ?_
  refine g_Ways_count fX10_40 dX10_add_14 ?_
  rw [e2]
  refine x_iload_n dX10_add_17 rfl ?_
  refine x_iast dX10_add_18 rfl rfl (Nat.le_of_ble_eq_true rfl) (by first | exact Nat.le_of_ble_eq_true rfl | assumption | omega) ?_
  refine x_aload_n dX10_add_19 rfl ?_
  refine g_Ways_way fX10_26 dX10_add_20 ?_
  refine x_iconst dX10_add_23 li_0 ?_
  refine x_aload_n dX10_add_24 rfl ?_
  refine g_Ways_stops fX10_17 dX10_add_25 ?_
  refine x_aload_n dX10_add_28 rfl ?_
  refine g_Ways_count fX10_40 dX10_add_29 ?_
  rw [xu_ns (by decide), e2]
  refine aa_Ways_stops dX10_add_32 rfl (by first | exact Nat.le_of_ble_eq_true rfl | assumption | omega) ?_
  refine x_iconst dX10_add_33 li_0 ?_
  refine x_iload_n dX10_add_34 rfl ?_
  refine x_copy dX10_add_35 (xm4 163 rfl rfl) rfl rfl rfl rfl rfl (Nat.le_of_ble_eq_true rfl) (Nat.lt_of_lt_of_le (by first | assumption | omega | decide) (Nat.le_refl 65)) (by first | exact Nat.le_of_ble_eq_true rfl | assumption | omega) (by first | exact Nat.le_of_ble_eq_true rfl | assumption | omega) (Nat.le_of_ble_eq_true rfl) ?_
  have q54 : xu I 48 0 W.length (nI w.length) 54 0 = I 54 0 := funext fun z => xu_ns (by decide)
  have q50 : xu I 48 0 W.length (nI w.length) 50 W.length = I 50 W.length := funext fun z => xu_ns (by decide)
  rw [q54, q50]
  refine x_aload_n dX10_add_38 rfl ?_
  refine g_Ways_clock fX10_29 dX10_add_39 ?_
  refine x_iconst dX10_add_42 li_0 ?_
  refine x_aload_n dX10_add_43 rfl ?_
  refine g_Ways_arrivals fX10_20 dX10_add_44 ?_
  refine x_aload_n dX10_add_47 rfl ?_
  refine g_Ways_count fX10_40 dX10_add_48 ?_
  rw [xur_ns (by decide), xu_ns (by decide), e2]
  refine aa_Ways_arrivals dX10_add_51 rfl (by first | exact Nat.le_of_ble_eq_true rfl | assumption | omega) ?_
  refine x_iconst dX10_add_52 li_0 ?_
  refine x_iload_n dX10_add_53 rfl ?_
  refine x_copy dX10_add_54 (xm4 163 rfl rfl) rfl rfl rfl rfl rfl (Nat.le_of_ble_eq_true rfl) (Nat.lt_of_lt_of_le (by first | assumption | omega | decide) (Nat.le_refl 65)) (by first | exact Nat.le_of_ble_eq_true rfl | assumption | omega) (by first | exact Nat.le_of_ble_eq_true rfl | assumption | omega) (Nat.le_of_ble_eq_true rfl) ?_
  rw [xur_ns (show (55 : Nat) ≠ 50 by decide), xur_ns (show (52 : Nat) ≠ 50 by decide)]
  have q55 : xu I 48 0 W.length (nI w.length) 55 0 = I 55 0 := funext fun z => xu_ns (by decide)
  have q52 : xu I 48 0 W.length (nI w.length) 52 W.length = I 52 W.length := funext fun z => xu_ns (by decide)
  rw [q55, q52]
  refine x_aload_n dX10_add_57 rfl ?_
  refine x_dup dX10_add_58 rfl ?_
  refine g_Ways_count fX10_40 dX10_add_59 ?_
  rw [xur_ns (by decide), xur_ns (by decide), xu_ns (by decide), e2]
  refine x_iconst dX10_add_62 li_1 ?_
  refine x_iaddN dX10_add_63 ?_
  refine p_Ways_count fX10_40 dX10_add_64 ?_
  refine x_vret dX10_add_67 rfl ?_
  refine ⟨rfl, _, rfl, ⟨by rw [xu_s]; congr 1; simp, by simp; omega, ?_⟩, ?_⟩
  · intro k v hk
    by_cases hlt : k < W.length
    · rw [List.getElem?_append_left hlt] at hk
      obtain ⟨g1, g2, g3, g4, g5⟩ := hh k v hk
      refine ⟨?_, g2, g3, g4, fun i hi => ⟨?_, ?_⟩⟩
      · rw [xu_ns (by decide), xur_ns (by decide), xur_ns (by decide), xu_nk (by omega)]; exact g1
      · rw [xu_ns (by decide), xur_ns (by decide), xur_ni (by omega), xu_ns (by decide)]; exact (g5 i hi).1
      · rw [xu_ns (by decide), xur_ni (by omega), xur_ns (by decide), xu_ns (by decide)]; exact (g5 i hi).2
    · rw [List.getElem?_append_right (by omega)] at hk
      have hz : k - W.length < 1 := (List.getElem?_eq_some_iff.mp hk).1
      have em : k = W.length := by omega
      subst em
      rw [Nat.sub_self] at hk
      cases hk
      refine ⟨?_, h1, h6w, hq, fun i hi => ⟨?_, ?_⟩⟩
      · rw [xu_ns (by decide), xur_ns (by decide), xur_ns (by decide), xu_s]
      · rw [xu_ns (by decide), xur_ns (by decide), xur_s, pk_cpy_in (by omega) (by omega)]; simpa using (hw i hi).1
      · rw [xu_ns (by decide), xur_s, pk_cpy_in (by omega) (by omega)]; simpa using (hw i hi).2
  · exact Sm.xu (Sm.xur (Sm.xur (Sm.xu Sm.rf (by simp)) (by simp)) (by simp)) (by simp)

theorem rg_succ {α : Type} (g : Nat → List α) (n : Nat) : (List.range (n + 1)).flatMap g = (List.range n).flatMap g ++ g n := by
  rw [List.range_succ, List.flatMap_append]
  simp
/-- the loop's share of the ways -/
def exq (V : sV) (to f : Nat) (w : List Nat) (p n : Nat) : List (List Nat) := (List.range n).flatMap (fun q => if 0 < V 7 p q ∧ q ∉ w ++ [p] then ex V to f (w ++ [p]) q else [])
theorem exq_s {to f p n : Nat} {w : List Nat} : exq V to f w p (n + 1) = exq V to f w p n ++ (if 0 < V 7 p n ∧ n ∉ w ++ [p] then ex V to f (w ++ [p]) n else []) := rg_succ _ n
theorem exq_le {to f p m n : Nat} {w : List Nat} (h : m ≤ n) : (exq V to f w p m).length ≤ (exq V to f w p n).length := by
  induction n with
  | zero => rw [Nat.le_zero.mp h]; exact Nat.le_refl _
  | succ n ih =>
    by_cases e : m = n + 1
    · rw [e]; exact Nat.le_refl _
    · have := ih (by omega)
      rw [exq_s, List.length_append]
      omega

theorem cum_nx {w : List Nat} {p k : Nat} : cum V (w ++ [p]) w.length + V 7 p k = cum V (w ++ [p] ++ [k]) (w.length + 1) := by
  conv => rhs; unfold cum
  rw [cum_app (w := w ++ [p]) (v := [k]) w.length (by simp)]
  have h1 : (w ++ [p] ++ [k]).getD w.length 0 = p := by simp
  have h2 : (w ++ [p] ++ [k]).getD (w.length + 1) 0 = k := by simp
  rw [h1, h2]
set_option maxRecDepth 100000 in
set_option maxHeartbeats 4000000 in
/-- explore: all ways on from p -/
theorem c_explore (hV : VW V) {to : Nat} (hto : to < V 0 4 0) : ∀ (f : Nat) (w : List Nat) (p H : Nat) (W : List (List Nat)) (I : Nat → Nat → Nat → Int32), XB V 0 I → w.length + f = 6 → p < V 0 4 0 → (∀ q ∈ w, q < V 0 4 0) → H = cum V (w ++ [p]) w.length → WS V W I → W.length + (ex V to f w p).length ≤ 65 → (∀ j, j < w.length → I 54 0 j = nI ((w ++ [p]).getD j 0) ∧ I 55 0 j = nI (cum V (w ++ [p]) j)) → Mt G vX10_explore (d + f + 2) (0, 0) [.ref (ad 10 0), .int (nI (w.length)), .int (nI (p)), .int (nI (H)), .int (nI (to)), .int (nI (sbit (w ++ [p])))] (MM ad nb b r I L) (qV (fun M' => ∃ I', M' = MM ad nb b r I' L ∧ WS V (W ++ ex V to f w p) I' ∧ (∀ j, j < w.length → I' 54 0 j = I 54 0 j ∧ I' 55 0 j = I 55 0 j) ∧ Sm (fun s => s = 10 ∨ s = 48 ∨ s = 50 ∨ s = 52 ∨ s = 54 ∨ s = 55) I I')) := by
  have hp6 := hV.2.2.2.2.1
  intro f
  induction f with
  | zero =>
    intro w p H W I hB hf hp hq hH hW h65 hpre
    refine x_start (by decide) (Nat.le_of_ble_eq_true rfl) ?_
    refine x_iload_n dX10_explore_0 rfl ?_
    refine x_bipush dX10_explore_1 lb_6 ?_
    refine x_icN_lt 7 dX10_explore_3 (by decide) (by omega) (by omega) (fun h3 => absurd h3 (by omega)) (fun h3 => ?_)
    refine x_vret dX10_explore_6 rfl ?_
    refine ⟨rfl, _, rfl, ?_, fun j _ => ⟨rfl, rfl⟩, Sm.rf⟩
    simpa [ex] using hW
  | succ f ihf =>
    intro w p H W I hB hf hp hq hH hW h65 hpre
    have hql : ∀ q ∈ w ++ [p], q < V 0 4 0 := by
      intro q hq1
      rcases List.mem_append.mp hq1 with h | h
      · exact hq q h
      · rw [List.mem_singleton.mp h]; exact hp
    have hsb := sbit_lt (w ++ [p]) (fun q h => by have := hql q h; omega)
    have hH2 := cum_le (w := w ++ [p]) hV w.length
    by_cases hpt : p = to
    · -- he has come
      have e1 : ex V to (f + 1) w p = [w ++ [p]] := by unfold ex; rw [if_pos hpt]
      refine x_start (by decide) (Nat.le_of_ble_eq_true rfl) ?_
      refine x_iload_n dX10_explore_0 rfl ?_
      refine x_bipush dX10_explore_1 lb_6 ?_
      refine x_icN_lt 7 dX10_explore_3 (by decide) (by omega) (by omega) (fun h3 => ?_) (fun h3 => absurd h3 (by omega))
      refine x_aload_n dX10_explore_7 rfl ?_
      refine g_Ways_way fX10_26 dX10_explore_8 ?_
      refine x_iload_n dX10_explore_11 rfl ?_
      refine x_iload_n dX10_explore_12 rfl ?_
      refine x_iast dX10_explore_13 rfl rfl (Nat.le_of_ble_eq_true rfl) (by first | exact Nat.le_of_ble_eq_true rfl | assumption | omega) ?_
      refine x_aload_n dX10_explore_14 rfl ?_
      refine g_Ways_clock fX10_29 dX10_explore_15 ?_
      refine x_iload_n dX10_explore_18 rfl ?_
      refine x_iload_n dX10_explore_19 rfl ?_
      refine x_iast dX10_explore_20 rfl rfl (Nat.le_of_ble_eq_true rfl) (by first | exact Nat.le_of_ble_eq_true rfl | assumption | omega) ?_
      refine x_iload_n dX10_explore_21 rfl ?_
      refine x_iload dX10_explore_22 rfl ?_
      refine x_icN_ne 35 dX10_explore_24 (by decide) (by omega) (by omega) (fun h24 => absurd hpt h24) (fun h24 => ?_)
      have hlen : (w ++ [p]).length = w.length + 1 := by simp
      have hW2 : WS V W (xu (xu I 54 0 w.length (nI p)) 55 0 w.length (nI H)) := by
        obtain ⟨a1, a2, a3⟩ := hW
        refine ⟨by rw [xu_ns (by decide), xu_ns (by decide)]; exact a1, a2, fun k v hk => ?_⟩
        obtain ⟨g1, g2, g3, g4, g5⟩ := a3 k v hk
        exact ⟨by rw [xu_ns (by decide), xu_ns (by decide)]; exact g1, g2, g3, g4, fun i hi => ⟨by rw [xu_ns (by decide), xu_ns (by decide)]; exact (g5 i hi).1, by rw [xu_ns (by decide), xu_ns (by decide)]; exact (g5 i hi).2⟩⟩
      have hpre2 : ∀ j, j < (w ++ [p]).length → xu (xu I 54 0 w.length (nI p)) 55 0 w.length (nI H) 54 0 j = nI ((w ++ [p]).getD j 0) ∧ xu (xu I 54 0 w.length (nI p)) 55 0 w.length (nI H) 55 0 j = nI (cum V (w ++ [p]) j) := by
        intro j hj
        rw [hlen] at hj
        by_cases e : j = w.length
        · subst e
          refine ⟨by rw [xu_ns (by decide), xu_s]; simp, by rw [xu_s, hH]⟩
        · refine ⟨by rw [xu_ns (by decide), xu_nk e]; exact (hpre j (by omega)).1, by rw [xu_nk e, xu_ns (by decide)]; exact (hpre j (by omega)).2⟩
      refine x_aload_n dX10_explore_27 rfl ?_
      refine x_iload_n dX10_explore_28 rfl ?_
      refine x_iconst dX10_explore_29 li_1 ?_
      refine x_iaddN dX10_explore_30 ?_
      rw [show w.length + 1 = (w ++ [p]).length by simp]
      refine x_cvv (c_wadd (d := d + f + 1) (W := W) (w := w ++ [p]) hW2 (by rw [e1] at h65; simp at h65; omega) (by simp) (by simp; omega) hql hpre2) kX10_60 dX10_explore_31 rfl (Nat.le_of_ble_eq_true rfl) rfl rfl (Nat.le_of_ble_eq_true rfl) (fun M2 hq2 => ?_)
      obtain ⟨I2, rfl, hW3, hS3⟩ := hq2
      refine x_vret dX10_explore_34 rfl ?_
      refine ⟨rfl, _, rfl, by rw [e1]; exact hW3, fun j hj => ?_, ?_⟩
      · rw [hS3 54 (by omega), hS3 55 (by omega), xu_ns (by decide), xu_nk (by omega), xu_nk (by omega), xu_ns (by decide)]; exact ⟨rfl, rfl⟩
      · exact (Sm.xu (Sm.xu Sm.rf (by simp)) (by simp)).tr (hS3.wk (fun s h => by omega))
    · have e1 : ex V to (f + 1) w p = exq V to f w p (V 0 4 0) := by unfold ex; rw [if_neg hpt]; rfl
      have loop : ∀ (n k : Nat) (I1 : Nat → Nat → Nat → Int32), V 0 4 0 - k < n → k ≤ V 0 4 0 → (WS V (W ++ exq V to f w p k) I1 ∧ (∀ j, j < w.length + 1 → I1 54 0 j = nI ((w ++ [p]).getD j 0) ∧ I1 55 0 j = nI (cum V (w ++ [p]) j)) ∧ (∀ j, j < w.length → I1 54 0 j = I 54 0 j ∧ I1 55 0 j = I 55 0 j) ∧ Sm (fun s => s = 10 ∨ s = 48 ∨ s = 50 ∨ s = 52 ∨ s = 54 ∨ s = 55) I I1) → X G vX10_explore (d + (f + 1) + 2) (0, 0) 38 [(0, some (.ref (ad 10 0))), (1, some (.int (nI (w.length)))), (2, some (.int (nI (p)))), (3, some (.int (nI (H)))), (4, some (.int (nI (to)))), (5, some (.int (nI (sbit (w ++ [p]))))), (6, some (.int (nI (k))))] [] (MM ad nb b r I1 L) (xT G (qV (fun M' => ∃ I', M' = MM ad nb b r I' L ∧ WS V (W ++ ex V to (f + 1) w p) I' ∧ (∀ j, j < w.length → I' 54 0 j = I 54 0 j ∧ I' 55 0 j = I 55 0 j) ∧ Sm (fun s => s = 10 ∨ s = 48 ∨ s = 50 ∨ s = 52 ∨ s = 54 ∨ s = 55) I I'))) := by
        intro n
        induction n with
        | zero => intro k I1 h0; omega
        | succ n ih =>
          intro k I1 hn hk0 hi
          obtain ⟨hi1, hi2, hi3, hi4⟩ := hi
          have hB1 : XB V 0 I1 := hB.sm (fun s h1 h2 => hi4 s (by omega))
          have e4 : I1 16 0 4 = nI (V 0 4 0) := hB1.1 4 (by omega)
          refine x_iload dX10_explore_38 rfl ?_
          refine x_aload_n dX10_explore_40 rfl ?_
          refine g_Ways_border fX10_32 dX10_explore_41 ?_
          refine g_Border_sizes fX10_64 dX10_explore_44 (by first | exact Nat.le_of_ble_eq_true rfl | assumption | omega) ?_
          refine x_iconst dX10_explore_47 li_4 ?_
          refine x_iald dX10_explore_48 rfl rfl (Nat.lt_of_lt_of_le (by first | assumption | omega | decide) (Nat.le_refl 2)) (by first | exact Nat.le_of_ble_eq_true rfl | assumption | omega) ?_
          rw [e4]
          refine x_icN_ge 109 dX10_explore_49 (by decide) (by omega) (by omega) (fun h49 => ?_) (fun h49 => ?_)
          · refine x_vret dX10_explore_109 rfl ?_
            have hkn : k = V 0 4 0 := Nat.le_antisymm hk0 h49
            subst hkn
            exact ⟨rfl, _, rfl, by rw [e1]; exact hi1, hi3, hi4⟩
          · refine x_aload_n dX10_explore_52 rfl ?_
            refine g_Ways_border fX10_32 dX10_explore_53 ?_
            refine g_Border_hours fX10_69 dX10_explore_56 (by first | exact Nat.le_of_ble_eq_true rfl | assumption | omega) ?_
            refine x_iload_n dX10_explore_59 rfl ?_
            refine aa_Border_hours0 dX10_explore_60 rfl (by first | exact Nat.le_of_ble_eq_true rfl | assumption | omega) ?_
            refine x_iload dX10_explore_61 rfl ?_
            refine x_iald dX10_explore_63 rfl rfl (Nat.lt_of_lt_of_le (by first | assumption | omega | decide) (Nat.le_refl 12)) (by first | exact Nat.le_of_ble_eq_true rfl | assumption | omega) ?_
            have eh : I1 31 p k = nI (V 7 p k) := (hB1.2.2.2.2.2.2.2.2.2.1 _ _ (by omega) (by omega)).1
            have h40 := hV.2.2.2.2.2.2.2.2.2.2.2.2.2.2.2.2.1 p k
            rw [eh]
            refine x_istore dX10_explore_64 (by decide) rfl ?_
            refine x_iload dX10_explore_66 rfl ?_
            refine x_ifN_le 103 dX10_explore_68 (by decide) (by omega) (fun h68 => ?_) (fun h68 => ?_)
            · have hnx : WS V (W ++ exq V to f w p (k + 1)) I1 ∧ (∀ j, j < w.length + 1 → I1 54 0 j = nI ((w ++ [p]).getD j 0) ∧ I1 55 0 j = nI (cum V (w ++ [p]) j)) ∧ (∀ j, j < w.length → I1 54 0 j = I 54 0 j ∧ I1 55 0 j = I 55 0 j) ∧ Sm (fun s => s = 10 ∨ s = 48 ∨ s = 50 ∨ s = 52 ∨ s = 54 ∨ s = 55) I I1 := by
                rw [exq_s, if_neg (fun z => by omega), List.append_nil]
                exact ⟨hi1, hi2, hi3, hi4⟩
              refine x_iincN 1 dX10_explore_103 li_1 rfl (by decide) rfl ?_
              refine x_goto 38 dX10_explore_106 (by decide) ?_
              refine x_ls ?_ (ih (k + 1) _ (by omega) (by omega) hnx)
              exact ⟨rfl, rfl, rfl, rfl, rfl, rfl, rfl, trivial⟩
            · refine x_iload dX10_explore_71 rfl ?_
              refine x_iload dX10_explore_73 rfl ?_
              refine x_ishr dX10_explore_75 ?_
              refine x_iconst dX10_explore_76 li_1 ?_
              refine x_iand dX10_explore_77 ?_
              refine x_if_ne 103 dX10_explore_78 (by decide) (fun h78 => ?_) (fun h78 => ?_)
              · have hnx : WS V (W ++ exq V to f w p (k + 1)) I1 ∧ (∀ j, j < w.length + 1 → I1 54 0 j = nI ((w ++ [p]).getD j 0) ∧ I1 55 0 j = nI (cum V (w ++ [p]) j)) ∧ (∀ j, j < w.length → I1 54 0 j = I 54 0 j ∧ I1 55 0 j = I 55 0 j) ∧ Sm (fun s => s = 10 ∨ s = 48 ∨ s = 50 ∨ s = 52 ∨ s = 54 ∨ s = 55) I I1 := by
                  rw [exq_s, if_neg (fun z => h78 ((bt_tst _ hsb k (by omega)).mpr (by cases hb : (sbit (w ++ [p])).testBit k with | false => rfl | true => exact absurd ((sbit_in k _).mp hb) z.2))), List.append_nil]
                  exact ⟨hi1, hi2, hi3, hi4⟩
                refine x_iincN 1 dX10_explore_103 li_1 rfl (by decide) rfl ?_
                refine x_goto 38 dX10_explore_106 (by decide) ?_
                refine x_ls ?_ (ih (k + 1) _ (by omega) (by omega) hnx)
                exact ⟨rfl, rfl, rfl, rfl, rfl, rfl, rfl, trivial⟩
              · have hns : k ∉ w ++ [p] := fun z => by
                  have := (bt_tst _ hsb k (by omega)).mp h78
                  rw [(sbit_in k (w ++ [p])).mpr z] at this
                  cases this
                have hcall := exq_s (V := V) (to := to) (f := f) (p := p) (n := k) (w := w)
                rw [if_pos ⟨h68, hns⟩] at hcall
                have hle := exq_le (V := V) (to := to) (f := f) (p := p) (w := w) (show k + 1 ≤ V 0 4 0 by omega)
                rw [hcall, List.length_append] at hle
                rw [e1] at h65
                have hlen : (w ++ [p]).length = w.length + 1 := by simp
                refine x_aload_n dX10_explore_81 rfl ?_
                refine x_iload_n dX10_explore_82 rfl ?_
                refine x_iconst dX10_explore_83 li_1 ?_
                refine x_iaddN dX10_explore_84 ?_
                refine x_iload dX10_explore_85 rfl ?_
                refine x_iload_n dX10_explore_87 rfl ?_
                refine x_iload dX10_explore_88 rfl ?_
                refine x_iaddN dX10_explore_90 ?_
                refine x_iload dX10_explore_91 rfl ?_
                refine x_iload dX10_explore_93 rfl ?_
                refine x_iconst dX10_explore_95 li_1 ?_
                refine x_iload dX10_explore_96 rfl ?_
                refine x_ishl dX10_explore_98 ?_
                rw [sh1 k (by omega)]
                refine x_ior dX10_explore_99 ?_
                rw [nI_or, ← sbit_app, ← hlen]
                refine x_cvv (ihf (w ++ [p]) k _ (W ++ exq V to f w p k) I1 hB1 (by omega) (by omega) hql ?_ hi1 (by rw [List.length_append]; omega) ?_) kX10_49 dX10_explore_100 rfl (Nat.le_of_ble_eq_true rfl) rfl rfl (Nat.le_of_ble_eq_true rfl) (fun M2 hq2 => ?_)
                · rw [hH, hlen]
                  exact cum_nx
                · intro j hj
                  rw [hlen] at hj
                  have := hi2 j hj
                  refine ⟨?_, ?_⟩
                  · rw [this.1]; simp only [List.getD_eq_getElem?_getD]; rw [List.getElem?_append_left (l₁ := w ++ [p]) (by omega)]
                  · rw [this.2, cum_app (w := w ++ [p]) j (by omega)]
                obtain ⟨I2, rfl, hW3, hP3, hS3⟩ := hq2
                have hnx : WS V (W ++ exq V to f w p (k + 1)) I2 ∧ (∀ j, j < w.length + 1 → I2 54 0 j = nI ((w ++ [p]).getD j 0) ∧ I2 55 0 j = nI (cum V (w ++ [p]) j)) ∧ (∀ j, j < w.length → I2 54 0 j = I 54 0 j ∧ I2 55 0 j = I 55 0 j) ∧ Sm (fun s => s = 10 ∨ s = 48 ∨ s = 50 ∨ s = 52 ∨ s = 54 ∨ s = 55) I I2 := by
                  refine ⟨by rw [hcall, ← List.append_assoc]; exact hW3, fun j hj => ?_, fun j hj => ?_, hi4.tr hS3⟩
                  · rw [(hP3 j (by omega)).1, (hP3 j (by omega)).2]; exact hi2 j hj
                  · rw [(hP3 j (by omega)).1, (hP3 j (by omega)).2]; exact hi3 j hj
                refine x_iincN 1 dX10_explore_103 li_1 rfl (by decide) rfl ?_
                refine x_goto 38 dX10_explore_106 (by decide) ?_
                refine x_ls ?_ (ih (k + 1) _ (by omega) (by omega) hnx)
                exact ⟨rfl, rfl, rfl, rfl, rfl, rfl, rfl, trivial⟩
      refine x_start (by decide) (Nat.le_of_ble_eq_true rfl) ?_
      refine x_iload_n dX10_explore_0 rfl ?_
      refine x_bipush dX10_explore_1 lb_6 ?_
      refine x_icN_lt 7 dX10_explore_3 (by decide) (by omega) (by omega) (fun h3 => ?_) (fun h3 => absurd h3 (by omega))
      refine x_aload_n dX10_explore_7 rfl ?_
      refine g_Ways_way fX10_26 dX10_explore_8 ?_
      refine x_iload_n dX10_explore_11 rfl ?_
      refine x_iload_n dX10_explore_12 rfl ?_
      refine x_iast dX10_explore_13 rfl rfl (Nat.le_of_ble_eq_true rfl) (by first | exact Nat.le_of_ble_eq_true rfl | assumption | omega) ?_
      refine x_aload_n dX10_explore_14 rfl ?_
      refine g_Ways_clock fX10_29 dX10_explore_15 ?_
      refine x_iload_n dX10_explore_18 rfl ?_
      refine x_iload_n dX10_explore_19 rfl ?_
      refine x_iast dX10_explore_20 rfl rfl (Nat.le_of_ble_eq_true rfl) (by first | exact Nat.le_of_ble_eq_true rfl | assumption | omega) ?_
      refine x_iload_n dX10_explore_21 rfl ?_
      refine x_iload dX10_explore_22 rfl ?_
      refine x_icN_ne 35 dX10_explore_24 (by decide) (by omega) (by omega) (fun h24 => ?_) (fun h24 => absurd h24 hpt)
      refine x_iconst dX10_explore_35 li_0 ?_
      refine x_istore dX10_explore_36 (by decide) rfl ?_
      refine x_ls ?_ (loop (V 0 4 0 + 1) 0 _ (by omega) (by omega) ⟨?_, ?_, ?_, ?_⟩)
      · exact ⟨rfl, rfl, rfl, rfl, rfl, rfl, rfl, trivial⟩
      · have e0 : exq V to f w p 0 = [] := rfl
        rw [e0, List.append_nil]
        obtain ⟨a1, a2, a3⟩ := hW
        refine ⟨by rw [xu_ns (by decide), xu_ns (by decide)]; exact a1, a2, fun k v hk => ?_⟩
        obtain ⟨g1, g2, g3, g4, g5⟩ := a3 k v hk
        exact ⟨by rw [xu_ns (by decide), xu_ns (by decide)]; exact g1, g2, g3, g4, fun i hi => ⟨by rw [xu_ns (by decide), xu_ns (by decide)]; exact (g5 i hi).1, by rw [xu_ns (by decide), xu_ns (by decide)]; exact (g5 i hi).2⟩⟩
      · intro j hj
        by_cases e : j = w.length
        · subst e
          refine ⟨by rw [xu_ns (by decide), xu_s]; simp, by rw [xu_s, hH]⟩
        · refine ⟨by rw [xu_ns (by decide), xu_nk e]; exact (hpre j (by omega)).1, by rw [xu_nk e, xu_ns (by decide)]; exact (hpre j (by omega)).2⟩
      · intro j hj
        rw [xu_ns (by decide), xu_nk (by omega), xu_nk (by omega), xu_ns (by decide)]; exact ⟨rfl, rfl⟩
      · exact Sm.xu (Sm.xu Sm.rf (by simp)) (by simp)
end Ways
