section M22
variable {G : xG} {ad : Nat → Nat → Nat} {nb : Nat} {b r : Option Nat} {L : Nat → Nat → Nat → Int64} {V : sV} {I : Nat → Nat → Nat → Int32} {d : Nat}

variable {P w : List Nat} {T : List (List Nat)}
theorem xq_s {q : Nat} : xq V (P ++ [q]) (P.length + 1) = cmf V (fun s => xq V P P.length s - (if P.length = 0 then 0 else fd (V 2 s 0) * V 7 (P.getD (P.length - 1) 0) q)) q := by
  have e1 : (P ++ [q]).getD P.length 0 = q := by rw [List.getD_eq_getElem?_getD, List.getElem?_concat_length]; rfl
  show cmf V _ _ = _
  rw [e1, xq_app P.length (Nat.le_refl _)]
  congr 1
  funext s
  by_cases z : P.length = 0
  · rw [if_pos z, if_pos z]
  · rw [if_neg z, if_neg z, List.getD_eq_getElem?_getD, List.getElem?_append_left (by omega), ← List.getD_eq_getElem?_getD]
theorem bm_len : ∀ (f : Nat) (w : List Nat) (p : Nat) (h : Nat → Nat) (u : List Nat), u ∈ bm V f w p h → w.length + 1 ≤ u.length ∧ u.length ≤ w.length + f
  | 0, w, p, h, u, hu => absurd hu List.not_mem_nil
  | f + 1, w, p, h, u, hu => by
    rw [bm_s] at hu
    rcases List.mem_append.mp hu with k | k
    · unfold bm1 at k
      split at k
      · rw [List.mem_singleton.mp k, List.length_append]; simp
      · exact absurd k List.not_mem_nil
    · unfold bmq at k
      obtain ⟨q, _, k2⟩ := List.mem_flatMap.mp k
      split at k2
      · have := bm_len f (w ++ [p]) q _ u k2
        rw [List.length_append] at this
        have h1 : w.length + 1 + 1 ≤ u.length ∧ u.length ≤ w.length + 1 + f := this
        omega
      · exact absurd k2 List.not_mem_nil
theorem bm_bl : ∀ (f : Nat) (w : List Nat) (p : Nat) (h : Nat → Nat), cmf V h p = xq V (w ++ [p]) (w.length + 1) → ∀ r, r ≤ f → (bm V (f + 1) w p h).filter (fun u => u.length == w.length + 1 + r) = bl V r (w ++ [p]) := by
  intro f
  induction f with
  | zero =>
    intro w p h hc r hr
    obtain rfl : r = 0 := by omega
    rw [bm_s, List.filter_append]
    have e2 : (bmq V 0 w p h (V 0 4 0)) = [] := by
      unfold bmq
      refine List.flatMap_eq_nil_iff.mpr (fun q _ => ?_)
      split <;> rfl
    rw [e2]
    unfold bm1 bl
    rw [hc, show (w ++ [p]).length = w.length + 1 by rw [List.length_append]; rfl]
    split
    · simp
    · rfl
  | succ f ih =>
    intro w p h hc r hr
    rw [bm_s, List.filter_append]
    cases r with
    | zero =>
      have e2 : (bmq V (f + 1) w p h (V 0 4 0)).filter (fun u => u.length == w.length + 1 + 0) = [] := by
        refine List.filter_eq_nil_iff.mpr (fun u hu => ?_)
        unfold bmq at hu
        obtain ⟨q, _, k2⟩ := List.mem_flatMap.mp hu
        split at k2
        · have := bm_len (f + 1) (w ++ [p]) q _ u k2
          rw [List.length_append] at this
          have h1 : w.length + 1 + 1 ≤ u.length := this.1
          simp; omega
        · exact absurd k2 List.not_mem_nil
      rw [e2, List.append_nil]
      unfold bm1 bl
      rw [hc, show (w ++ [p]).length = w.length + 1 by rw [List.length_append]; rfl]
      split
      · simp
      · rfl
    | succ r =>
      have e1 : (bm1 V w p h).filter (fun u => u.length == w.length + 1 + (r + 1)) = [] := by
        unfold bm1
        split
        · simp
        · rfl
      rw [e1, List.nil_append]
      unfold bmq
      rw [List.filter_flatMap]
      show _ = (List.range (V 0 4 0)).flatMap (fun q => if pok V (w ++ [p]) q = true then bl V r (w ++ [p] ++ [q]) else [])
      congr 1
      funext q
      have hl : (w ++ [p]).length = w.length + 1 := by rw [List.length_append]; rfl
      have hlast : (w ++ [p]).getD ((w ++ [p]).length - 1) 0 = p := by rw [hl, Nat.add_sub_cancel, List.getD_eq_getElem?_getD, List.getElem?_concat_length]; rfl
      have hp : pok V (w ++ [p]) q = decide (0 < V 7 p q ∧ q ∉ w ++ [p]) := by
        unfold pok
        rw [hlast, decide_eq_false (show ¬ (w ++ [p]).length = 0 by omega), Bool.false_or, Bool.decide_and, Bool.and_comm]
      rw [hp]
      by_cases z : 0 < V 7 p q ∧ q ∉ w ++ [p]
      · rw [if_pos z, if_pos (decide_eq_true z), ← ih (w ++ [p]) q (fun s => cmf V h p s - fd (V 2 s 0) * V 7 p q) ?_ r (by omega), hl, show w.length + 1 + (r + 1) = w.length + 1 + 1 + r by omega]
        rw [xq_s]
        congr 1
        funext s
        rw [if_neg (by omega), hlast, hl, ← hc]
      · rw [if_neg z, if_neg (by rw [decide_eq_false z]; decide)]
        rfl
theorem been_bl {m : Nat} (h1 : 1 ≤ m) (h4 : m ≤ 4) : (been V).filter (fun u => u.length == m) = bl V m [] := by
  obtain ⟨r, rfl⟩ : ∃ r, m = r + 1 := ⟨m - 1, by omega⟩
  unfold been bqs
  rw [List.filter_flatMap]
  show _ = (List.range (V 0 4 0)).flatMap (fun q => if pok V [] q = true then bl V r ([] ++ [q]) else [])
  congr 1
  funext q
  rw [if_pos (by unfold pok; simp), ← bm_bl 3 [] q (fun _ => 0) ?_ r (by omega), show ([] : List Nat).length + 1 + r = r + 1 by simp; omega]
  show _ = xq V ([] ++ [q]) (([] : List Nat).length + 1)
  rw [xq_s]
  rfl
theorem been_len : ∀ u ∈ been V, 1 ≤ u.length ∧ u.length ≤ 4 := by
  intro u hu
  unfold been bqs at hu
  obtain ⟨q, _, k⟩ := List.mem_flatMap.mp hu
  have := bm_len 4 [] q _ u k
  simp at this
  omega
/-- the rows in the model's order -/
def mtk (V : sV) : Nat → List (List Nat)
  | 0 => []
  | k + 1 => mtk V k ++ bl V (k + 1) []
theorem mtk_mem {u : List Nat} : ∀ k, k ≤ 4 → (u ∈ mtk V k ↔ u ∈ been V ∧ u.length ≤ k) := by
  intro k
  induction k with
  | zero =>
    intro _
    refine ⟨fun h => absurd h List.not_mem_nil, fun h => ?_⟩
    have := been_len u h.1
    omega
  | succ k ih =>
    intro hk
    show u ∈ mtk V k ++ bl V (k + 1) [] ↔ _
    rw [List.mem_append, ih (by omega), ← been_bl (by omega) hk, List.mem_filter]
    constructor
    · rintro (⟨a, c⟩ | ⟨a, c⟩)
      · exact ⟨a, by omega⟩
      · have := beq_iff_eq.mp c; exact ⟨a, by omega⟩
    · rintro ⟨a, c⟩
      by_cases z : u.length = k + 1
      · exact Or.inr ⟨a, beq_iff_eq.mpr z⟩
      · exact Or.inl ⟨a, by omega⟩
theorem ft_len : ∀ (l : List (List Nat)) (k : Nat), (l.filter (fun u => decide (u.length ≤ k + 1))).length = (l.filter (fun u => decide (u.length ≤ k))).length + (l.filter (fun u => u.length == k + 1)).length
  | [], _ => rfl
  | a :: l, k => by
    have := ft_len l k
    rw [List.filter_cons, List.filter_cons, List.filter_cons]
    by_cases z : a.length = k + 1
    · rw [if_pos (decide_eq_true (by omega)), if_neg (by simp; omega), if_pos (beq_iff_eq.mpr z)]
      simp only [List.length_cons]; omega
    · by_cases y : a.length ≤ k
      · rw [if_pos (decide_eq_true (by omega)), if_pos (decide_eq_true y), if_neg (by simp; omega)]
        simp only [List.length_cons]; omega
      · rw [if_neg (by simp; omega), if_neg (by simp; omega), if_neg (by simp; omega)]; omega
theorem mtk_len : ∀ k, k ≤ 4 → (mtk V k).length = ((been V).filter (fun u => decide (u.length ≤ k))).length
  | 0, _ => by
    rw [List.filter_eq_nil_iff.mpr (fun u hu h => absurd (of_decide_eq_true h) (by have := been_len u hu; omega))]
    rfl
  | k + 1, h => by
    show (mtk V k ++ bl V (k + 1) []).length = _
    rw [List.length_append, mtk_len k (by omega), ft_len, been_bl (by omega) h]
theorem mt_len : (mtk V 4).length = (been V).length := by
  rw [mtk_len 4 (by omega), List.filter_eq_self.mpr (fun u hu => decide_eq_true (been_len u hu).2)]
theorem mt_mem {u : List Nat} : u ∈ mtk V 4 ↔ u ∈ been V := by
  rw [mtk_mem 4 (by omega)]
  exact ⟨fun h => h.1, fun h => ⟨h, (been_len u h).2⟩⟩
theorem orT_bit {i : Nat} : ∀ (l : List (List Nat)) (a : Nat), (l.foldl (fun a w => a ||| sbit w) a).testBit i = true ↔ a.testBit i = true ∨ ∃ w ∈ l, i ∈ w
  | [], a => ⟨fun h => Or.inl h, fun h => h.elim id (fun ⟨_, k, _⟩ => absurd k List.not_mem_nil)⟩
  | w :: l, a => by
    show (l.foldl (fun a w => a ||| sbit w) (a ||| sbit w)).testBit i = true ↔ _
    rw [orT_bit l, Nat.testBit_or, Bool.or_eq_true, sbit_in]
    constructor
    · rintro ((h | h) | ⟨v, h1, h2⟩)
      · exact Or.inl h
      · exact Or.inr ⟨w, List.mem_cons_self, h⟩
      · exact Or.inr ⟨v, List.mem_cons_of_mem _ h1, h2⟩
    · rintro (h | ⟨v, h1, h2⟩)
      · exact Or.inl (Or.inl h)
      · rcases List.mem_cons.mp h1 with e | e
        · subst e; exact Or.inl (Or.inr h2)
        · exact Or.inr ⟨v, e, h2⟩
theorem anT_bit {i : Nat} : ∀ (l : List (List Nat)) (a : Nat), (l.foldl (fun a w => a &&& sbit w) a).testBit i = true ↔ a.testBit i = true ∧ ∀ w ∈ l, i ∈ w
  | [], a => ⟨fun h => ⟨h, fun _ k => absurd k List.not_mem_nil⟩, fun h => h.1⟩
  | w :: l, a => by
    show (l.foldl (fun a w => a &&& sbit w) (a &&& sbit w)).testBit i = true ↔ _
    rw [anT_bit l, Nat.testBit_and, Bool.and_eq_true, sbit_in]
    constructor
    · rintro ⟨⟨h1, h2⟩, h3⟩
      exact ⟨h1, fun v hv => (List.mem_cons.mp hv).elim (fun e => e ▸ h2) (fun e => h3 v e)⟩
    · rintro ⟨h1, h2⟩
      exact ⟨⟨h1, h2 w List.mem_cons_self⟩, fun v hv => h2 v (List.mem_cons_of_mem _ hv)⟩
theorem bit_eq {a c : Nat} (h : ∀ i, a.testBit i = true ↔ c.testBit i = true) : a = c := Nat.eq_of_testBit_eq (fun i => by
  cases e : a.testBit i with
  | true => exact ((h i).mp e).symm
  | false =>
    cases e2 : c.testBit i with
    | false => rfl
    | true => rw [(h i).mpr e2] at e; exact absurd e (by decide))
theorem mt_or : orT (mtk V 4) = orT (been V) := bit_eq (fun i => by
  unfold orT
  rw [orT_bit, orT_bit]
  exact ⟨fun h => h.imp id (fun ⟨w, a, c⟩ => ⟨w, mt_mem.mp a, c⟩), fun h => h.imp id (fun ⟨w, a, c⟩ => ⟨w, mt_mem.mpr a, c⟩)⟩)
theorem been_lt : ∀ u ∈ been V, ∀ x ∈ u, x < V 0 4 0 := by
  have key : ∀ (f : Nat) (w : List Nat) (p : Nat) (h : Nat → Nat), (∀ x ∈ w, x < V 0 4 0) → p < V 0 4 0 → ∀ u ∈ bm V f w p h, ∀ x ∈ u, x < V 0 4 0 := by
    intro f
    induction f with
    | zero => intro w p h _ _ u hu; exact absurd hu List.not_mem_nil
    | succ f ih =>
      intro w p h hw hp u hu
      have hwp : ∀ x ∈ w ++ [p], x < V 0 4 0 := fun x hx => (List.mem_append.mp hx).elim (hw x) (fun e => by rw [List.mem_singleton.mp e]; exact hp)
      rw [bm_s] at hu
      rcases List.mem_append.mp hu with k | k
      · unfold bm1 at k
        split at k
        · rw [List.mem_singleton.mp k]; exact hwp
        · exact absurd k List.not_mem_nil
      · unfold bmq at k
        obtain ⟨q, hq, k2⟩ := List.mem_flatMap.mp k
        split at k2
        · exact ih (w ++ [p]) q _ hwp (List.mem_range.mp hq) u k2
        · exact absurd k2 List.not_mem_nil
  intro u hu
  unfold been bqs at hu
  obtain ⟨q, hq, k⟩ := List.mem_flatMap.mp hu
  exact key 4 [] q _ (fun x hx => absurd hx List.not_mem_nil) (List.mem_range.mp hq) u k
theorem mt_an (h4 : V 0 4 0 ≤ 6) (hne : been V ≠ []) : anP V (mtk V 4) = anT (been V) := bit_eq (fun i => by
  unfold anP anT
  rw [anT_bit, anT_bit]
  obtain ⟨u, hu⟩ := List.exists_mem_of_ne_nil _ hne
  constructor
  · rintro ⟨_, h⟩
    have h2 : ∀ w ∈ been V, i ∈ w := fun w hw => h w (mt_mem.mpr hw)
    have hi := been_lt u hu i (h2 u hu)
    exact ⟨by rw [show (63 : Nat) = 2 ^ 6 - 1 from rfl, Nat.testBit_two_pow_sub_one]; simp; omega, h2⟩
  · rintro ⟨_, h⟩
    have hi := been_lt u hu i (h u hu)
    exact ⟨by rw [Nat.testBit_two_pow_sub_one]; simp; exact hi, fun w hw => h w (mt_mem.mp hw)⟩)
/-- the first of the shortest -/
theorem fs_acc : ∀ (l : List (List Nat)) (a : List Nat), 1 ≤ a.length → (∀ w ∈ l, 1 ≤ w.length) → (∀ w ∈ a :: l, (l.foldl fsF a).length ≤ w.length) ∧ ((a :: l).filter (fun u => u.length == (l.foldl fsF a).length)).head? = some (l.foldl fsF a)
  | [], a, h1, _ => ⟨fun w hw => by rw [List.mem_singleton.mp hw]; exact Nat.le_refl _, by simp⟩
  | w :: l, a, h1, h2 => by
    have hw := h2 w List.mem_cons_self
    have h3 : ∀ w ∈ l, 1 ≤ w.length := fun v hv => h2 v (List.mem_cons_of_mem _ hv)
    show (∀ v ∈ a :: w :: l, (l.foldl fsF (fsF a w)).length ≤ v.length) ∧ ((a :: w :: l).filter (fun u => u.length == (l.foldl fsF (fsF a w)).length)).head? = some (l.foldl fsF (fsF a w))
    by_cases z : w.length < a.length
    · rw [show fsF a w = w from if_pos (Or.inr z)]
      obtain ⟨k1, k2⟩ := fs_acc l w hw h3
      have kw := k1 w List.mem_cons_self
      refine ⟨fun v hv => ?_, ?_⟩
      · rcases List.mem_cons.mp hv with e | e
        · subst e; exact Nat.le_trans kw (by omega)
        · exact k1 v e
      · rw [List.filter_cons, if_neg (by simp; intro y; exact absurd (show a.length = _ from y) (by have : (l.foldl fsF w).length ≤ w.length := kw; omega))]
        exact k2
    · rw [show fsF a w = a from if_neg (by omega)]
      obtain ⟨k1, k2⟩ := fs_acc l a h1 h3
      have ka := k1 a List.mem_cons_self
      have ka' : (l.foldl fsF a).length ≤ a.length := ka
      refine ⟨fun v hv => ?_, ?_⟩
      · rcases List.mem_cons.mp hv with e | e
        · subst e; exact ka
        · rcases List.mem_cons.mp e with e | e
          · subst e; exact Nat.le_trans ka (by omega)
          · exact k1 v (List.mem_cons_of_mem _ e)
      · have k2' : ((a :: l).filter (fun u => u.length == (l.foldl fsF a).length)).head? = some (l.foldl fsF a) := k2
        show ((a :: w :: l).filter (fun u => u.length == (l.foldl fsF a).length)).head? = some (l.foldl fsF a)
        rw [List.filter_cons] at k2' ⊢
        by_cases y : a.length = (l.foldl fsF a).length
        · rw [if_pos (beq_iff_eq.mpr y)] at k2' ⊢
          exact k2'
        · rw [if_neg (by simp; exact y)] at k2' ⊢
          rw [List.filter_cons, if_neg (by simp; intro x; omega)]
          exact k2'
theorem fs_all {l : List (List Nat)} (hne : l ≠ []) (h : ∀ w ∈ l, 1 ≤ w.length) : (∀ w ∈ l, (fsT l).length ≤ w.length) ∧ (l.filter (fun u => u.length == (fsT l).length)).head? = some (fsT l) ∧ 1 ≤ (fsT l).length := by
  cases l with
  | nil => exact absurd rfl hne
  | cons a l =>
    have h1 := h a List.mem_cons_self
    have e : fsT (a :: l) = l.foldl fsF a := by
      show l.foldl fsF (fsF [] a) = _
      rw [show fsF [] a = a from if_pos (Or.inl rfl)]
    rw [e]
    obtain ⟨k1, k2⟩ := fs_acc l a h1 (fun w hw => h w (List.mem_cons_of_mem _ hw))
    refine ⟨k1, k2, ?_⟩
    have : l.foldl fsF a ∈ (a :: l).filter (fun u => u.length == (l.foldl fsF a).length) := List.mem_of_head? k2
    exact h _ (List.mem_filter.mp this).1
theorem mt_hd (hne : been V ≠ []) : (mtk V 4).getD 0 [] = fsT (been V) := by
  obtain ⟨k1, k2, k3⟩ := fs_all hne (fun w hw => (been_len w hw).1)
  generalize hm : (fsT (been V)).length = m at k1 k2 k3
  have hmem : fsT (been V) ∈ been V := (List.mem_filter.mp (List.mem_of_head? k2)).1
  have h4 := (been_len _ hmem).2
  rw [hm] at h4
  rw [been_bl k3 h4] at k2
  have e0 : ∀ k, k < m → mtk V k = [] := fun k hk => List.eq_nil_iff_forall_not_mem.mpr (fun u hu => by
    have := (mtk_mem k (by omega)).mp hu
    have := k1 u this.1
    omega)
  have key : ∀ k, m ≤ k → (mtk V k).head? = some (fsT (been V)) := by
    intro k
    induction k with
    | zero => intro h; omega
    | succ k ih =>
      intro h
      show (mtk V k ++ bl V (k + 1) []).head? = _
      by_cases z : m = k + 1
      · rw [e0 k (by omega), List.nil_append, ← z]; exact k2
      · rw [List.head?_append, ih (by omega)]; rfl
  have := key 4 h4
  rw [List.getD_eq_getElem?_getD, ← List.head?_eq_getElem?, this]
  rfl

end M22
