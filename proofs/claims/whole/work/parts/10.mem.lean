/-! the X layer: memory by segments; shapes of the segments, kinds of the fields -/
def xshL : List ((Nat × Nat) ⊕ Nat) := [.inr 0, .inr 1, .inr 2, .inr 3, .inr 4, .inr 5, .inr 6, .inr 7, .inr 8, .inr 9, .inr 10, .inr 11, .inr 12, .inr 13, .inl (0, 1100), .inl (0, 6), .inl (0, 12), .inl (0, 4), .inl (0, 6), .inl (0, 6), .inl (0, 4), .inl (0, 6), .inl (0, 6), .inl (0, 4), .inl (0, 4), .inl (0, 4), .inl (0, 4), .inl (0, 4), .inl (0, 4), .inl (0, 6), .inl (4, 6), .inl (0, 6), .inl (4, 6), .inl (0, 6), .inl (4, 4), .inl (0, 6), .inl (4, 4), .inl (0, 5), .inl (2, 24), .inl (0, 24), .inl (0, 24), .inl (0, 6), .inl (0, 16), .inl (0, 6), .inl (3, 4), .inl (3, 16), .inl (3, 12), .inl (0, 5), .inl (0, 65), .inl (4, 65), .inl (0, 6), .inl (4, 65), .inl (0, 6), .inl (0, 65), .inl (0, 6), .inl (0, 6), .inl (0, 4), .inl (0, 4), .inl (4, 4), .inl (0, 6), .inl (0, 6), .inl (0, 6), .inl (4, 65), .inl (0, 6), .inl (0, 4), .inl (0, 6), .inl (0, 6), .inl (0, 4), .inl (0, 6), .inl (0, 6), .inl (0, 36), .inl (0, 36), .inl (0, 4), .inl (0, 4), .inl (0, 4), .inl (0, 24), .inl (0, 4), .inl (0, 20), .inl (0, 4), .inl (0, 4), .inl (0, 6), .inl (2, 24), .inl (0, 24), .inl (0, 24), .inl (1, 1100), .inl (0, 36), .inl (0, 576), .inl (0, 108), .inl (0, 6), .inl (0, 6), .inl (0, 4), .inl (0, 5), .inl (0, 6), .inl (0, 18), .inl (0, 3), .inl (0, 3), .inl (0, 3), .inl (0, 390), .inl (0, 4), .inl (0, 4), .inl (0, 6), .inl (0, 6), .inl (0, 6), .inl (2, 1)]
def xsh (s : Nat) : (Nat × Nat) ⊕ Nat := xshL.getD s (.inr 99)
def xftL : List (List Nat) := [[2, 2, 0, 0, 2, 2, 0, 2], [2, 2, 0], [2, 2, 2, 2, 2, 2, 2, 2, 2, 2, 2, 2, 2, 2, 2, 2, 2, 2], [2, 2, 2, 0, 0, 2], [0, 0, 0, 2], [2, 2, 0, 2, 2], [2, 0, 0, 2, 2, 2, 2, 0, 0, 0], [2, 0, 0, 0, 0, 1], [2, 2, 0, 0, 0, 0, 2, 2, 2], [2, 2, 2, 2, 0], [2, 2, 0, 2, 2, 2, 2, 2, 2], [2, 0, 2, 2, 2, 2, 2, 2, 2, 2, 2, 2, 0, 0, 0], [0, 0, 0, 0, 0, 0, 0, 0, 0, 0, 0, 0, 0, 2, 2, 2, 2, 2, 2, 2, 2, 2, 2, 2, 2, 2, 2, 2, 2, 2, 2, 2, 2], [0, 0, 0, 2, 2, 2, 0, 0, 0, 0, 0, 0, 0, 0, 0, 1, 2, 2, 2, 0, 0, 2, 2, 2, 2, 2, 2, 2, 2, 2, 2, 0, 2, 2, 0, 0, 0, 0, 2, 2, 2, 0]]
def xft (c : Nat) : List Nat := xftL.getD c []

def xty (t : Nat) : FieldType := match t with
  | 0 => .int
  | 1 => .byte
  | 2 => .long
  | 3 => .object "SmellCustoms$Person"
  | _ => .array .int
/-- memory: addresses, how many cells a segment has, ints, longs, references -/
abbrev xM : Type := (Nat → Nat → Nat) × (Nat → Nat) × (Nat → Nat → Nat → Int32) × (Nat → Nat → Nat → Int64) × (Nat → Nat → Nat → Option Nat)
/-- what stays: classes, array classes, String constants, static arrays, the first new address -/
abbrev xG : Type := va_G × (Nat → ClassId) × (Nat → Nat) × (Nat → Nat) × (Nat → Nat) × Nat
abbrev xA (G : xG) : Nat → Prop := fun q => G.2.2.2.2.2 ≤ q
abbrev xtys (G : xG) : List (ClassId × FieldType) := [(G.2.1 0, .int), (G.2.1 1, .byte), (G.2.1 2, .long), (G.2.1 3, .object "SmellCustoms$Person"), (G.2.1 4, .array .int)]
def xfv (t : Nat) (i : Int32) (j : Int64) (r : Option Nat) : Value := match t with
  | 0 => .int i
  | 1 => .long j
  | _ => va_rf r
def xfs (c : Nat) (i : Nat → Int32) (j : Nat → Int64) (r : Nat → Option Nat) : List Value := (xft c).mapIdx (fun k t => xfv t (i k) (j k) (r k))
def xar (t : Nat) (i : Nat → Int32) (j : Nat → Int64) (r : Nat → Option Nat) : (Nat → Int32) ⊕ (Nat → Int64) ⊕ (Nat → UInt32) ⊕ (Nat → UInt64) ⊕ (Nat → Option Nat) := match t with
  | 0 => .inl i
  | 1 => .inl i
  | 2 => .inr (.inl j)
  | _ => .inr (.inr (.inr (.inr r)))
def xE (G : xG) (M : xM) (s i : Nat) : va_E := match xsh s with
  | .inl (t, n) => .inl (G.2.1 t, n, xar t (M.2.2.1 s i) (M.2.2.2.1 s i) (M.2.2.2.2 s i))
  | .inr c => .inr (c, xfs c (M.2.2.1 s i) (M.2.2.2.1 s i) (M.2.2.2.2 s i))
def xw (G : xG) (M : xM) (dom : List (Nat × Nat)) : va_W := dom.map (fun q => (M.1 q.1 q.2, xE G M q.1 q.2))
def xH (G : xG) (M : xM) (H : Heap) : Prop := G.2.2.2.2.2 ≤ H.size ∧ ∃ dom : List (Nat × Nat), dom.Nodup ∧ (∀ s i, (s, i) ∈ dom ↔ i < M.2.1 s) ∧ va_P G.1 vwCl (xw G M dom) H ∧ va_D (xA G) (xw G M dom)
theorem xE_o {G : xG} {M : xM} {s i c : Nat} (h : xsh s = .inr c) : xE G M s i = .inr (c, xfs c (M.2.2.1 s i) (M.2.2.2.1 s i) (M.2.2.2.2 s i)) := by unfold xE; rw [h]
theorem xE_a {G : xG} {M : xM} {s i t n : Nat} (h : xsh s = .inl (t, n)) : xE G M s i = .inl (G.2.1 t, n, xar t (M.2.2.1 s i) (M.2.2.2.1 s i) (M.2.2.2.2 s i)) := by unfold xE; rw [h]
theorem xfs_get {c k t : Nat} {i : Nat → Int32} {j : Nat → Int64} {r : Nat → Option Nat} (h : (xft c)[k]? = some t) : (xfs c i j r)[k]? = some (xfv t (i k) (j k) (r k)) := by
  unfold xfs; rw [List.getElem?_mapIdx, h]; rfl
theorem xfs_len {c : Nat} {i : Nat → Int32} {j : Nat → Int64} {r : Nat → Option Nat} : (xfs c i j r).length = (xft c).length := by unfold xfs; rw [List.length_mapIdx]
/-- one place of a three-place function -/
def xu {α : Type} (f : Nat → Nat → Nat → α) (s i k : Nat) (v : α) : Nat → Nat → Nat → α := fun a b c => if a = s ∧ b = i ∧ c = k then v else f a b c
theorem xu_s {α : Type} {f : Nat → Nat → Nat → α} {s i k : Nat} {v : α} : xu f s i k v s i k = v := if_pos ⟨rfl, rfl, rfl⟩
theorem xu_n {α : Type} {f : Nat → Nat → Nat → α} {s i k a b c : Nat} {v : α} (h : ¬ (a = s ∧ b = i ∧ c = k)) : xu f s i k v a b c = f a b c := if_neg h
theorem xu_ns {α : Type} {f : Nat → Nat → Nat → α} {s i k a b c : Nat} {v : α} (h : a ≠ s) : xu f s i k v a b c = f a b c := if_neg (fun q => h q.1)
theorem xu_ni {α : Type} {f : Nat → Nat → Nat → α} {s i k a b c : Nat} {v : α} (h : b ≠ i) : xu f s i k v a b c = f a b c := if_neg (fun q => h q.2.1)
theorem xu_nk {α : Type} {f : Nat → Nat → Nat → α} {s i k a b c : Nat} {v : α} (h : c ≠ k) : xu f s i k v a b c = f a b c := if_neg (fun q => h q.2.2)
theorem xu_at {α : Type} {f : Nat → Nat → Nat → α} {s i k c : Nat} {v : α} : xu f s i k v s i c = if c = k then v else f s i c := by
  unfold xu
  by_cases h : c = k
  · rw [if_pos ⟨rfl, rfl, h⟩, if_pos h]
  · rw [if_neg (fun q => h q.2.2), if_neg h]
theorem xfs_setI {c k : Nat} {i : Nat → Int32} {j : Nat → Int64} {r : Nat → Option Nat} {v : Int32} (h : (xft c)[k]? = some 0) : (xfs c i j r).set k (.int v) = xfs c (fun a => if a = k then v else i a) j r := by
  apply List.ext_getElem?
  intro a
  by_cases ha : a = k
  · subst ha
    rw [List.getElem?_set_self (by rw [xfs_len]; exact (List.getElem?_eq_some_iff.mp h).1), xfs_get h]
    simp [xfv]
  · rw [List.getElem?_set_ne (Ne.symm ha)]
    unfold xfs
    rw [List.getElem?_mapIdx, List.getElem?_mapIdx]
    simp [ha]
theorem xfs_setL {c k : Nat} {i : Nat → Int32} {j : Nat → Int64} {r : Nat → Option Nat} {v : Int64} (h : (xft c)[k]? = some 1) : (xfs c i j r).set k (.long v) = xfs c i (fun a => if a = k then v else j a) r := by
  apply List.ext_getElem?
  intro a
  by_cases ha : a = k
  · subst ha
    rw [List.getElem?_set_self (by rw [xfs_len]; exact (List.getElem?_eq_some_iff.mp h).1), xfs_get h]
    simp [xfv]
  · rw [List.getElem?_set_ne (Ne.symm ha)]
    unfold xfs
    rw [List.getElem?_mapIdx, List.getElem?_mapIdx]
    simp [ha]
theorem xfs_setR {c k : Nat} {i : Nat → Int32} {j : Nat → Int64} {r : Nat → Option Nat} {v : Option Nat} (h : (xft c)[k]? = some 2) : (xfs c i j r).set k (va_rf v) = xfs c i j (fun a => if a = k then v else r a) := by
  apply List.ext_getElem?
  intro a
  by_cases ha : a = k
  · subst ha
    rw [List.getElem?_set_self (by rw [xfs_len]; exact (List.getElem?_eq_some_iff.mp h).1), xfs_get h]
    simp [xfv]
  · rw [List.getElem?_set_ne (Ne.symm ha)]
    unfold xfs
    rw [List.getElem?_mapIdx, List.getElem?_mapIdx]
    simp [ha]
/-- where a live cell stands in the list -/
theorem xw_get {G : xG} {M : xM} {dom : List (Nat × Nat)} {s i : Nat} (h : (s, i) ∈ dom) : ∃ k : Nat, dom[k]? = some (s, i) ∧ (xw G M dom)[k]? = some (M.1 s i, xE G M s i) := by
  obtain ⟨k, hk⟩ := List.getElem?_of_mem h
  exact ⟨k, hk, by unfold xw; rw [List.getElem?_map, hk]; rfl⟩
theorem x_nd : ∀ {l : List (Nat × Nat)} {a b : Nat} {q : Nat × Nat}, l.Nodup → l[a]? = some q → l[b]? = some q → a = b
  | [], a, b, q, _, h, _ => by simp at h
  | y :: l, a, b, q, hn, h1, h2 => by
    rw [List.nodup_cons] at hn
    cases a with
    | zero =>
      cases b with
      | zero => rfl
      | succ b =>
        rw [List.getElem?_cons_zero] at h1
        rw [List.getElem?_cons_succ] at h2
        cases h1
        exact absurd (List.mem_of_getElem? h2) hn.1
    | succ a =>
      rw [List.getElem?_cons_succ] at h1
      cases b with
      | zero =>
        rw [List.getElem?_cons_zero] at h2
        cases h2
        exact absurd (List.mem_of_getElem? h1) hn.1
      | succ b =>
        rw [List.getElem?_cons_succ] at h2
        rw [x_nd hn.2 h1 h2]
/-- one cell of the list is another -/
theorem xw_set {G : xG} {M M' : xM} {dom : List (Nat × Nat)} {s i k : Nat} {e : va_E} (hn : dom.Nodup) (hk : dom[k]? = some (s, i)) (h1 : M'.1 = M.1) (he : xE G M' s i = e) (ho : ∀ a b, (a, b) ∈ dom → ¬ (a = s ∧ b = i) → xE G M' a b = xE G M a b) : (xw G M dom).set k (M.1 s i, e) = xw G M' dom := by
  apply List.ext_getElem?
  intro a
  unfold xw
  by_cases ha : a = k
  · subst ha
    have hl := (List.getElem?_eq_some_iff.mp hk).1
    rw [List.getElem?_set_self (by rw [List.length_map]; exact hl), List.getElem?_map, hk]
    simp [h1, he]
  · rw [List.getElem?_set_ne (Ne.symm ha), List.getElem?_map, List.getElem?_map]
    cases hd : dom[a]? with
    | none => rfl
    | some q =>
      have hne : ¬ (q.1 = s ∧ q.2 = i) := by
        intro z
        have hq : q = (s, i) := Prod.ext z.1 z.2
        rw [hq] at hd
        exact ha (x_nd hn hd hk)
      simp only [Option.map_some]
      rw [h1, ho q.1 q.2 (List.mem_of_getElem? hd) hne]
