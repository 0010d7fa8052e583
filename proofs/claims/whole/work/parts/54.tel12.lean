section Tel12
variable {G : xG} {ad : Nat → Nat → Nat} {nb : Nat} {b r : Option Nat} {L : Nat → Nat → Nat → Int64} {V : sV} {I : Nat → Nat → Nat → Int32} {d : Nat}

def wkV (V : sV) (t : Nat) (st : List Nat) : sV := fun a b c => if a = 0 ∧ b = 8 ∧ c = 0 then V 0 8 0 + 1 else if a = 13 ∧ b = t ∧ c = 0 then st.length else if a = 14 ∧ b = t then st.getD c 0 else V a b c
def rwl (T : Nat → Nat) (e : Nat) (s : pS) (t : Nat) : Nat → List Nat → Nat → lR
  | 0, _, a => bnd (pKnown T e s.2.1 4 a) (fun _ => .inl (5, tA T e a))
  | f + 1, st, a => bnd (pKnown T e s.2.1 4 a) (fun x => if kd T e (nx T e a) = 4 then rwl T e s t f (st ++ [x]) (nx T e (nx T e a)) else .inr (wkV s.1 t (st ++ [x]), s.2.1, nx T e a))
theorem rwl_0 {T : Nat → Nat} {e t f a : Nat} {s : pS} {st : List Nat} (h : f = 0) : rwl T e s t f st a = bnd (pKnown T e s.2.1 4 a) (fun _ => .inl (5, tA T e a)) := by subst h; rfl
theorem rwl_s {T : Nat → Nat} {e t f a : Nat} {s : pS} {st : List Nat} (h : 0 < f) : rwl T e s t f st a = bnd (pKnown T e s.2.1 4 a) (fun x => if kd T e (nx T e a) = 4 then rwl T e s t (f - 1) (st ++ [x]) (nx T e (nx T e a)) else .inr (wkV s.1 t (st ++ [x]), s.2.1, nx T e a)) := by
  obtain ⟨g, rfl⟩ : ∃ g, f = g + 1 := ⟨f - 1, by omega⟩
  rfl
def rd_walk (T : Nat → Nat) (e : Nat) (s : pS) : lR := bnd (pKnown T e s.2.1 7 s.2.2) (fun t => if s.1 13 t 0 = 0 then rwl T e s t 5 [] (nx T e s.2.2) else .inl (3, tA T e s.2.2))
theorem XB.walk {t : Nat} {st : List Nat} {I' : Nat → Nat → Nat → Int32} (h : XB V 1 I) (hw : ∀ i, i < 6 → I 29 1 i = nO (-1) (V 17 i 0)) (h16 : I' 16 1 8 = nI (V 0 8 0 + 1)) (k16 : ∀ l, l ≠ 8 → I' 16 1 l = I 16 1 l) (h26 : I' 26 1 t = nI st.length) (k26 : ∀ l, l ≠ t → I' 26 1 l = I 26 1 l) (h37 : ∀ j, j < st.length → I' 37 (t + 4) j = nI (st.getD j 0)) (k37 : ∀ c, c ≠ t + 4 → I' 37 c = I 37 c) (ho : ∀ s, 17 ≤ s → s ≤ 37 → s ≠ 26 → s ≠ 37 → I' s = I s) : XB (wkV V t st) 1 I' ∧ ∀ i, i < 6 → I' 29 1 i = nO (-1) (wkV V t st 17 i 0) := by
  obtain ⟨x0, x1, x2, x3, x4, x5, x6, x7, x8, x9, x10, x11⟩ := h
  have vs : ∀ k, k ≠ 8 → wkV V t st 0 k 0 = V 0 k 0 := fun k hk => by unfold wkV; rw [if_neg (fun z => hk z.2.1), if_neg (by omega), if_neg (by omega)]
  have vz : wkV V t st 0 8 0 = V 0 8 0 + 1 := if_pos ⟨rfl, rfl, rfl⟩
  have vo : ∀ k i j, k ≠ 0 → k ≠ 13 → k ≠ 14 → wkV V t st k i j = V k i j := fun k i j h0 h1 h2 => by unfold wkV; rw [if_neg (fun z => h0 z.1), if_neg (fun z => h1 z.1), if_neg (fun z => h2 z.1)]
  have v13 : ∀ u, u ≠ t → wkV V t st 13 u 0 = V 13 u 0 := fun u hu => by unfold wkV; rw [if_neg (by omega), if_neg (fun z => hu z.2.1), if_neg (by omega)]
  have v14 : ∀ u j, u ≠ t → wkV V t st 14 u j = V 14 u j := fun u j hu => by unfold wkV; rw [if_neg (by omega), if_neg (by omega), if_neg (fun z => hu z.2)]
  have w13 : wkV V t st 13 t 0 = st.length := by unfold wkV; rw [if_neg (by omega), if_pos ⟨rfl, rfl, rfl⟩]
  have w14 : ∀ j, wkV V t st 14 t j = st.getD j 0 := fun j => by unfold wkV; rw [if_neg (by omega), if_neg (by omega), if_pos ⟨rfl, rfl⟩]
  have hw' : ∀ i, i < 6 → I' 29 1 i = nO (-1) (wkV V t st 17 i 0) := fun i hi => by rw [ho 29 (by decide) (by decide) (by decide) (by decide), vo 17 i 0 (by decide) (by decide) (by decide)]; exact hw i hi
  refine ⟨⟨fun k hk => ?_, ?_, ?_, ?_, ?_, ?_, fun u hu => ?_, ?_, fun s hs _ => hw' s hs, ?_, ?_, fun u j hu hj => ?_⟩, hw'⟩
  · by_cases e0 : k = 8
    · subst e0; rw [vz]; exact h16
    · rw [k16 k e0, vs k e0]; exact x0 k hk
  · simp only [vs 1 (by decide), ho 17 (by decide) (by decide) (by decide) (by decide), vo 1 _ _ (by decide) (by decide) (by decide)]; exact x1
  · simp only [vs 2 (by decide), ho 18 (by decide) (by decide) (by decide) (by decide), ho 19 (by decide) (by decide) (by decide) (by decide), vo 2 _ _ (by decide) (by decide) (by decide), vo 3 _ _ (by decide) (by decide) (by decide)]; exact x2
  · simp only [vs 3 (by decide), ho 20 (by decide) (by decide) (by decide) (by decide), vo 4 _ _ (by decide) (by decide) (by decide)]; exact x3
  · simp only [vs 4 (by decide), ho 21 (by decide) (by decide) (by decide) (by decide), ho 22 (by decide) (by decide) (by decide) (by decide), vo 5 _ _ (by decide) (by decide) (by decide), vo 6 _ _ (by decide) (by decide) (by decide)]; exact x4
  · simp only [vs 7 (by decide), ho 23 (by decide) (by decide) (by decide) (by decide), ho 24 (by decide) (by decide) (by decide) (by decide), ho 25 (by decide) (by decide) (by decide) (by decide), vo 9 _ _ (by decide) (by decide) (by decide), vo 10 _ _ (by decide) (by decide) (by decide), vo 11 _ _ (by decide) (by decide) (by decide)]; exact x5
  · by_cases e0 : u = t
    · subst e0; rw [w13]; exact h26
    · rw [k26 u e0, v13 u e0]; exact x6 u hu
  · simp only [vs 9 (by decide), ho 27 (by decide) (by decide) (by decide) (by decide), ho 28 (by decide) (by decide) (by decide) (by decide), vo 15 _ _ (by decide) (by decide) (by decide), vo 16 _ _ (by decide) (by decide) (by decide)]; exact x7
  · simp only [ho 31 (by decide) (by decide) (by decide) (by decide), ho 33 (by decide) (by decide) (by decide) (by decide), vo 7 _ _ (by decide) (by decide) (by decide), vo 8 _ _ (by decide) (by decide) (by decide)]; exact x9
  · simp only [ho 35 (by decide) (by decide) (by decide) (by decide), vo 12 _ _ (by decide) (by decide) (by decide)]; exact x10
  · by_cases e0 : u = t
    · subst e0; rw [w13] at hj; rw [w14]; exact h37 j hj
    · rw [v13 u e0] at hj; rw [v14 u j e0, k37 _ (by omega)]; exact x11 u j hu hj

end Tel12
