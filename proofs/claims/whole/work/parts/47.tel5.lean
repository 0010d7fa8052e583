section Tel5
variable {G : xG} {ad : Nat → Nat → Nat} {nb : Nat} {b r : Option Nat} {L : Nat → Nat → Nat → Int64} {V : sV} {I : Nat → Nat → Nat → Int32} {d : Nat}
def addV (V : sV) (so n : Nat) (F : List (Nat × Nat)) : sV := fun a b c => if a = 0 ∧ b = so ∧ c = 0 then n + 1 else if b = n ∧ c = 0 then (match F.find? (fun q => q.1 == a) with
  | some q => q.2
  | none => V a b c) else V a b c
theorem XB.land {y0 : Nat} {I' : Nat → Nat → Nat → Int32} (h : XB V 1 I) (hw : ∀ i, i < 6 → I 29 1 i = nO (-1) (V 17 i 0)) (h16 : I' 16 1 1 = nI (V 0 1 0 + 1)) (k16 : ∀ l, l ≠ 1 → I' 16 1 l = I 16 1 l) (h17 : I' 17 1 (V 0 1 0) = nI (y0)) (k17 : ∀ l, l ≠ V 0 1 0 → I' 17 1 l = I 17 1 l) (ho : ∀ s, 17 ≤ s → s ≤ 37 → s ≠ 17 → I' s = I s) : XB (addV V 1 (V 0 1 0) [(1, y0)]) 1 I' ∧ ∀ i, i < 6 → I' 29 1 i = nO (-1) ((addV V 1 (V 0 1 0) [(1, y0)]) 17 i 0) := by
  obtain ⟨x0, x1, x2, x3, x4, x5, x6, x7, x8, x9, x10, x11⟩ := h
  have vs : ∀ k, k ≠ 1 → (addV V 1 (V 0 1 0) [(1, y0)]) 0 k 0 = V 0 k 0 := by
    intro k hk
    unfold addV
    rw [if_neg (fun q => hk q.2.1)]
    split
    · rfl
    · rfl
  have vz : (addV V 1 (V 0 1 0) [(1, y0)]) 0 1 0 = V 0 1 0 + 1 := if_pos ⟨rfl, rfl, rfl⟩
  have vo : ∀ k i j, k ≠ 0 → k ≠ 1 → (addV V 1 (V 0 1 0) [(1, y0)]) k i j = V k i j := by
    intro k i j h0 g1
    unfold addV
    rw [if_neg (fun q => h0 q.1)]
    split
    · rw [show List.find? (fun q => q.1 == k) [(1, y0)] = none by simp [Ne.symm g1]]
    · rfl
  have va1 : (addV V 1 (V 0 1 0) [(1, y0)]) 1 (V 0 1 0) 0 = y0 := by unfold addV; rw [if_neg (by omega), if_pos ⟨rfl, rfl⟩]; rfl
  have vb1 : ∀ l, l ≠ V 0 1 0 → (addV V 1 (V 0 1 0) [(1, y0)]) 1 l 0 = V 1 l 0 := fun l hl => by unfold addV; rw [if_neg (by omega), if_neg (fun q => hl q.1)]
  have hw' : ∀ i, i < 6 → I' 29 1 i = nO (-1) ((addV V 1 (V 0 1 0) [(1, y0)]) 17 i 0) := fun i hi => by rw [ho 29 (by decide) (by decide) (by decide), vo 17 i 0 (by decide) (by decide)]; exact hw i hi
  refine ⟨⟨fun k hk => ?_, ?_, ?_, ?_, ?_, ?_, ?_, ?_, fun s hs _ => hw' s hs, ?_, ?_, ?_⟩, hw'⟩
  · by_cases e0 : k = 1
    · subst e0; rw [vz]; exact h16
    · rw [k16 k e0, vs k e0]; exact x0 k hk
  · intro l hl
    rw [vz] at hl
    refine ?_
    · by_cases e0 : l = V 0 1 0
      · subst e0; rw [va1]; exact h17
      · rw [k17 l e0, vb1 l e0]; exact (x1 l (by omega))
  · simp only [vs 2 (by decide), ho 18 (by decide) (by decide) (by decide), ho 19 (by decide) (by decide) (by decide), vo 2 _ _ (by decide) (by decide), vo 3 _ _ (by decide) (by decide)]; exact x2
  · simp only [vs 3 (by decide), ho 20 (by decide) (by decide) (by decide), vo 4 _ _ (by decide) (by decide)]; exact x3
  · simp only [vs 4 (by decide), ho 21 (by decide) (by decide) (by decide), ho 22 (by decide) (by decide) (by decide), vo 5 _ _ (by decide) (by decide), vo 6 _ _ (by decide) (by decide)]; exact x4
  · simp only [vs 7 (by decide), ho 23 (by decide) (by decide) (by decide), ho 24 (by decide) (by decide) (by decide), ho 25 (by decide) (by decide) (by decide), vo 9 _ _ (by decide) (by decide), vo 10 _ _ (by decide) (by decide), vo 11 _ _ (by decide) (by decide)]; exact x5
  · simp only [ho 26 (by decide) (by decide) (by decide), vo 13 _ _ (by decide) (by decide)]; exact x6
  · simp only [vs 9 (by decide), ho 27 (by decide) (by decide) (by decide), ho 28 (by decide) (by decide) (by decide), vo 15 _ _ (by decide) (by decide), vo 16 _ _ (by decide) (by decide)]; exact x7
  · simp only [ho 31 (by decide) (by decide) (by decide), ho 33 (by decide) (by decide) (by decide), vo 7 _ _ (by decide) (by decide), vo 8 _ _ (by decide) (by decide)]; exact x9
  · simp only [ho 35 (by decide) (by decide) (by decide), vo 12 _ _ (by decide) (by decide)]; exact x10
  · simp only [ho 37 (by decide) (by decide) (by decide), vo 13 _ _ (by decide) (by decide), vo 14 _ _ (by decide) (by decide)]; exact x11
theorem XB.smell {y0 y1 : Nat} {I' : Nat → Nat → Nat → Int32} (h : XB V 1 I) (hw : ∀ i, i < 6 → I 29 1 i = nO (-1) (V 17 i 0)) (h16 : I' 16 1 2 = nI (V 0 2 0 + 1)) (k16 : ∀ l, l ≠ 2 → I' 16 1 l = I 16 1 l) (h18 : I' 18 1 (V 0 2 0) = nI (y0)) (k18 : ∀ l, l ≠ V 0 2 0 → I' 18 1 l = I 18 1 l) (h19 : I' 19 1 (V 0 2 0) = nI (y1)) (k19 : ∀ l, l ≠ V 0 2 0 → I' 19 1 l = I 19 1 l) (ho : ∀ s, 17 ≤ s → s ≤ 37 → s ≠ 18 → s ≠ 19 → I' s = I s) : XB (addV V 2 (V 0 2 0) [(2, y0), (3, y1)]) 1 I' ∧ ∀ i, i < 6 → I' 29 1 i = nO (-1) ((addV V 2 (V 0 2 0) [(2, y0), (3, y1)]) 17 i 0) := by
  obtain ⟨x0, x1, x2, x3, x4, x5, x6, x7, x8, x9, x10, x11⟩ := h
  have vs : ∀ k, k ≠ 2 → (addV V 2 (V 0 2 0) [(2, y0), (3, y1)]) 0 k 0 = V 0 k 0 := by
    intro k hk
    unfold addV
    rw [if_neg (fun q => hk q.2.1)]
    split
    · rfl
    · rfl
  have vz : (addV V 2 (V 0 2 0) [(2, y0), (3, y1)]) 0 2 0 = V 0 2 0 + 1 := if_pos ⟨rfl, rfl, rfl⟩
  have vo : ∀ k i j, k ≠ 0 → k ≠ 2 → k ≠ 3 → (addV V 2 (V 0 2 0) [(2, y0), (3, y1)]) k i j = V k i j := by
    intro k i j h0 g2 g3
    unfold addV
    rw [if_neg (fun q => h0 q.1)]
    split
    · rw [show List.find? (fun q => q.1 == k) [(2, y0), (3, y1)] = none by simp [Ne.symm g2, Ne.symm g3]]
    · rfl
  have va2 : (addV V 2 (V 0 2 0) [(2, y0), (3, y1)]) 2 (V 0 2 0) 0 = y0 := by unfold addV; rw [if_neg (by omega), if_pos ⟨rfl, rfl⟩]; rfl
  have vb2 : ∀ l, l ≠ V 0 2 0 → (addV V 2 (V 0 2 0) [(2, y0), (3, y1)]) 2 l 0 = V 2 l 0 := fun l hl => by unfold addV; rw [if_neg (by omega), if_neg (fun q => hl q.1)]
  have va3 : (addV V 2 (V 0 2 0) [(2, y0), (3, y1)]) 3 (V 0 2 0) 0 = y1 := by unfold addV; rw [if_neg (by omega), if_pos ⟨rfl, rfl⟩]; rfl
  have vb3 : ∀ l, l ≠ V 0 2 0 → (addV V 2 (V 0 2 0) [(2, y0), (3, y1)]) 3 l 0 = V 3 l 0 := fun l hl => by unfold addV; rw [if_neg (by omega), if_neg (fun q => hl q.1)]
  have hw' : ∀ i, i < 6 → I' 29 1 i = nO (-1) ((addV V 2 (V 0 2 0) [(2, y0), (3, y1)]) 17 i 0) := fun i hi => by rw [ho 29 (by decide) (by decide) (by decide) (by decide), vo 17 i 0 (by decide) (by decide) (by decide)]; exact hw i hi
  refine ⟨⟨fun k hk => ?_, ?_, ?_, ?_, ?_, ?_, ?_, ?_, fun s hs _ => hw' s hs, ?_, ?_, ?_⟩, hw'⟩
  · by_cases e0 : k = 2
    · subst e0; rw [vz]; exact h16
    · rw [k16 k e0, vs k e0]; exact x0 k hk
  · simp only [vs 1 (by decide), ho 17 (by decide) (by decide) (by decide) (by decide), vo 1 _ _ (by decide) (by decide) (by decide)]; exact x1
  · intro l hl
    rw [vz] at hl
    refine ⟨?_, ?_⟩
    · by_cases e0 : l = V 0 2 0
      · subst e0; rw [va2]; exact h18
      · rw [k18 l e0, vb2 l e0]; exact (x2 l (by omega)).1
    · by_cases e0 : l = V 0 2 0
      · subst e0; rw [va3]; exact h19
      · rw [k19 l e0, vb3 l e0]; exact (x2 l (by omega)).2
  · simp only [vs 3 (by decide), ho 20 (by decide) (by decide) (by decide) (by decide), vo 4 _ _ (by decide) (by decide) (by decide)]; exact x3
  · simp only [vs 4 (by decide), ho 21 (by decide) (by decide) (by decide) (by decide), ho 22 (by decide) (by decide) (by decide) (by decide), vo 5 _ _ (by decide) (by decide) (by decide), vo 6 _ _ (by decide) (by decide) (by decide)]; exact x4
  · simp only [vs 7 (by decide), ho 23 (by decide) (by decide) (by decide) (by decide), ho 24 (by decide) (by decide) (by decide) (by decide), ho 25 (by decide) (by decide) (by decide) (by decide), vo 9 _ _ (by decide) (by decide) (by decide), vo 10 _ _ (by decide) (by decide) (by decide), vo 11 _ _ (by decide) (by decide) (by decide)]; exact x5
  · simp only [ho 26 (by decide) (by decide) (by decide) (by decide), vo 13 _ _ (by decide) (by decide) (by decide)]; exact x6
  · simp only [vs 9 (by decide), ho 27 (by decide) (by decide) (by decide) (by decide), ho 28 (by decide) (by decide) (by decide) (by decide), vo 15 _ _ (by decide) (by decide) (by decide), vo 16 _ _ (by decide) (by decide) (by decide)]; exact x7
  · simp only [ho 31 (by decide) (by decide) (by decide) (by decide), ho 33 (by decide) (by decide) (by decide) (by decide), vo 7 _ _ (by decide) (by decide) (by decide), vo 8 _ _ (by decide) (by decide) (by decide)]; exact x9
  · simp only [ho 35 (by decide) (by decide) (by decide) (by decide), vo 12 _ _ (by decide) (by decide) (by decide)]; exact x10
  · simp only [ho 37 (by decide) (by decide) (by decide) (by decide), vo 13 _ _ (by decide) (by decide) (by decide), vo 14 _ _ (by decide) (by decide) (by decide)]; exact x11
theorem XB.nose {y0 : Nat} {I' : Nat → Nat → Nat → Int32} (h : XB V 1 I) (hw : ∀ i, i < 6 → I 29 1 i = nO (-1) (V 17 i 0)) (h16 : I' 16 1 3 = nI (V 0 3 0 + 1)) (k16 : ∀ l, l ≠ 3 → I' 16 1 l = I 16 1 l) (h20 : I' 20 1 (V 0 3 0) = nI (y0)) (k20 : ∀ l, l ≠ V 0 3 0 → I' 20 1 l = I 20 1 l) (ho : ∀ s, 17 ≤ s → s ≤ 37 → s ≠ 20 → I' s = I s) : XB (addV V 3 (V 0 3 0) [(4, y0)]) 1 I' ∧ ∀ i, i < 6 → I' 29 1 i = nO (-1) ((addV V 3 (V 0 3 0) [(4, y0)]) 17 i 0) := by
  obtain ⟨x0, x1, x2, x3, x4, x5, x6, x7, x8, x9, x10, x11⟩ := h
  have vs : ∀ k, k ≠ 3 → (addV V 3 (V 0 3 0) [(4, y0)]) 0 k 0 = V 0 k 0 := by
    intro k hk
    unfold addV
    rw [if_neg (fun q => hk q.2.1)]
    split
    · rfl
    · rfl
  have vz : (addV V 3 (V 0 3 0) [(4, y0)]) 0 3 0 = V 0 3 0 + 1 := if_pos ⟨rfl, rfl, rfl⟩
  have vo : ∀ k i j, k ≠ 0 → k ≠ 4 → (addV V 3 (V 0 3 0) [(4, y0)]) k i j = V k i j := by
    intro k i j h0 g4
    unfold addV
    rw [if_neg (fun q => h0 q.1)]
    split
    · rw [show List.find? (fun q => q.1 == k) [(4, y0)] = none by simp [Ne.symm g4]]
    · rfl
  have va4 : (addV V 3 (V 0 3 0) [(4, y0)]) 4 (V 0 3 0) 0 = y0 := by unfold addV; rw [if_neg (by omega), if_pos ⟨rfl, rfl⟩]; rfl
  have vb4 : ∀ l, l ≠ V 0 3 0 → (addV V 3 (V 0 3 0) [(4, y0)]) 4 l 0 = V 4 l 0 := fun l hl => by unfold addV; rw [if_neg (by omega), if_neg (fun q => hl q.1)]
  have hw' : ∀ i, i < 6 → I' 29 1 i = nO (-1) ((addV V 3 (V 0 3 0) [(4, y0)]) 17 i 0) := fun i hi => by rw [ho 29 (by decide) (by decide) (by decide), vo 17 i 0 (by decide) (by decide)]; exact hw i hi
  refine ⟨⟨fun k hk => ?_, ?_, ?_, ?_, ?_, ?_, ?_, ?_, fun s hs _ => hw' s hs, ?_, ?_, ?_⟩, hw'⟩
  · by_cases e0 : k = 3
    · subst e0; rw [vz]; exact h16
    · rw [k16 k e0, vs k e0]; exact x0 k hk
  · simp only [vs 1 (by decide), ho 17 (by decide) (by decide) (by decide), vo 1 _ _ (by decide) (by decide)]; exact x1
  · simp only [vs 2 (by decide), ho 18 (by decide) (by decide) (by decide), ho 19 (by decide) (by decide) (by decide), vo 2 _ _ (by decide) (by decide), vo 3 _ _ (by decide) (by decide)]; exact x2
  · intro l hl
    rw [vz] at hl
    refine ?_
    · by_cases e0 : l = V 0 3 0
      · subst e0; rw [va4]; exact h20
      · rw [k20 l e0, vb4 l e0]; exact (x3 l (by omega))
  · simp only [vs 4 (by decide), ho 21 (by decide) (by decide) (by decide), ho 22 (by decide) (by decide) (by decide), vo 5 _ _ (by decide) (by decide), vo 6 _ _ (by decide) (by decide)]; exact x4
  · simp only [vs 7 (by decide), ho 23 (by decide) (by decide) (by decide), ho 24 (by decide) (by decide) (by decide), ho 25 (by decide) (by decide) (by decide), vo 9 _ _ (by decide) (by decide), vo 10 _ _ (by decide) (by decide), vo 11 _ _ (by decide) (by decide)]; exact x5
  · simp only [ho 26 (by decide) (by decide) (by decide), vo 13 _ _ (by decide) (by decide)]; exact x6
  · simp only [vs 9 (by decide), ho 27 (by decide) (by decide) (by decide), ho 28 (by decide) (by decide) (by decide), vo 15 _ _ (by decide) (by decide), vo 16 _ _ (by decide) (by decide)]; exact x7
  · simp only [ho 31 (by decide) (by decide) (by decide), ho 33 (by decide) (by decide) (by decide), vo 7 _ _ (by decide) (by decide), vo 8 _ _ (by decide) (by decide)]; exact x9
  · simp only [ho 35 (by decide) (by decide) (by decide), vo 12 _ _ (by decide) (by decide)]; exact x10
  · simp only [ho 37 (by decide) (by decide) (by decide), vo 13 _ _ (by decide) (by decide), vo 14 _ _ (by decide) (by decide)]; exact x11
theorem XB.place {y0 y1 : Nat} {I' : Nat → Nat → Nat → Int32} (h : XB V 1 I) (hw : ∀ i, i < 6 → I 29 1 i = nO (-1) (V 17 i 0)) (h16 : I' 16 1 4 = nI (V 0 4 0 + 1)) (k16 : ∀ l, l ≠ 4 → I' 16 1 l = I 16 1 l) (h21 : I' 21 1 (V 0 4 0) = nI (y0)) (k21 : ∀ l, l ≠ V 0 4 0 → I' 21 1 l = I 21 1 l) (h22 : I' 22 1 (V 0 4 0) = nO (-2) (y1)) (k22 : ∀ l, l ≠ V 0 4 0 → I' 22 1 l = I 22 1 l) (ho : ∀ s, 17 ≤ s → s ≤ 37 → s ≠ 21 → s ≠ 22 → I' s = I s) : XB (addV V 4 (V 0 4 0) [(5, y0), (6, y1)]) 1 I' ∧ ∀ i, i < 6 → I' 29 1 i = nO (-1) ((addV V 4 (V 0 4 0) [(5, y0), (6, y1)]) 17 i 0) := by
  obtain ⟨x0, x1, x2, x3, x4, x5, x6, x7, x8, x9, x10, x11⟩ := h
  have vs : ∀ k, k ≠ 4 → (addV V 4 (V 0 4 0) [(5, y0), (6, y1)]) 0 k 0 = V 0 k 0 := by
    intro k hk
    unfold addV
    rw [if_neg (fun q => hk q.2.1)]
    split
    · rfl
    · rfl
  have vz : (addV V 4 (V 0 4 0) [(5, y0), (6, y1)]) 0 4 0 = V 0 4 0 + 1 := if_pos ⟨rfl, rfl, rfl⟩
  have vo : ∀ k i j, k ≠ 0 → k ≠ 5 → k ≠ 6 → (addV V 4 (V 0 4 0) [(5, y0), (6, y1)]) k i j = V k i j := by
    intro k i j h0 g5 g6
    unfold addV
    rw [if_neg (fun q => h0 q.1)]
    split
    · rw [show List.find? (fun q => q.1 == k) [(5, y0), (6, y1)] = none by simp [Ne.symm g5, Ne.symm g6]]
    · rfl
  have va5 : (addV V 4 (V 0 4 0) [(5, y0), (6, y1)]) 5 (V 0 4 0) 0 = y0 := by unfold addV; rw [if_neg (by omega), if_pos ⟨rfl, rfl⟩]; rfl
  have vb5 : ∀ l, l ≠ V 0 4 0 → (addV V 4 (V 0 4 0) [(5, y0), (6, y1)]) 5 l 0 = V 5 l 0 := fun l hl => by unfold addV; rw [if_neg (by omega), if_neg (fun q => hl q.1)]
  have va6 : (addV V 4 (V 0 4 0) [(5, y0), (6, y1)]) 6 (V 0 4 0) 0 = y1 := by unfold addV; rw [if_neg (by omega), if_pos ⟨rfl, rfl⟩]; rfl
  have vb6 : ∀ l, l ≠ V 0 4 0 → (addV V 4 (V 0 4 0) [(5, y0), (6, y1)]) 6 l 0 = V 6 l 0 := fun l hl => by unfold addV; rw [if_neg (by omega), if_neg (fun q => hl q.1)]
  have hw' : ∀ i, i < 6 → I' 29 1 i = nO (-1) ((addV V 4 (V 0 4 0) [(5, y0), (6, y1)]) 17 i 0) := fun i hi => by rw [ho 29 (by decide) (by decide) (by decide) (by decide), vo 17 i 0 (by decide) (by decide) (by decide)]; exact hw i hi
  refine ⟨⟨fun k hk => ?_, ?_, ?_, ?_, ?_, ?_, ?_, ?_, fun s hs _ => hw' s hs, ?_, ?_, ?_⟩, hw'⟩
  · by_cases e0 : k = 4
    · subst e0; rw [vz]; exact h16
    · rw [k16 k e0, vs k e0]; exact x0 k hk
  · simp only [vs 1 (by decide), ho 17 (by decide) (by decide) (by decide) (by decide), vo 1 _ _ (by decide) (by decide) (by decide)]; exact x1
  · simp only [vs 2 (by decide), ho 18 (by decide) (by decide) (by decide) (by decide), ho 19 (by decide) (by decide) (by decide) (by decide), vo 2 _ _ (by decide) (by decide) (by decide), vo 3 _ _ (by decide) (by decide) (by decide)]; exact x2
  · simp only [vs 3 (by decide), ho 20 (by decide) (by decide) (by decide) (by decide), vo 4 _ _ (by decide) (by decide) (by decide)]; exact x3
  · intro l hl
    rw [vz] at hl
    refine ⟨?_, ?_⟩
    · by_cases e0 : l = V 0 4 0
      · subst e0; rw [va5]; exact h21
      · rw [k21 l e0, vb5 l e0]; exact (x4 l (by omega)).1
    · by_cases e0 : l = V 0 4 0
      · subst e0; rw [va6]; exact h22
      · rw [k22 l e0, vb6 l e0]; exact (x4 l (by omega)).2
  · simp only [vs 7 (by decide), ho 23 (by decide) (by decide) (by decide) (by decide), ho 24 (by decide) (by decide) (by decide) (by decide), ho 25 (by decide) (by decide) (by decide) (by decide), vo 9 _ _ (by decide) (by decide) (by decide), vo 10 _ _ (by decide) (by decide) (by decide), vo 11 _ _ (by decide) (by decide) (by decide)]; exact x5
  · simp only [ho 26 (by decide) (by decide) (by decide) (by decide), vo 13 _ _ (by decide) (by decide) (by decide)]; exact x6
  · simp only [vs 9 (by decide), ho 27 (by decide) (by decide) (by decide) (by decide), ho 28 (by decide) (by decide) (by decide) (by decide), vo 15 _ _ (by decide) (by decide) (by decide), vo 16 _ _ (by decide) (by decide) (by decide)]; exact x7
  · simp only [ho 31 (by decide) (by decide) (by decide) (by decide), ho 33 (by decide) (by decide) (by decide) (by decide), vo 7 _ _ (by decide) (by decide) (by decide), vo 8 _ _ (by decide) (by decide) (by decide)]; exact x9
  · simp only [ho 35 (by decide) (by decide) (by decide) (by decide), vo 12 _ _ (by decide) (by decide) (by decide)]; exact x10
  · simp only [ho 37 (by decide) (by decide) (by decide) (by decide), vo 13 _ _ (by decide) (by decide) (by decide), vo 14 _ _ (by decide) (by decide) (by decide)]; exact x11
theorem XB.trav {y0 y1 y2 : Nat} {I' : Nat → Nat → Nat → Int32} (h : XB V 1 I) (hw : ∀ i, i < 6 → I 29 1 i = nO (-1) (V 17 i 0)) (h16 : I' 16 1 7 = nI (V 0 7 0 + 1)) (k16 : ∀ l, l ≠ 7 → I' 16 1 l = I 16 1 l) (h23 : I' 23 1 (V 0 7 0) = nI (y0)) (k23 : ∀ l, l ≠ V 0 7 0 → I' 23 1 l = I 23 1 l) (h24 : I' 24 1 (V 0 7 0) = nI (y1)) (k24 : ∀ l, l ≠ V 0 7 0 → I' 24 1 l = I 24 1 l) (h25 : I' 25 1 (V 0 7 0) = nI (y2)) (k25 : ∀ l, l ≠ V 0 7 0 → I' 25 1 l = I 25 1 l) (ho : ∀ s, 17 ≤ s → s ≤ 37 → s ≠ 23 → s ≠ 24 → s ≠ 25 → I' s = I s) : XB (addV V 7 (V 0 7 0) [(9, y0), (10, y1), (11, y2)]) 1 I' ∧ ∀ i, i < 6 → I' 29 1 i = nO (-1) ((addV V 7 (V 0 7 0) [(9, y0), (10, y1), (11, y2)]) 17 i 0) := by
  obtain ⟨x0, x1, x2, x3, x4, x5, x6, x7, x8, x9, x10, x11⟩ := h
  have vs : ∀ k, k ≠ 7 → (addV V 7 (V 0 7 0) [(9, y0), (10, y1), (11, y2)]) 0 k 0 = V 0 k 0 := by
    intro k hk
    unfold addV
    rw [if_neg (fun q => hk q.2.1)]
    split
    · rfl
    · rfl
  have vz : (addV V 7 (V 0 7 0) [(9, y0), (10, y1), (11, y2)]) 0 7 0 = V 0 7 0 + 1 := if_pos ⟨rfl, rfl, rfl⟩
  have vo : ∀ k i j, k ≠ 0 → k ≠ 9 → k ≠ 10 → k ≠ 11 → (addV V 7 (V 0 7 0) [(9, y0), (10, y1), (11, y2)]) k i j = V k i j := by
    intro k i j h0 g9 g10 g11
    unfold addV
    rw [if_neg (fun q => h0 q.1)]
    split
    · rw [show List.find? (fun q => q.1 == k) [(9, y0), (10, y1), (11, y2)] = none by simp [Ne.symm g9, Ne.symm g10, Ne.symm g11]]
    · rfl
  have va9 : (addV V 7 (V 0 7 0) [(9, y0), (10, y1), (11, y2)]) 9 (V 0 7 0) 0 = y0 := by unfold addV; rw [if_neg (by omega), if_pos ⟨rfl, rfl⟩]; rfl
  have vb9 : ∀ l, l ≠ V 0 7 0 → (addV V 7 (V 0 7 0) [(9, y0), (10, y1), (11, y2)]) 9 l 0 = V 9 l 0 := fun l hl => by unfold addV; rw [if_neg (by omega), if_neg (fun q => hl q.1)]
  have va10 : (addV V 7 (V 0 7 0) [(9, y0), (10, y1), (11, y2)]) 10 (V 0 7 0) 0 = y1 := by unfold addV; rw [if_neg (by omega), if_pos ⟨rfl, rfl⟩]; rfl
  have vb10 : ∀ l, l ≠ V 0 7 0 → (addV V 7 (V 0 7 0) [(9, y0), (10, y1), (11, y2)]) 10 l 0 = V 10 l 0 := fun l hl => by unfold addV; rw [if_neg (by omega), if_neg (fun q => hl q.1)]
  have va11 : (addV V 7 (V 0 7 0) [(9, y0), (10, y1), (11, y2)]) 11 (V 0 7 0) 0 = y2 := by unfold addV; rw [if_neg (by omega), if_pos ⟨rfl, rfl⟩]; rfl
  have vb11 : ∀ l, l ≠ V 0 7 0 → (addV V 7 (V 0 7 0) [(9, y0), (10, y1), (11, y2)]) 11 l 0 = V 11 l 0 := fun l hl => by unfold addV; rw [if_neg (by omega), if_neg (fun q => hl q.1)]
  have hw' : ∀ i, i < 6 → I' 29 1 i = nO (-1) ((addV V 7 (V 0 7 0) [(9, y0), (10, y1), (11, y2)]) 17 i 0) := fun i hi => by rw [ho 29 (by decide) (by decide) (by decide) (by decide) (by decide), vo 17 i 0 (by decide) (by decide) (by decide) (by decide)]; exact hw i hi
  refine ⟨⟨fun k hk => ?_, ?_, ?_, ?_, ?_, ?_, ?_, ?_, fun s hs _ => hw' s hs, ?_, ?_, ?_⟩, hw'⟩
  · by_cases e0 : k = 7
    · subst e0; rw [vz]; exact h16
    · rw [k16 k e0, vs k e0]; exact x0 k hk
  · simp only [vs 1 (by decide), ho 17 (by decide) (by decide) (by decide) (by decide) (by decide), vo 1 _ _ (by decide) (by decide) (by decide) (by decide)]; exact x1
  · simp only [vs 2 (by decide), ho 18 (by decide) (by decide) (by decide) (by decide) (by decide), ho 19 (by decide) (by decide) (by decide) (by decide) (by decide), vo 2 _ _ (by decide) (by decide) (by decide) (by decide), vo 3 _ _ (by decide) (by decide) (by decide) (by decide)]; exact x2
  · simp only [vs 3 (by decide), ho 20 (by decide) (by decide) (by decide) (by decide) (by decide), vo 4 _ _ (by decide) (by decide) (by decide) (by decide)]; exact x3
  · simp only [vs 4 (by decide), ho 21 (by decide) (by decide) (by decide) (by decide) (by decide), ho 22 (by decide) (by decide) (by decide) (by decide) (by decide), vo 5 _ _ (by decide) (by decide) (by decide) (by decide), vo 6 _ _ (by decide) (by decide) (by decide) (by decide)]; exact x4
  · intro l hl
    rw [vz] at hl
    refine ⟨?_, ?_, ?_⟩
    · by_cases e0 : l = V 0 7 0
      · subst e0; rw [va9]; exact h23
      · rw [k23 l e0, vb9 l e0]; exact (x5 l (by omega)).1
    · by_cases e0 : l = V 0 7 0
      · subst e0; rw [va10]; exact h24
      · rw [k24 l e0, vb10 l e0]; exact (x5 l (by omega)).2.1
    · by_cases e0 : l = V 0 7 0
      · subst e0; rw [va11]; exact h25
      · rw [k25 l e0, vb11 l e0]; exact (x5 l (by omega)).2.2
  · simp only [ho 26 (by decide) (by decide) (by decide) (by decide) (by decide), vo 13 _ _ (by decide) (by decide) (by decide) (by decide)]; exact x6
  · simp only [vs 9 (by decide), ho 27 (by decide) (by decide) (by decide) (by decide) (by decide), ho 28 (by decide) (by decide) (by decide) (by decide) (by decide), vo 15 _ _ (by decide) (by decide) (by decide) (by decide), vo 16 _ _ (by decide) (by decide) (by decide) (by decide)]; exact x7
  · simp only [ho 31 (by decide) (by decide) (by decide) (by decide) (by decide), ho 33 (by decide) (by decide) (by decide) (by decide) (by decide), vo 7 _ _ (by decide) (by decide) (by decide) (by decide), vo 8 _ _ (by decide) (by decide) (by decide) (by decide)]; exact x9
  · simp only [ho 35 (by decide) (by decide) (by decide) (by decide) (by decide), vo 12 _ _ (by decide) (by decide) (by decide) (by decide)]; exact x10
  · simp only [ho 37 (by decide) (by decide) (by decide) (by decide) (by decide), vo 13 _ _ (by decide) (by decide) (by decide) (by decide), vo 14 _ _ (by decide) (by decide) (by decide) (by decide)]; exact x11
theorem XB.ask {y0 y1 : Nat} {I' : Nat → Nat → Nat → Int32} (h : XB V 1 I) (hw : ∀ i, i < 6 → I 29 1 i = nO (-1) (V 17 i 0)) (h16 : I' 16 1 9 = nI (V 0 9 0 + 1)) (k16 : ∀ l, l ≠ 9 → I' 16 1 l = I 16 1 l) (h27 : I' 27 1 (V 0 9 0) = nI (y0)) (k27 : ∀ l, l ≠ V 0 9 0 → I' 27 1 l = I 27 1 l) (h28 : I' 28 1 (V 0 9 0) = nI (y1)) (k28 : ∀ l, l ≠ V 0 9 0 → I' 28 1 l = I 28 1 l) (ho : ∀ s, 17 ≤ s → s ≤ 37 → s ≠ 27 → s ≠ 28 → I' s = I s) : XB (addV V 9 (V 0 9 0) [(15, y0), (16, y1)]) 1 I' ∧ ∀ i, i < 6 → I' 29 1 i = nO (-1) ((addV V 9 (V 0 9 0) [(15, y0), (16, y1)]) 17 i 0) := by
  obtain ⟨x0, x1, x2, x3, x4, x5, x6, x7, x8, x9, x10, x11⟩ := h
  have vs : ∀ k, k ≠ 9 → (addV V 9 (V 0 9 0) [(15, y0), (16, y1)]) 0 k 0 = V 0 k 0 := by
    intro k hk
    unfold addV
    rw [if_neg (fun q => hk q.2.1)]
    split
    · rfl
    · rfl
  have vz : (addV V 9 (V 0 9 0) [(15, y0), (16, y1)]) 0 9 0 = V 0 9 0 + 1 := if_pos ⟨rfl, rfl, rfl⟩
  have vo : ∀ k i j, k ≠ 0 → k ≠ 15 → k ≠ 16 → (addV V 9 (V 0 9 0) [(15, y0), (16, y1)]) k i j = V k i j := by
    intro k i j h0 g15 g16
    unfold addV
    rw [if_neg (fun q => h0 q.1)]
    split
    · rw [show List.find? (fun q => q.1 == k) [(15, y0), (16, y1)] = none by simp [Ne.symm g15, Ne.symm g16]]
    · rfl
  have va15 : (addV V 9 (V 0 9 0) [(15, y0), (16, y1)]) 15 (V 0 9 0) 0 = y0 := by unfold addV; rw [if_neg (by omega), if_pos ⟨rfl, rfl⟩]; rfl
  have vb15 : ∀ l, l ≠ V 0 9 0 → (addV V 9 (V 0 9 0) [(15, y0), (16, y1)]) 15 l 0 = V 15 l 0 := fun l hl => by unfold addV; rw [if_neg (by omega), if_neg (fun q => hl q.1)]
  have va16 : (addV V 9 (V 0 9 0) [(15, y0), (16, y1)]) 16 (V 0 9 0) 0 = y1 := by unfold addV; rw [if_neg (by omega), if_pos ⟨rfl, rfl⟩]; rfl
  have vb16 : ∀ l, l ≠ V 0 9 0 → (addV V 9 (V 0 9 0) [(15, y0), (16, y1)]) 16 l 0 = V 16 l 0 := fun l hl => by unfold addV; rw [if_neg (by omega), if_neg (fun q => hl q.1)]
  have hw' : ∀ i, i < 6 → I' 29 1 i = nO (-1) ((addV V 9 (V 0 9 0) [(15, y0), (16, y1)]) 17 i 0) := fun i hi => by rw [ho 29 (by decide) (by decide) (by decide) (by decide), vo 17 i 0 (by decide) (by decide) (by decide)]; exact hw i hi
  refine ⟨⟨fun k hk => ?_, ?_, ?_, ?_, ?_, ?_, ?_, ?_, fun s hs _ => hw' s hs, ?_, ?_, ?_⟩, hw'⟩
  · by_cases e0 : k = 9
    · subst e0; rw [vz]; exact h16
    · rw [k16 k e0, vs k e0]; exact x0 k hk
  · simp only [vs 1 (by decide), ho 17 (by decide) (by decide) (by decide) (by decide), vo 1 _ _ (by decide) (by decide) (by decide)]; exact x1
  · simp only [vs 2 (by decide), ho 18 (by decide) (by decide) (by decide) (by decide), ho 19 (by decide) (by decide) (by decide) (by decide), vo 2 _ _ (by decide) (by decide) (by decide), vo 3 _ _ (by decide) (by decide) (by decide)]; exact x2
  · simp only [vs 3 (by decide), ho 20 (by decide) (by decide) (by decide) (by decide), vo 4 _ _ (by decide) (by decide) (by decide)]; exact x3
  · simp only [vs 4 (by decide), ho 21 (by decide) (by decide) (by decide) (by decide), ho 22 (by decide) (by decide) (by decide) (by decide), vo 5 _ _ (by decide) (by decide) (by decide), vo 6 _ _ (by decide) (by decide) (by decide)]; exact x4
  · simp only [vs 7 (by decide), ho 23 (by decide) (by decide) (by decide) (by decide), ho 24 (by decide) (by decide) (by decide) (by decide), ho 25 (by decide) (by decide) (by decide) (by decide), vo 9 _ _ (by decide) (by decide) (by decide), vo 10 _ _ (by decide) (by decide) (by decide), vo 11 _ _ (by decide) (by decide) (by decide)]; exact x5
  · simp only [ho 26 (by decide) (by decide) (by decide) (by decide), vo 13 _ _ (by decide) (by decide) (by decide)]; exact x6
  · intro l hl
    rw [vz] at hl
    refine ⟨?_, ?_⟩
    · by_cases e0 : l = V 0 9 0
      · subst e0; rw [va15]; exact h27
      · rw [k27 l e0, vb15 l e0]; exact (x7 l (by omega)).1
    · by_cases e0 : l = V 0 9 0
      · subst e0; rw [va16]; exact h28
      · rw [k28 l e0, vb16 l e0]; exact (x7 l (by omega)).2
  · simp only [ho 31 (by decide) (by decide) (by decide) (by decide), ho 33 (by decide) (by decide) (by decide) (by decide), vo 7 _ _ (by decide) (by decide) (by decide), vo 8 _ _ (by decide) (by decide) (by decide)]; exact x9
  · simp only [ho 35 (by decide) (by decide) (by decide) (by decide), vo 12 _ _ (by decide) (by decide) (by decide)]; exact x10
  · simp only [ho 37 (by decide) (by decide) (by decide) (by decide), vo 13 _ _ (by decide) (by decide) (by decide), vo 14 _ _ (by decide) (by decide) (by decide)]; exact x11
end Tel5
