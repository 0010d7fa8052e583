section M36
variable {G : xG} {ad : Nat → Nat → Nat} {nb : Nat} {b r : Option Nat} {L : Nat → Nat → Nat → Int64} {V : sV} {I : Nat → Nat → Nat → Int32} {d : Nat}
variable {bi : Nat} {I' : Nat → Nat → Nat → Int32}
theorem YB.land {x : Nat} (h64 : I' 64 bi (V 0 1 0) = nI (x)) (k64 : ∀ l, l ≠ V 0 1 0 → I' 64 bi l = I 64 bi l) (h : YB V bi I) (hz : I' 12 bi 1 = nI (V 0 1 0 + 1)) (ho12 : ∀ k, k ≠ 1 → k ≠ 12 → I' 12 bi k = I 12 bi k) (ho : ∀ s, 64 ≤ s → s ≤ 80 → s ≠ 64 → I' s bi = I s bi) : YB (addV V 1 (V 0 1 0) [(1, x)]) bi I' := by
  generalize hV' : addV V 1 (V 0 1 0) [(1, x)] = V'
  have vs : ∀ k, k ≠ 1 → V' 0 k 0 = V 0 k 0 := fun k hk => by rw [← hV']; exact addV_s hk rfl
  have vz : V' 0 1 0 = V 0 1 0 + 1 := by rw [← hV']; exact addV_z
  have vo : ∀ k i j, k ≠ 0 → k ≠ 1 → V' k i j = V k i j := fun k i j h0 g1 => by rw [← hV']; exact addV_o h0 (by simp [Ne.symm g1])
  have va1 : V' 1 (V 0 1 0) 0 = x := by rw [← hV']; exact addV_a (q := (1, x)) (by decide) rfl
  have vb1 : ∀ l, l ≠ V 0 1 0 → V' 1 l 0 = V 1 l 0 := fun l hl => by rw [← hV']; exact addV_b (by decide) hl
  refine ⟨⟨fun k hk => ?_, ?_, ?_, ?_, ?_⟩, ?_, ?_, ?_, ?_, ?_, ?_, ?_, ?_, ?_, ?_, ?_⟩
  · by_cases e0 : k = 1
    · rw [e0, vz]; exact hz
    · rw [ho12 k e0 (by omega), vs k (by omega)]; exact h.1.1 k hk
  · rw [ho12 8 (by decide) (by decide), vs 11 (by decide)]; exact h.1.2.1
  · rw [ho12 9 (by decide) (by decide), vs 8 (by decide)]; exact h.1.2.2.1
  · rw [ho12 10 (by decide) (by decide), vs 9 (by decide)]; exact h.1.2.2.2.1
  · rw [ho12 11 (by decide) (by decide), vs 10 (by decide)]; exact h.1.2.2.2.2
  · intro l hl
    rw [vz] at hl
    by_cases e0 : l = V 0 1 0
    · exact (by rw [e0, h64, va1])
    · exact (by rw [k64 l e0, vb1 l e0]; exact (h.2.1 l (by omega)))
  · simp only [vs 2 (by decide), ho 65 (by decide) (by decide) (by decide), vo 2 _ _ (by decide) (by decide), ho 66 (by decide) (by decide) (by decide), vo 3 _ _ (by decide) (by decide)]; exact h.2.2.1
  · simp only [vs 3 (by decide), ho 67 (by decide) (by decide) (by decide), vo 4 _ _ (by decide) (by decide)]; exact h.2.2.2.1
  · simp only [vs 4 (by decide), ho 68 (by decide) (by decide) (by decide), vo 5 _ _ (by decide) (by decide), ho 69 (by decide) (by decide) (by decide), vo 6 _ _ (by decide) (by decide)]; exact h.2.2.2.2.1
  · simp only [ho 70 (by decide) (by decide) (by decide), vo 7 _ _ (by decide) (by decide), ho 71 (by decide) (by decide) (by decide), vo 8 _ _ (by decide) (by decide)]; exact h.2.2.2.2.2.1
  · simp only [vs 7 (by decide), ho 72 (by decide) (by decide) (by decide), vo 9 _ _ (by decide) (by decide), ho 73 (by decide) (by decide) (by decide), vo 10 _ _ (by decide) (by decide), ho 74 (by decide) (by decide) (by decide), vo 11 _ _ (by decide) (by decide)]; exact h.2.2.2.2.2.2.1
  · simp only [ho 75 (by decide) (by decide) (by decide), vo 12 _ _ (by decide) (by decide)]; exact h.2.2.2.2.2.2.2.1
  · simp only [ho 76 (by decide) (by decide) (by decide), vo 13 _ _ (by decide) (by decide)]; exact h.2.2.2.2.2.2.2.2.1
  · simp only [ho 77 (by decide) (by decide) (by decide), vo 14 _ _ (by decide) (by decide), vo 13 _ _ (by decide) (by decide)]; exact h.2.2.2.2.2.2.2.2.2.1
  · simp only [vs 9 (by decide), ho 78 (by decide) (by decide) (by decide), vo 15 _ _ (by decide) (by decide), ho 79 (by decide) (by decide) (by decide), vo 16 _ _ (by decide) (by decide)]; exact h.2.2.2.2.2.2.2.2.2.2.1
  · simp only [vs 0 (by decide), ho 80 (by decide) (by decide) (by decide), vo 17 _ _ (by decide) (by decide)]; exact h.2.2.2.2.2.2.2.2.2.2.2
theorem YB.smell {x y : Nat} (h65 : I' 65 bi (V 0 2 0) = nI (x)) (k65 : ∀ l, l ≠ V 0 2 0 → I' 65 bi l = I 65 bi l) (h66 : I' 66 bi (V 0 2 0) = nI (y)) (k66 : ∀ l, l ≠ V 0 2 0 → I' 66 bi l = I 66 bi l) (h : YB V bi I) (hz : I' 12 bi 2 = nI (V 0 2 0 + 1)) (ho12 : ∀ k, k ≠ 2 → k ≠ 12 → I' 12 bi k = I 12 bi k) (ho : ∀ s, 64 ≤ s → s ≤ 80 → s ≠ 65 → s ≠ 66 → I' s bi = I s bi) : YB (addV V 2 (V 0 2 0) [(2, x), (3, y)]) bi I' := by
  generalize hV' : addV V 2 (V 0 2 0) [(2, x), (3, y)] = V'
  have vs : ∀ k, k ≠ 2 → V' 0 k 0 = V 0 k 0 := fun k hk => by rw [← hV']; exact addV_s hk rfl
  have vz : V' 0 2 0 = V 0 2 0 + 1 := by rw [← hV']; exact addV_z
  have vo : ∀ k i j, k ≠ 0 → k ≠ 2 → k ≠ 3 → V' k i j = V k i j := fun k i j h0 g2 g3 => by rw [← hV']; exact addV_o h0 (by simp [Ne.symm g2, Ne.symm g3])
  have va2 : V' 2 (V 0 2 0) 0 = x := by rw [← hV']; exact addV_a (q := (2, x)) (by decide) rfl
  have vb2 : ∀ l, l ≠ V 0 2 0 → V' 2 l 0 = V 2 l 0 := fun l hl => by rw [← hV']; exact addV_b (by decide) hl
  have va3 : V' 3 (V 0 2 0) 0 = y := by rw [← hV']; exact addV_a (q := (3, y)) (by decide) rfl
  have vb3 : ∀ l, l ≠ V 0 2 0 → V' 3 l 0 = V 3 l 0 := fun l hl => by rw [← hV']; exact addV_b (by decide) hl
  refine ⟨⟨fun k hk => ?_, ?_, ?_, ?_, ?_⟩, ?_, ?_, ?_, ?_, ?_, ?_, ?_, ?_, ?_, ?_, ?_⟩
  · by_cases e0 : k = 2
    · rw [e0, vz]; exact hz
    · rw [ho12 k e0 (by omega), vs k (by omega)]; exact h.1.1 k hk
  · rw [ho12 8 (by decide) (by decide), vs 11 (by decide)]; exact h.1.2.1
  · rw [ho12 9 (by decide) (by decide), vs 8 (by decide)]; exact h.1.2.2.1
  · rw [ho12 10 (by decide) (by decide), vs 9 (by decide)]; exact h.1.2.2.2.1
  · rw [ho12 11 (by decide) (by decide), vs 10 (by decide)]; exact h.1.2.2.2.2
  · simp only [vs 1 (by decide), ho 64 (by decide) (by decide) (by decide) (by decide), vo 1 _ _ (by decide) (by decide) (by decide)]; exact h.2.1
  · intro l hl
    rw [vz] at hl
    by_cases e0 : l = V 0 2 0
    · exact ⟨(by rw [e0, h65, va2]), (by rw [e0, h66, va3])⟩
    · exact ⟨(by rw [k65 l e0, vb2 l e0]; exact (h.2.2.1 l (by omega)).1), (by rw [k66 l e0, vb3 l e0]; exact (h.2.2.1 l (by omega)).2)⟩
  · simp only [vs 3 (by decide), ho 67 (by decide) (by decide) (by decide) (by decide), vo 4 _ _ (by decide) (by decide) (by decide)]; exact h.2.2.2.1
  · simp only [vs 4 (by decide), ho 68 (by decide) (by decide) (by decide) (by decide), vo 5 _ _ (by decide) (by decide) (by decide), ho 69 (by decide) (by decide) (by decide) (by decide), vo 6 _ _ (by decide) (by decide) (by decide)]; exact h.2.2.2.2.1
  · simp only [ho 70 (by decide) (by decide) (by decide) (by decide), vo 7 _ _ (by decide) (by decide) (by decide), ho 71 (by decide) (by decide) (by decide) (by decide), vo 8 _ _ (by decide) (by decide) (by decide)]; exact h.2.2.2.2.2.1
  · simp only [vs 7 (by decide), ho 72 (by decide) (by decide) (by decide) (by decide), vo 9 _ _ (by decide) (by decide) (by decide), ho 73 (by decide) (by decide) (by decide) (by decide), vo 10 _ _ (by decide) (by decide) (by decide), ho 74 (by decide) (by decide) (by decide) (by decide), vo 11 _ _ (by decide) (by decide) (by decide)]; exact h.2.2.2.2.2.2.1
  · simp only [ho 75 (by decide) (by decide) (by decide) (by decide), vo 12 _ _ (by decide) (by decide) (by decide)]; exact h.2.2.2.2.2.2.2.1
  · simp only [ho 76 (by decide) (by decide) (by decide) (by decide), vo 13 _ _ (by decide) (by decide) (by decide)]; exact h.2.2.2.2.2.2.2.2.1
  · simp only [ho 77 (by decide) (by decide) (by decide) (by decide), vo 14 _ _ (by decide) (by decide) (by decide), vo 13 _ _ (by decide) (by decide) (by decide)]; exact h.2.2.2.2.2.2.2.2.2.1
  · simp only [vs 9 (by decide), ho 78 (by decide) (by decide) (by decide) (by decide), vo 15 _ _ (by decide) (by decide) (by decide), ho 79 (by decide) (by decide) (by decide) (by decide), vo 16 _ _ (by decide) (by decide) (by decide)]; exact h.2.2.2.2.2.2.2.2.2.2.1
  · simp only [vs 0 (by decide), ho 80 (by decide) (by decide) (by decide) (by decide), vo 17 _ _ (by decide) (by decide) (by decide)]; exact h.2.2.2.2.2.2.2.2.2.2.2
theorem YB.nose {x : Nat} (h67 : I' 67 bi (V 0 3 0) = nI (x)) (k67 : ∀ l, l ≠ V 0 3 0 → I' 67 bi l = I 67 bi l) (h : YB V bi I) (hz : I' 12 bi 3 = nI (V 0 3 0 + 1)) (ho12 : ∀ k, k ≠ 3 → k ≠ 12 → I' 12 bi k = I 12 bi k) (ho : ∀ s, 64 ≤ s → s ≤ 80 → s ≠ 67 → I' s bi = I s bi) : YB (addV V 3 (V 0 3 0) [(4, x)]) bi I' := by
  generalize hV' : addV V 3 (V 0 3 0) [(4, x)] = V'
  have vs : ∀ k, k ≠ 3 → V' 0 k 0 = V 0 k 0 := fun k hk => by rw [← hV']; exact addV_s hk rfl
  have vz : V' 0 3 0 = V 0 3 0 + 1 := by rw [← hV']; exact addV_z
  have vo : ∀ k i j, k ≠ 0 → k ≠ 4 → V' k i j = V k i j := fun k i j h0 g4 => by rw [← hV']; exact addV_o h0 (by simp [Ne.symm g4])
  have va4 : V' 4 (V 0 3 0) 0 = x := by rw [← hV']; exact addV_a (q := (4, x)) (by decide) rfl
  have vb4 : ∀ l, l ≠ V 0 3 0 → V' 4 l 0 = V 4 l 0 := fun l hl => by rw [← hV']; exact addV_b (by decide) hl
  refine ⟨⟨fun k hk => ?_, ?_, ?_, ?_, ?_⟩, ?_, ?_, ?_, ?_, ?_, ?_, ?_, ?_, ?_, ?_, ?_⟩
  · by_cases e0 : k = 3
    · rw [e0, vz]; exact hz
    · rw [ho12 k e0 (by omega), vs k (by omega)]; exact h.1.1 k hk
  · rw [ho12 8 (by decide) (by decide), vs 11 (by decide)]; exact h.1.2.1
  · rw [ho12 9 (by decide) (by decide), vs 8 (by decide)]; exact h.1.2.2.1
  · rw [ho12 10 (by decide) (by decide), vs 9 (by decide)]; exact h.1.2.2.2.1
  · rw [ho12 11 (by decide) (by decide), vs 10 (by decide)]; exact h.1.2.2.2.2
  · simp only [vs 1 (by decide), ho 64 (by decide) (by decide) (by decide), vo 1 _ _ (by decide) (by decide)]; exact h.2.1
  · simp only [vs 2 (by decide), ho 65 (by decide) (by decide) (by decide), vo 2 _ _ (by decide) (by decide), ho 66 (by decide) (by decide) (by decide), vo 3 _ _ (by decide) (by decide)]; exact h.2.2.1
  · intro l hl
    rw [vz] at hl
    by_cases e0 : l = V 0 3 0
    · exact (by rw [e0, h67, va4])
    · exact (by rw [k67 l e0, vb4 l e0]; exact (h.2.2.2.1 l (by omega)))
  · simp only [vs 4 (by decide), ho 68 (by decide) (by decide) (by decide), vo 5 _ _ (by decide) (by decide), ho 69 (by decide) (by decide) (by decide), vo 6 _ _ (by decide) (by decide)]; exact h.2.2.2.2.1
  · simp only [ho 70 (by decide) (by decide) (by decide), vo 7 _ _ (by decide) (by decide), ho 71 (by decide) (by decide) (by decide), vo 8 _ _ (by decide) (by decide)]; exact h.2.2.2.2.2.1
  · simp only [vs 7 (by decide), ho 72 (by decide) (by decide) (by decide), vo 9 _ _ (by decide) (by decide), ho 73 (by decide) (by decide) (by decide), vo 10 _ _ (by decide) (by decide), ho 74 (by decide) (by decide) (by decide), vo 11 _ _ (by decide) (by decide)]; exact h.2.2.2.2.2.2.1
  · simp only [ho 75 (by decide) (by decide) (by decide), vo 12 _ _ (by decide) (by decide)]; exact h.2.2.2.2.2.2.2.1
  · simp only [ho 76 (by decide) (by decide) (by decide), vo 13 _ _ (by decide) (by decide)]; exact h.2.2.2.2.2.2.2.2.1
  · simp only [ho 77 (by decide) (by decide) (by decide), vo 14 _ _ (by decide) (by decide), vo 13 _ _ (by decide) (by decide)]; exact h.2.2.2.2.2.2.2.2.2.1
  · simp only [vs 9 (by decide), ho 78 (by decide) (by decide) (by decide), vo 15 _ _ (by decide) (by decide), ho 79 (by decide) (by decide) (by decide), vo 16 _ _ (by decide) (by decide)]; exact h.2.2.2.2.2.2.2.2.2.2.1
  · simp only [vs 0 (by decide), ho 80 (by decide) (by decide) (by decide), vo 17 _ _ (by decide) (by decide)]; exact h.2.2.2.2.2.2.2.2.2.2.2
theorem YB.place {x y : Nat} (h68 : I' 68 bi (V 0 4 0) = nI (x)) (k68 : ∀ l, l ≠ V 0 4 0 → I' 68 bi l = I 68 bi l) (h69 : I' 69 bi (V 0 4 0) = nO (-2) (y)) (k69 : ∀ l, l ≠ V 0 4 0 → I' 69 bi l = I 69 bi l) (h : YB V bi I) (hz : I' 12 bi 4 = nI (V 0 4 0 + 1)) (ho12 : ∀ k, k ≠ 4 → k ≠ 12 → I' 12 bi k = I 12 bi k) (ho : ∀ s, 64 ≤ s → s ≤ 80 → s ≠ 68 → s ≠ 69 → I' s bi = I s bi) : YB (addV V 4 (V 0 4 0) [(5, x), (6, y)]) bi I' := by
  generalize hV' : addV V 4 (V 0 4 0) [(5, x), (6, y)] = V'
  have vs : ∀ k, k ≠ 4 → V' 0 k 0 = V 0 k 0 := fun k hk => by rw [← hV']; exact addV_s hk rfl
  have vz : V' 0 4 0 = V 0 4 0 + 1 := by rw [← hV']; exact addV_z
  have vo : ∀ k i j, k ≠ 0 → k ≠ 5 → k ≠ 6 → V' k i j = V k i j := fun k i j h0 g5 g6 => by rw [← hV']; exact addV_o h0 (by simp [Ne.symm g5, Ne.symm g6])
  have va5 : V' 5 (V 0 4 0) 0 = x := by rw [← hV']; exact addV_a (q := (5, x)) (by decide) rfl
  have vb5 : ∀ l, l ≠ V 0 4 0 → V' 5 l 0 = V 5 l 0 := fun l hl => by rw [← hV']; exact addV_b (by decide) hl
  have va6 : V' 6 (V 0 4 0) 0 = y := by rw [← hV']; exact addV_a (q := (6, y)) (by decide) rfl
  have vb6 : ∀ l, l ≠ V 0 4 0 → V' 6 l 0 = V 6 l 0 := fun l hl => by rw [← hV']; exact addV_b (by decide) hl
  refine ⟨⟨fun k hk => ?_, ?_, ?_, ?_, ?_⟩, ?_, ?_, ?_, ?_, ?_, ?_, ?_, ?_, ?_, ?_, ?_⟩
  · by_cases e0 : k = 4
    · rw [e0, vz]; exact hz
    · rw [ho12 k e0 (by omega), vs k (by omega)]; exact h.1.1 k hk
  · rw [ho12 8 (by decide) (by decide), vs 11 (by decide)]; exact h.1.2.1
  · rw [ho12 9 (by decide) (by decide), vs 8 (by decide)]; exact h.1.2.2.1
  · rw [ho12 10 (by decide) (by decide), vs 9 (by decide)]; exact h.1.2.2.2.1
  · rw [ho12 11 (by decide) (by decide), vs 10 (by decide)]; exact h.1.2.2.2.2
  · simp only [vs 1 (by decide), ho 64 (by decide) (by decide) (by decide) (by decide), vo 1 _ _ (by decide) (by decide) (by decide)]; exact h.2.1
  · simp only [vs 2 (by decide), ho 65 (by decide) (by decide) (by decide) (by decide), vo 2 _ _ (by decide) (by decide) (by decide), ho 66 (by decide) (by decide) (by decide) (by decide), vo 3 _ _ (by decide) (by decide) (by decide)]; exact h.2.2.1
  · simp only [vs 3 (by decide), ho 67 (by decide) (by decide) (by decide) (by decide), vo 4 _ _ (by decide) (by decide) (by decide)]; exact h.2.2.2.1
  · intro l hl
    rw [vz] at hl
    by_cases e0 : l = V 0 4 0
    · exact ⟨(by rw [e0, h68, va5]), (by rw [e0, h69, va6])⟩
    · exact ⟨(by rw [k68 l e0, vb5 l e0]; exact (h.2.2.2.2.1 l (by omega)).1), (by rw [k69 l e0, vb6 l e0]; exact (h.2.2.2.2.1 l (by omega)).2)⟩
  · simp only [ho 70 (by decide) (by decide) (by decide) (by decide), vo 7 _ _ (by decide) (by decide) (by decide), ho 71 (by decide) (by decide) (by decide) (by decide), vo 8 _ _ (by decide) (by decide) (by decide)]; exact h.2.2.2.2.2.1
  · simp only [vs 7 (by decide), ho 72 (by decide) (by decide) (by decide) (by decide), vo 9 _ _ (by decide) (by decide) (by decide), ho 73 (by decide) (by decide) (by decide) (by decide), vo 10 _ _ (by decide) (by decide) (by decide), ho 74 (by decide) (by decide) (by decide) (by decide), vo 11 _ _ (by decide) (by decide) (by decide)]; exact h.2.2.2.2.2.2.1
  · simp only [ho 75 (by decide) (by decide) (by decide) (by decide), vo 12 _ _ (by decide) (by decide) (by decide)]; exact h.2.2.2.2.2.2.2.1
  · simp only [ho 76 (by decide) (by decide) (by decide) (by decide), vo 13 _ _ (by decide) (by decide) (by decide)]; exact h.2.2.2.2.2.2.2.2.1
  · simp only [ho 77 (by decide) (by decide) (by decide) (by decide), vo 14 _ _ (by decide) (by decide) (by decide), vo 13 _ _ (by decide) (by decide) (by decide)]; exact h.2.2.2.2.2.2.2.2.2.1
  · simp only [vs 9 (by decide), ho 78 (by decide) (by decide) (by decide) (by decide), vo 15 _ _ (by decide) (by decide) (by decide), ho 79 (by decide) (by decide) (by decide) (by decide), vo 16 _ _ (by decide) (by decide) (by decide)]; exact h.2.2.2.2.2.2.2.2.2.2.1
  · simp only [vs 0 (by decide), ho 80 (by decide) (by decide) (by decide) (by decide), vo 17 _ _ (by decide) (by decide) (by decide)]; exact h.2.2.2.2.2.2.2.2.2.2.2
theorem YB.trav {x y z : Nat} (h72 : I' 72 bi (V 0 7 0) = nI (x)) (k72 : ∀ l, l ≠ V 0 7 0 → I' 72 bi l = I 72 bi l) (h73 : I' 73 bi (V 0 7 0) = nI (y)) (k73 : ∀ l, l ≠ V 0 7 0 → I' 73 bi l = I 73 bi l) (h74 : I' 74 bi (V 0 7 0) = nI (z)) (k74 : ∀ l, l ≠ V 0 7 0 → I' 74 bi l = I 74 bi l) (h : YB V bi I) (hz : I' 12 bi 7 = nI (V 0 7 0 + 1)) (ho12 : ∀ k, k ≠ 7 → k ≠ 12 → I' 12 bi k = I 12 bi k) (ho : ∀ s, 64 ≤ s → s ≤ 80 → s ≠ 72 → s ≠ 73 → s ≠ 74 → I' s bi = I s bi) : YB (addV V 7 (V 0 7 0) [(9, x), (10, y), (11, z)]) bi I' := by
  generalize hV' : addV V 7 (V 0 7 0) [(9, x), (10, y), (11, z)] = V'
  have vs : ∀ k, k ≠ 7 → V' 0 k 0 = V 0 k 0 := fun k hk => by rw [← hV']; exact addV_s hk rfl
  have vz : V' 0 7 0 = V 0 7 0 + 1 := by rw [← hV']; exact addV_z
  have vo : ∀ k i j, k ≠ 0 → k ≠ 9 → k ≠ 10 → k ≠ 11 → V' k i j = V k i j := fun k i j h0 g9 g10 g11 => by rw [← hV']; exact addV_o h0 (by simp [Ne.symm g9, Ne.symm g10, Ne.symm g11])
  have va9 : V' 9 (V 0 7 0) 0 = x := by rw [← hV']; exact addV_a (q := (9, x)) (by decide) rfl
  have vb9 : ∀ l, l ≠ V 0 7 0 → V' 9 l 0 = V 9 l 0 := fun l hl => by rw [← hV']; exact addV_b (by decide) hl
  have va10 : V' 10 (V 0 7 0) 0 = y := by rw [← hV']; exact addV_a (q := (10, y)) (by decide) rfl
  have vb10 : ∀ l, l ≠ V 0 7 0 → V' 10 l 0 = V 10 l 0 := fun l hl => by rw [← hV']; exact addV_b (by decide) hl
  have va11 : V' 11 (V 0 7 0) 0 = z := by rw [← hV']; exact addV_a (q := (11, z)) (by decide) rfl
  have vb11 : ∀ l, l ≠ V 0 7 0 → V' 11 l 0 = V 11 l 0 := fun l hl => by rw [← hV']; exact addV_b (by decide) hl
  refine ⟨⟨fun k hk => ?_, ?_, ?_, ?_, ?_⟩, ?_, ?_, ?_, ?_, ?_, ?_, ?_, ?_, ?_, ?_, ?_⟩
  · by_cases e0 : k = 7
    · rw [e0, vz]; exact hz
    · rw [ho12 k e0 (by omega), vs k (by omega)]; exact h.1.1 k hk
  · rw [ho12 8 (by decide) (by decide), vs 11 (by decide)]; exact h.1.2.1
  · rw [ho12 9 (by decide) (by decide), vs 8 (by decide)]; exact h.1.2.2.1
  · rw [ho12 10 (by decide) (by decide), vs 9 (by decide)]; exact h.1.2.2.2.1
  · rw [ho12 11 (by decide) (by decide), vs 10 (by decide)]; exact h.1.2.2.2.2
  · simp only [vs 1 (by decide), ho 64 (by decide) (by decide) (by decide) (by decide) (by decide), vo 1 _ _ (by decide) (by decide) (by decide) (by decide)]; exact h.2.1
  · simp only [vs 2 (by decide), ho 65 (by decide) (by decide) (by decide) (by decide) (by decide), vo 2 _ _ (by decide) (by decide) (by decide) (by decide), ho 66 (by decide) (by decide) (by decide) (by decide) (by decide), vo 3 _ _ (by decide) (by decide) (by decide) (by decide)]; exact h.2.2.1
  · simp only [vs 3 (by decide), ho 67 (by decide) (by decide) (by decide) (by decide) (by decide), vo 4 _ _ (by decide) (by decide) (by decide) (by decide)]; exact h.2.2.2.1
  · simp only [vs 4 (by decide), ho 68 (by decide) (by decide) (by decide) (by decide) (by decide), vo 5 _ _ (by decide) (by decide) (by decide) (by decide), ho 69 (by decide) (by decide) (by decide) (by decide) (by decide), vo 6 _ _ (by decide) (by decide) (by decide) (by decide)]; exact h.2.2.2.2.1
  · simp only [ho 70 (by decide) (by decide) (by decide) (by decide) (by decide), vo 7 _ _ (by decide) (by decide) (by decide) (by decide), ho 71 (by decide) (by decide) (by decide) (by decide) (by decide), vo 8 _ _ (by decide) (by decide) (by decide) (by decide)]; exact h.2.2.2.2.2.1
  · intro l hl
    rw [vz] at hl
    by_cases e0 : l = V 0 7 0
    · exact ⟨(by rw [e0, h72, va9]), (by rw [e0, h73, va10]), (by rw [e0, h74, va11])⟩
    · exact ⟨(by rw [k72 l e0, vb9 l e0]; exact (h.2.2.2.2.2.2.1 l (by omega)).1), (by rw [k73 l e0, vb10 l e0]; exact (h.2.2.2.2.2.2.1 l (by omega)).2.1), (by rw [k74 l e0, vb11 l e0]; exact (h.2.2.2.2.2.2.1 l (by omega)).2.2)⟩
  · simp only [ho 75 (by decide) (by decide) (by decide) (by decide) (by decide), vo 12 _ _ (by decide) (by decide) (by decide) (by decide)]; exact h.2.2.2.2.2.2.2.1
  · simp only [ho 76 (by decide) (by decide) (by decide) (by decide) (by decide), vo 13 _ _ (by decide) (by decide) (by decide) (by decide)]; exact h.2.2.2.2.2.2.2.2.1
  · simp only [ho 77 (by decide) (by decide) (by decide) (by decide) (by decide), vo 14 _ _ (by decide) (by decide) (by decide) (by decide), vo 13 _ _ (by decide) (by decide) (by decide) (by decide)]; exact h.2.2.2.2.2.2.2.2.2.1
  · simp only [vs 9 (by decide), ho 78 (by decide) (by decide) (by decide) (by decide) (by decide), vo 15 _ _ (by decide) (by decide) (by decide) (by decide), ho 79 (by decide) (by decide) (by decide) (by decide) (by decide), vo 16 _ _ (by decide) (by decide) (by decide) (by decide)]; exact h.2.2.2.2.2.2.2.2.2.2.1
  · simp only [vs 0 (by decide), ho 80 (by decide) (by decide) (by decide) (by decide) (by decide), vo 17 _ _ (by decide) (by decide) (by decide) (by decide)]; exact h.2.2.2.2.2.2.2.2.2.2.2
theorem YB.ask {x y : Nat} (h78 : I' 78 bi (V 0 9 0) = nI (x)) (k78 : ∀ l, l ≠ V 0 9 0 → I' 78 bi l = I 78 bi l) (h79 : I' 79 bi (V 0 9 0) = nI (y)) (k79 : ∀ l, l ≠ V 0 9 0 → I' 79 bi l = I 79 bi l) (h : YB V bi I) (hz : I' 12 bi 10 = nI (V 0 9 0 + 1)) (ho12 : ∀ k, k ≠ 10 → k ≠ 12 → I' 12 bi k = I 12 bi k) (ho : ∀ s, 64 ≤ s → s ≤ 80 → s ≠ 78 → s ≠ 79 → I' s bi = I s bi) : YB (addV V 9 (V 0 9 0) [(15, x), (16, y)]) bi I' := by
  generalize hV' : addV V 9 (V 0 9 0) [(15, x), (16, y)] = V'
  have vs : ∀ k, k ≠ 9 → V' 0 k 0 = V 0 k 0 := fun k hk => by rw [← hV']; exact addV_s hk rfl
  have vz : V' 0 9 0 = V 0 9 0 + 1 := by rw [← hV']; exact addV_z
  have vo : ∀ k i j, k ≠ 0 → k ≠ 15 → k ≠ 16 → V' k i j = V k i j := fun k i j h0 g15 g16 => by rw [← hV']; exact addV_o h0 (by simp [Ne.symm g15, Ne.symm g16])
  have va15 : V' 15 (V 0 9 0) 0 = x := by rw [← hV']; exact addV_a (q := (15, x)) (by decide) rfl
  have vb15 : ∀ l, l ≠ V 0 9 0 → V' 15 l 0 = V 15 l 0 := fun l hl => by rw [← hV']; exact addV_b (by decide) hl
  have va16 : V' 16 (V 0 9 0) 0 = y := by rw [← hV']; exact addV_a (q := (16, y)) (by decide) rfl
  have vb16 : ∀ l, l ≠ V 0 9 0 → V' 16 l 0 = V 16 l 0 := fun l hl => by rw [← hV']; exact addV_b (by decide) hl
  refine ⟨⟨fun k hk => ?_, ?_, ?_, ?_, ?_⟩, ?_, ?_, ?_, ?_, ?_, ?_, ?_, ?_, ?_, ?_, ?_⟩
  · rw [ho12 k (by omega) (by omega), vs k (by omega)]; exact h.1.1 k hk
  · rw [ho12 8 (by decide) (by decide), vs 11 (by decide)]; exact h.1.2.1
  · rw [ho12 9 (by decide) (by decide), vs 8 (by decide)]; exact h.1.2.2.1
  · rw [vz]; exact hz
  · rw [ho12 11 (by decide) (by decide), vs 10 (by decide)]; exact h.1.2.2.2.2
  · simp only [vs 1 (by decide), ho 64 (by decide) (by decide) (by decide) (by decide), vo 1 _ _ (by decide) (by decide) (by decide)]; exact h.2.1
  · simp only [vs 2 (by decide), ho 65 (by decide) (by decide) (by decide) (by decide), vo 2 _ _ (by decide) (by decide) (by decide), ho 66 (by decide) (by decide) (by decide) (by decide), vo 3 _ _ (by decide) (by decide) (by decide)]; exact h.2.2.1
  · simp only [vs 3 (by decide), ho 67 (by decide) (by decide) (by decide) (by decide), vo 4 _ _ (by decide) (by decide) (by decide)]; exact h.2.2.2.1
  · simp only [vs 4 (by decide), ho 68 (by decide) (by decide) (by decide) (by decide), vo 5 _ _ (by decide) (by decide) (by decide), ho 69 (by decide) (by decide) (by decide) (by decide), vo 6 _ _ (by decide) (by decide) (by decide)]; exact h.2.2.2.2.1
  · simp only [ho 70 (by decide) (by decide) (by decide) (by decide), vo 7 _ _ (by decide) (by decide) (by decide), ho 71 (by decide) (by decide) (by decide) (by decide), vo 8 _ _ (by decide) (by decide) (by decide)]; exact h.2.2.2.2.2.1
  · simp only [vs 7 (by decide), ho 72 (by decide) (by decide) (by decide) (by decide), vo 9 _ _ (by decide) (by decide) (by decide), ho 73 (by decide) (by decide) (by decide) (by decide), vo 10 _ _ (by decide) (by decide) (by decide), ho 74 (by decide) (by decide) (by decide) (by decide), vo 11 _ _ (by decide) (by decide) (by decide)]; exact h.2.2.2.2.2.2.1
  · simp only [ho 75 (by decide) (by decide) (by decide) (by decide), vo 12 _ _ (by decide) (by decide) (by decide)]; exact h.2.2.2.2.2.2.2.1
  · simp only [ho 76 (by decide) (by decide) (by decide) (by decide), vo 13 _ _ (by decide) (by decide) (by decide)]; exact h.2.2.2.2.2.2.2.2.1
  · simp only [ho 77 (by decide) (by decide) (by decide) (by decide), vo 14 _ _ (by decide) (by decide) (by decide), vo 13 _ _ (by decide) (by decide) (by decide)]; exact h.2.2.2.2.2.2.2.2.2.1
  · intro l hl
    rw [vz] at hl
    by_cases e0 : l = V 0 9 0
    · exact ⟨(by rw [e0, h78, va15]), (by rw [e0, h79, va16])⟩
    · exact ⟨(by rw [k78 l e0, vb15 l e0]; exact (h.2.2.2.2.2.2.2.2.2.2.1 l (by omega)).1), (by rw [k79 l e0, vb16 l e0]; exact (h.2.2.2.2.2.2.2.2.2.2.1 l (by omega)).2)⟩
  · simp only [vs 0 (by decide), ho 80 (by decide) (by decide) (by decide) (by decide), vo 17 _ _ (by decide) (by decide) (by decide)]; exact h.2.2.2.2.2.2.2.2.2.2.2
theorem YB.leaves {x y z : Nat} (hs : I' 71 bi (6 * x + y) = nI z) (ks : ∀ l, l ≠ 6 * x + y → I' 71 bi l = I 71 bi l) (hy : y < 6) (h : YB V bi I) (hz : I' 12 bi 6 = nI (V 0 6 0 + 1)) (ho12 : ∀ k, k ≠ 6 → k ≠ 12 → I' 12 bi k = I 12 bi k) (ho : ∀ s, 64 ≤ s → s ≤ 80 → s ≠ 71 → I' s bi = I s bi) : YB (setV (setV V 8 x y z) 0 6 0 (V 0 6 0 + 1)) bi I' := by
  generalize hV' : setV (setV V 8 x y z) 0 6 0 (V 0 6 0 + 1) = V'
  have vs : ∀ k, k ≠ 6 → V' 0 k 0 = V 0 k 0 := fun k hk => by rw [← hV']; unfold setV; rw [if_neg (fun q => hk q.2.1), if_neg (by omega)]
  have vz : V' 0 6 0 = V 0 6 0 + 1 := by rw [← hV']; exact setV_e
  have vo : ∀ k i j, k ≠ 0 → k ≠ 8 → V' k i j = V k i j := fun k i j h0 g8 => by rw [← hV']; unfold setV; rw [if_neg (fun q => h0 q.1), if_neg (fun q => g8 q.1)]
  have vt : ∀ i j, V' 8 i j = if i = x ∧ j = y then z else V 8 i j := fun i j => by rw [← hV']; unfold setV; rw [if_neg (by omega)]; by_cases q : i = x ∧ j = y; (rw [if_pos ⟨rfl, q.1, q.2⟩, if_pos q]); rw [if_neg (fun w => q w.2), if_neg q]
  refine ⟨⟨fun k hk => ?_, ?_, ?_, ?_, ?_⟩, ?_, ?_, ?_, ?_, ?_, ?_, ?_, ?_, ?_, ?_, ?_⟩
  · by_cases e0 : k = 6
    · rw [e0, vz]; exact hz
    · rw [ho12 k e0 (by omega), vs k (by omega)]; exact h.1.1 k hk
  · rw [ho12 8 (by decide) (by decide), vs 11 (by decide)]; exact h.1.2.1
  · rw [ho12 9 (by decide) (by decide), vs 8 (by decide)]; exact h.1.2.2.1
  · rw [ho12 10 (by decide) (by decide), vs 9 (by decide)]; exact h.1.2.2.2.1
  · rw [ho12 11 (by decide) (by decide), vs 10 (by decide)]; exact h.1.2.2.2.2
  · simp only [vs 1 (by decide), ho 64 (by decide) (by decide) (by decide), vo 1 _ _ (by decide) (by decide)]; exact h.2.1
  · simp only [vs 2 (by decide), ho 65 (by decide) (by decide) (by decide), vo 2 _ _ (by decide) (by decide), ho 66 (by decide) (by decide) (by decide), vo 3 _ _ (by decide) (by decide)]; exact h.2.2.1
  · simp only [vs 3 (by decide), ho 67 (by decide) (by decide) (by decide), vo 4 _ _ (by decide) (by decide)]; exact h.2.2.2.1
  · simp only [vs 4 (by decide), ho 68 (by decide) (by decide) (by decide), vo 5 _ _ (by decide) (by decide), ho 69 (by decide) (by decide) (by decide), vo 6 _ _ (by decide) (by decide)]; exact h.2.2.2.2.1
  · intro a c ha hc
    exact ⟨by rw [ho 70 (by decide) (by decide) (by decide), vo 7 _ _ (by decide) (by decide)]; exact (h.2.2.2.2.2.1 a c ha hc).1, (by rw [vt]; by_cases q : a = x ∧ c = y; (rw [if_pos q, q.1, q.2]; exact hs); rw [if_neg q, ks _ (fun w => q (by omega))]; exact (h.2.2.2.2.2.1 a c ha hc).2)⟩
  · simp only [vs 7 (by decide), ho 72 (by decide) (by decide) (by decide), vo 9 _ _ (by decide) (by decide), ho 73 (by decide) (by decide) (by decide), vo 10 _ _ (by decide) (by decide), ho 74 (by decide) (by decide) (by decide), vo 11 _ _ (by decide) (by decide)]; exact h.2.2.2.2.2.2.1
  · simp only [ho 75 (by decide) (by decide) (by decide), vo 12 _ _ (by decide) (by decide)]; exact h.2.2.2.2.2.2.2.1
  · simp only [ho 76 (by decide) (by decide) (by decide), vo 13 _ _ (by decide) (by decide)]; exact h.2.2.2.2.2.2.2.2.1
  · simp only [ho 77 (by decide) (by decide) (by decide), vo 14 _ _ (by decide) (by decide), vo 13 _ _ (by decide) (by decide)]; exact h.2.2.2.2.2.2.2.2.2.1
  · simp only [vs 9 (by decide), ho 78 (by decide) (by decide) (by decide), vo 15 _ _ (by decide) (by decide), ho 79 (by decide) (by decide) (by decide), vo 16 _ _ (by decide) (by decide)]; exact h.2.2.2.2.2.2.2.2.2.2.1
  · simp only [vs 0 (by decide), ho 80 (by decide) (by decide) (by decide), vo 17 _ _ (by decide) (by decide)]; exact h.2.2.2.2.2.2.2.2.2.2.2
theorem YB.on {x y z : Nat} (hs : I' 75 bi (6 * x + y) = nI z) (ks : ∀ l, l ≠ 6 * x + y → I' 75 bi l = I 75 bi l) (hy : y < 6) (h : YB V bi I) (hz : I' 12 bi 8 = nI (V 0 11 0 + 1)) (ho12 : ∀ k, k ≠ 8 → k ≠ 12 → I' 12 bi k = I 12 bi k) (ho : ∀ s, 64 ≤ s → s ≤ 80 → s ≠ 75 → I' s bi = I s bi) : YB (setV (setV V 12 x y z) 0 11 0 (V 0 11 0 + 1)) bi I' := by
  generalize hV' : setV (setV V 12 x y z) 0 11 0 (V 0 11 0 + 1) = V'
  have vs : ∀ k, k ≠ 11 → V' 0 k 0 = V 0 k 0 := fun k hk => by rw [← hV']; unfold setV; rw [if_neg (fun q => hk q.2.1), if_neg (by omega)]
  have vz : V' 0 11 0 = V 0 11 0 + 1 := by rw [← hV']; exact setV_e
  have vo : ∀ k i j, k ≠ 0 → k ≠ 12 → V' k i j = V k i j := fun k i j h0 g12 => by rw [← hV']; unfold setV; rw [if_neg (fun q => h0 q.1), if_neg (fun q => g12 q.1)]
  have vt : ∀ i j, V' 12 i j = if i = x ∧ j = y then z else V 12 i j := fun i j => by rw [← hV']; unfold setV; rw [if_neg (by omega)]; by_cases q : i = x ∧ j = y; (rw [if_pos ⟨rfl, q.1, q.2⟩, if_pos q]); rw [if_neg (fun w => q w.2), if_neg q]
  refine ⟨⟨fun k hk => ?_, ?_, ?_, ?_, ?_⟩, ?_, ?_, ?_, ?_, ?_, ?_, ?_, ?_, ?_, ?_, ?_⟩
  · rw [ho12 k (by omega) (by omega), vs k (by omega)]; exact h.1.1 k hk
  · rw [vz]; exact hz
  · rw [ho12 9 (by decide) (by decide), vs 8 (by decide)]; exact h.1.2.2.1
  · rw [ho12 10 (by decide) (by decide), vs 9 (by decide)]; exact h.1.2.2.2.1
  · rw [ho12 11 (by decide) (by decide), vs 10 (by decide)]; exact h.1.2.2.2.2
  · simp only [vs 1 (by decide), ho 64 (by decide) (by decide) (by decide), vo 1 _ _ (by decide) (by decide)]; exact h.2.1
  · simp only [vs 2 (by decide), ho 65 (by decide) (by decide) (by decide), vo 2 _ _ (by decide) (by decide), ho 66 (by decide) (by decide) (by decide), vo 3 _ _ (by decide) (by decide)]; exact h.2.2.1
  · simp only [vs 3 (by decide), ho 67 (by decide) (by decide) (by decide), vo 4 _ _ (by decide) (by decide)]; exact h.2.2.2.1
  · simp only [vs 4 (by decide), ho 68 (by decide) (by decide) (by decide), vo 5 _ _ (by decide) (by decide), ho 69 (by decide) (by decide) (by decide), vo 6 _ _ (by decide) (by decide)]; exact h.2.2.2.2.1
  · simp only [ho 70 (by decide) (by decide) (by decide), vo 7 _ _ (by decide) (by decide), ho 71 (by decide) (by decide) (by decide), vo 8 _ _ (by decide) (by decide)]; exact h.2.2.2.2.2.1
  · simp only [vs 7 (by decide), ho 72 (by decide) (by decide) (by decide), vo 9 _ _ (by decide) (by decide), ho 73 (by decide) (by decide) (by decide), vo 10 _ _ (by decide) (by decide), ho 74 (by decide) (by decide) (by decide), vo 11 _ _ (by decide) (by decide)]; exact h.2.2.2.2.2.2.1
  · intro a c ha hc
    exact (by rw [vt]; by_cases q : a = x ∧ c = y; (rw [if_pos q, q.1, q.2]; exact hs); rw [if_neg q, ks _ (fun w => q (by omega))]; exact h.2.2.2.2.2.2.2.1 a c ha hc)
  · simp only [ho 76 (by decide) (by decide) (by decide), vo 13 _ _ (by decide) (by decide)]; exact h.2.2.2.2.2.2.2.2.1
  · simp only [ho 77 (by decide) (by decide) (by decide), vo 14 _ _ (by decide) (by decide), vo 13 _ _ (by decide) (by decide)]; exact h.2.2.2.2.2.2.2.2.2.1
  · simp only [vs 9 (by decide), ho 78 (by decide) (by decide) (by decide), vo 15 _ _ (by decide) (by decide), ho 79 (by decide) (by decide) (by decide), vo 16 _ _ (by decide) (by decide)]; exact h.2.2.2.2.2.2.2.2.2.2.1
  · simp only [vs 0 (by decide), ho 80 (by decide) (by decide) (by decide), vo 17 _ _ (by decide) (by decide)]; exact h.2.2.2.2.2.2.2.2.2.2.2
theorem YB.path {x y z : Nat} (hs : I' 70 bi (6 * x + y) = nI z ∧ I' 70 bi (6 * y + x) = nI z) (ks : ∀ l, l ≠ 6 * x + y → l ≠ 6 * y + x → I' 70 bi l = I 70 bi l) (hx : x < 6) (hy : y < 6) (h : YB V bi I) (hz : I' 12 bi 5 = nI (V 0 5 0 + 1)) (ho12 : ∀ k, k ≠ 5 → k ≠ 12 → I' 12 bi k = I 12 bi k) (ho : ∀ s, 64 ≤ s → s ≤ 80 → s ≠ 70 → I' s bi = I s bi) : YB (setV (setV (setV V 7 x y z) 7 y x z) 0 5 0 (V 0 5 0 + 1)) bi I' := by
  generalize hV' : setV (setV (setV V 7 x y z) 7 y x z) 0 5 0 (V 0 5 0 + 1) = V'
  have vs : ∀ k, k ≠ 5 → V' 0 k 0 = V 0 k 0 := fun k hk => by rw [← hV']; unfold setV; rw [if_neg (fun q => hk q.2.1), if_neg (by omega), if_neg (by omega)]
  have vz : V' 0 5 0 = V 0 5 0 + 1 := by rw [← hV']; exact setV_e
  have vo : ∀ k i j, k ≠ 0 → k ≠ 7 → V' k i j = V k i j := fun k i j h0 g7 => by rw [← hV']; unfold setV; rw [if_neg (fun q => h0 q.1), if_neg (fun q => g7 q.1), if_neg (fun q => g7 q.1)]
  have vt : ∀ i j, V' 7 i j = if (i = y ∧ j = x) ∨ (i = x ∧ j = y) then z else V 7 i j := fun i j => by
    rw [← hV']
    unfold setV
    rw [if_neg (by omega)]
    by_cases q : i = y ∧ j = x
    · rw [if_pos ⟨rfl, q.1, q.2⟩, if_pos (Or.inl q)]
    · rw [if_neg (fun w => q w.2)]
      by_cases q2 : i = x ∧ j = y
      · rw [if_pos ⟨rfl, q2.1, q2.2⟩, if_pos (Or.inr q2)]
      · rw [if_neg (fun w => q2 w.2), if_neg (fun w => w.elim q q2)]
  refine ⟨⟨fun k hk => ?_, ?_, ?_, ?_, ?_⟩, ?_, ?_, ?_, ?_, ?_, ?_, ?_, ?_, ?_, ?_, ?_⟩
  · by_cases e0 : k = 5
    · rw [e0, vz]; exact hz
    · rw [ho12 k e0 (by omega), vs k (by omega)]; exact h.1.1 k hk
  · rw [ho12 8 (by decide) (by decide), vs 11 (by decide)]; exact h.1.2.1
  · rw [ho12 9 (by decide) (by decide), vs 8 (by decide)]; exact h.1.2.2.1
  · rw [ho12 10 (by decide) (by decide), vs 9 (by decide)]; exact h.1.2.2.2.1
  · rw [ho12 11 (by decide) (by decide), vs 10 (by decide)]; exact h.1.2.2.2.2
  · simp only [vs 1 (by decide), ho 64 (by decide) (by decide) (by decide), vo 1 _ _ (by decide) (by decide)]; exact h.2.1
  · simp only [vs 2 (by decide), ho 65 (by decide) (by decide) (by decide), vo 2 _ _ (by decide) (by decide), ho 66 (by decide) (by decide) (by decide), vo 3 _ _ (by decide) (by decide)]; exact h.2.2.1
  · simp only [vs 3 (by decide), ho 67 (by decide) (by decide) (by decide), vo 4 _ _ (by decide) (by decide)]; exact h.2.2.2.1
  · simp only [vs 4 (by decide), ho 68 (by decide) (by decide) (by decide), vo 5 _ _ (by decide) (by decide), ho 69 (by decide) (by decide) (by decide), vo 6 _ _ (by decide) (by decide)]; exact h.2.2.2.2.1
  · intro a c ha hc
    refine ⟨?_, by rw [ho 71 (by decide) (by decide) (by decide), vo 8 _ _ (by decide) (by decide)]; exact (h.2.2.2.2.2.1 a c ha hc).2⟩
    rw [vt]
    by_cases q : (a = y ∧ c = x) ∨ (a = x ∧ c = y)
    · rw [if_pos q]
      rcases q with q | q
      · rw [q.1, q.2]; exact hs.2
      · rw [q.1, q.2]; exact hs.1
    · rw [if_neg q, ks _ (fun w => q (by omega)) (fun w => q (by omega))]; exact (h.2.2.2.2.2.1 a c ha hc).1
  · simp only [vs 7 (by decide), ho 72 (by decide) (by decide) (by decide), vo 9 _ _ (by decide) (by decide), ho 73 (by decide) (by decide) (by decide), vo 10 _ _ (by decide) (by decide), ho 74 (by decide) (by decide) (by decide), vo 11 _ _ (by decide) (by decide)]; exact h.2.2.2.2.2.2.1
  · simp only [ho 75 (by decide) (by decide) (by decide), vo 12 _ _ (by decide) (by decide)]; exact h.2.2.2.2.2.2.2.1
  · simp only [ho 76 (by decide) (by decide) (by decide), vo 13 _ _ (by decide) (by decide)]; exact h.2.2.2.2.2.2.2.2.1
  · simp only [ho 77 (by decide) (by decide) (by decide), vo 14 _ _ (by decide) (by decide), vo 13 _ _ (by decide) (by decide)]; exact h.2.2.2.2.2.2.2.2.2.1
  · simp only [vs 9 (by decide), ho 78 (by decide) (by decide) (by decide), vo 15 _ _ (by decide) (by decide), ho 79 (by decide) (by decide) (by decide), vo 16 _ _ (by decide) (by decide)]; exact h.2.2.2.2.2.2.2.2.2.2.1
  · simp only [vs 0 (by decide), ho 80 (by decide) (by decide) (by decide), vo 17 _ _ (by decide) (by decide)]; exact h.2.2.2.2.2.2.2.2.2.2.2
theorem YB.whiff {x z : Nat} (hs : I' 80 bi x = nI z) (ks : ∀ l, l ≠ x → I' 80 bi l = I 80 bi l) (h : YB V bi I) (hz : I' 12 bi 11 = nI (V 0 10 0 + 1)) (ho12 : ∀ k, k ≠ 11 → k ≠ 12 → I' 12 bi k = I 12 bi k) (ho : ∀ s, 64 ≤ s → s ≤ 80 → s ≠ 80 → I' s bi = I s bi) : YB (setV (setV V 17 x 0 (z + 1)) 0 10 0 (V 0 10 0 + 1)) bi I' := by
  generalize hV' : setV (setV V 17 x 0 (z + 1)) 0 10 0 (V 0 10 0 + 1) = V'
  have vs : ∀ k, k ≠ 10 → V' 0 k 0 = V 0 k 0 := fun k hk => by rw [← hV']; unfold setV; rw [if_neg (fun q => hk q.2.1), if_neg (by omega)]
  have vz : V' 0 10 0 = V 0 10 0 + 1 := by rw [← hV']; exact setV_e
  have vo : ∀ k i j, k ≠ 0 → k ≠ 17 → V' k i j = V k i j := fun k i j h0 g17 => by rw [← hV']; unfold setV; rw [if_neg (fun q => h0 q.1), if_neg (fun q => g17 q.1)]
  have vt : ∀ i, V' 17 i 0 = if i = x then z + 1 else V 17 i 0 := fun i => by rw [← hV']; unfold setV; rw [if_neg (by omega)]; by_cases q : i = x; (rw [if_pos ⟨rfl, q, rfl⟩, if_pos q]); rw [if_neg (fun w => q w.2.1), if_neg q]
  refine ⟨⟨fun k hk => ?_, ?_, ?_, ?_, ?_⟩, ?_, ?_, ?_, ?_, ?_, ?_, ?_, ?_, ?_, ?_, ?_⟩
  · rw [ho12 k (by omega) (by omega), vs k (by omega)]; exact h.1.1 k hk
  · rw [ho12 8 (by decide) (by decide), vs 11 (by decide)]; exact h.1.2.1
  · rw [ho12 9 (by decide) (by decide), vs 8 (by decide)]; exact h.1.2.2.1
  · rw [ho12 10 (by decide) (by decide), vs 9 (by decide)]; exact h.1.2.2.2.1
  · rw [vz]; exact hz
  · simp only [vs 1 (by decide), ho 64 (by decide) (by decide) (by decide), vo 1 _ _ (by decide) (by decide)]; exact h.2.1
  · simp only [vs 2 (by decide), ho 65 (by decide) (by decide) (by decide), vo 2 _ _ (by decide) (by decide), ho 66 (by decide) (by decide) (by decide), vo 3 _ _ (by decide) (by decide)]; exact h.2.2.1
  · simp only [vs 3 (by decide), ho 67 (by decide) (by decide) (by decide), vo 4 _ _ (by decide) (by decide)]; exact h.2.2.2.1
  · simp only [vs 4 (by decide), ho 68 (by decide) (by decide) (by decide), vo 5 _ _ (by decide) (by decide), ho 69 (by decide) (by decide) (by decide), vo 6 _ _ (by decide) (by decide)]; exact h.2.2.2.2.1
  · simp only [ho 70 (by decide) (by decide) (by decide), vo 7 _ _ (by decide) (by decide), ho 71 (by decide) (by decide) (by decide), vo 8 _ _ (by decide) (by decide)]; exact h.2.2.2.2.2.1
  · simp only [vs 7 (by decide), ho 72 (by decide) (by decide) (by decide), vo 9 _ _ (by decide) (by decide), ho 73 (by decide) (by decide) (by decide), vo 10 _ _ (by decide) (by decide), ho 74 (by decide) (by decide) (by decide), vo 11 _ _ (by decide) (by decide)]; exact h.2.2.2.2.2.2.1
  · simp only [ho 75 (by decide) (by decide) (by decide), vo 12 _ _ (by decide) (by decide)]; exact h.2.2.2.2.2.2.2.1
  · simp only [ho 76 (by decide) (by decide) (by decide), vo 13 _ _ (by decide) (by decide)]; exact h.2.2.2.2.2.2.2.2.1
  · simp only [ho 77 (by decide) (by decide) (by decide), vo 14 _ _ (by decide) (by decide), vo 13 _ _ (by decide) (by decide)]; exact h.2.2.2.2.2.2.2.2.2.1
  · simp only [vs 9 (by decide), ho 78 (by decide) (by decide) (by decide), vo 15 _ _ (by decide) (by decide), ho 79 (by decide) (by decide) (by decide), vo 16 _ _ (by decide) (by decide)]; exact h.2.2.2.2.2.2.2.2.2.2.1
  · intro s hs6 h0
    rw [vs 0 (by decide)] at h0
    rw [vt]
    by_cases q : s = x
    · rw [if_pos q, q, hs, nO_pos (by omega), Nat.add_sub_cancel]
    · rw [if_neg q, ks s q]; exact h.2.2.2.2.2.2.2.2.2.2.2 s hs6 h0
theorem YB.wind {x : Nat} (h17 : ∀ s, V 17 s 0 = 0) (hs : ∀ l, l < 6 → I' 80 bi l = -1) (h : YB V bi I) (hz : I' 12 bi 0 = nI (x)) (ho12 : ∀ k, k ≠ 0 → k ≠ 12 → I' 12 bi k = I 12 bi k) (ho : ∀ s, 64 ≤ s → s ≤ 80 → s ≠ 80 → I' s bi = I s bi) : YB (setV V 0 0 0 x) bi I' := by
  generalize hV' : setV V 0 0 0 x = V'
  have vs : ∀ k, k ≠ 0 → V' 0 k 0 = V 0 k 0 := fun k hk => by rw [← hV']; unfold setV; rw [if_neg (fun q => hk q.2.1)]
  have vz : V' 0 0 0 = x := by rw [← hV']; exact setV_e
  have vo : ∀ k i j, k ≠ 0 → V' k i j = V k i j := fun k i j h0 => by rw [← hV']; unfold setV; rw [if_neg (fun q => h0 q.1)]
  refine ⟨⟨fun k hk => ?_, ?_, ?_, ?_, ?_⟩, ?_, ?_, ?_, ?_, ?_, ?_, ?_, ?_, ?_, ?_, ?_⟩
  · by_cases e0 : k = 0
    · rw [e0, vz]; exact hz
    · rw [ho12 k e0 (by omega), vs k (by omega)]; exact h.1.1 k hk
  · rw [ho12 8 (by decide) (by decide), vs 11 (by decide)]; exact h.1.2.1
  · rw [ho12 9 (by decide) (by decide), vs 8 (by decide)]; exact h.1.2.2.1
  · rw [ho12 10 (by decide) (by decide), vs 9 (by decide)]; exact h.1.2.2.2.1
  · rw [ho12 11 (by decide) (by decide), vs 10 (by decide)]; exact h.1.2.2.2.2
  · simp only [vs 1 (by decide), ho 64 (by decide) (by decide) (by decide), vo 1 _ _ (by decide)]; exact h.2.1
  · simp only [vs 2 (by decide), ho 65 (by decide) (by decide) (by decide), vo 2 _ _ (by decide), ho 66 (by decide) (by decide) (by decide), vo 3 _ _ (by decide)]; exact h.2.2.1
  · simp only [vs 3 (by decide), ho 67 (by decide) (by decide) (by decide), vo 4 _ _ (by decide)]; exact h.2.2.2.1
  · simp only [vs 4 (by decide), ho 68 (by decide) (by decide) (by decide), vo 5 _ _ (by decide), ho 69 (by decide) (by decide) (by decide), vo 6 _ _ (by decide)]; exact h.2.2.2.2.1
  · simp only [ho 70 (by decide) (by decide) (by decide), vo 7 _ _ (by decide), ho 71 (by decide) (by decide) (by decide), vo 8 _ _ (by decide)]; exact h.2.2.2.2.2.1
  · simp only [vs 7 (by decide), ho 72 (by decide) (by decide) (by decide), vo 9 _ _ (by decide), ho 73 (by decide) (by decide) (by decide), vo 10 _ _ (by decide), ho 74 (by decide) (by decide) (by decide), vo 11 _ _ (by decide)]; exact h.2.2.2.2.2.2.1
  · simp only [ho 75 (by decide) (by decide) (by decide), vo 12 _ _ (by decide)]; exact h.2.2.2.2.2.2.2.1
  · simp only [ho 76 (by decide) (by decide) (by decide), vo 13 _ _ (by decide)]; exact h.2.2.2.2.2.2.2.2.1
  · simp only [ho 77 (by decide) (by decide) (by decide), vo 14 _ _ (by decide), vo 13 _ _ (by decide)]; exact h.2.2.2.2.2.2.2.2.2.1
  · simp only [vs 9 (by decide), ho 78 (by decide) (by decide) (by decide), vo 15 _ _ (by decide), ho 79 (by decide) (by decide) (by decide), vo 16 _ _ (by decide)]; exact h.2.2.2.2.2.2.2.2.2.2.1
  · intro s hs6 h0
    rw [vo 17 _ _ (by decide), h17 s, hs s hs6]; rfl
theorem YB.walk {t : Nat} {st : List Nat} (h76 : I' 76 bi t = nI st.length) (k76 : ∀ l, l ≠ t → I' 76 bi l = I 76 bi l) (h77 : ∀ j, j < st.length → I' 77 bi (5 * t + j) = nI (st.getD j 0)) (k77 : ∀ l, ¬ (5 * t ≤ l ∧ l < 5 * t + 5) → I' 77 bi l = I 77 bi l) (h13 : ∀ u, V 13 u 0 ≤ 5) (h : YB V bi I) (hz : I' 12 bi 9 = nI (V 0 8 0 + 1)) (ho12 : ∀ k, k ≠ 9 → k ≠ 12 → I' 12 bi k = I 12 bi k) (ho : ∀ s, 64 ≤ s → s ≤ 80 → s ≠ 76 → s ≠ 77 → I' s bi = I s bi) : YB (wkV V t st) bi I' := by
  generalize hV' : wkV V t st = V'
  have vs : ∀ k, k ≠ 8 → V' 0 k 0 = V 0 k 0 := fun k hk => by rw [← hV']; unfold wkV; rw [if_neg (fun z => hk z.2.1), if_neg (by omega), if_neg (by omega)]
  have vz : V' 0 8 0 = V 0 8 0 + 1 := by rw [← hV']; exact if_pos ⟨rfl, rfl, rfl⟩
  have vo : ∀ k i j, k ≠ 0 → k ≠ 13 → k ≠ 14 → V' k i j = V k i j := fun k i j h0 g13 g14 => by rw [← hV']; unfold wkV; rw [if_neg (fun z => h0 z.1), if_neg (fun z => g13 z.1), if_neg (fun z => g14 z.1)]
  have v13 : ∀ u, u ≠ t → V' 13 u 0 = V 13 u 0 := fun u hu => by rw [← hV']; unfold wkV; rw [if_neg (by omega), if_neg (fun z => hu z.2.1), if_neg (by omega)]
  have v14 : ∀ u j, u ≠ t → V' 14 u j = V 14 u j := fun u j hu => by rw [← hV']; unfold wkV; rw [if_neg (by omega), if_neg (by omega), if_neg (fun z => hu z.2)]
  have u13 : V' 13 t 0 = st.length := by rw [← hV']; unfold wkV; rw [if_neg (by omega), if_pos ⟨rfl, rfl, rfl⟩]
  have u14 : ∀ j, V' 14 t j = st.getD j 0 := fun j => by rw [← hV']; unfold wkV; rw [if_neg (by omega), if_neg (by omega), if_pos ⟨rfl, rfl⟩]
  refine ⟨⟨fun k hk => ?_, ?_, ?_, ?_, ?_⟩, ?_, ?_, ?_, ?_, ?_, ?_, ?_, ?_, ?_, ?_, ?_⟩
  · rw [ho12 k (by omega) (by omega), vs k (by omega)]; exact h.1.1 k hk
  · rw [ho12 8 (by decide) (by decide), vs 11 (by decide)]; exact h.1.2.1
  · rw [vz]; exact hz
  · rw [ho12 10 (by decide) (by decide), vs 9 (by decide)]; exact h.1.2.2.2.1
  · rw [ho12 11 (by decide) (by decide), vs 10 (by decide)]; exact h.1.2.2.2.2
  · simp only [vs 1 (by decide), ho 64 (by decide) (by decide) (by decide) (by decide), vo 1 _ _ (by decide) (by decide) (by decide)]; exact h.2.1
  · simp only [vs 2 (by decide), ho 65 (by decide) (by decide) (by decide) (by decide), vo 2 _ _ (by decide) (by decide) (by decide), ho 66 (by decide) (by decide) (by decide) (by decide), vo 3 _ _ (by decide) (by decide) (by decide)]; exact h.2.2.1
  · simp only [vs 3 (by decide), ho 67 (by decide) (by decide) (by decide) (by decide), vo 4 _ _ (by decide) (by decide) (by decide)]; exact h.2.2.2.1
  · simp only [vs 4 (by decide), ho 68 (by decide) (by decide) (by decide) (by decide), vo 5 _ _ (by decide) (by decide) (by decide), ho 69 (by decide) (by decide) (by decide) (by decide), vo 6 _ _ (by decide) (by decide) (by decide)]; exact h.2.2.2.2.1
  · simp only [ho 70 (by decide) (by decide) (by decide) (by decide), vo 7 _ _ (by decide) (by decide) (by decide), ho 71 (by decide) (by decide) (by decide) (by decide), vo 8 _ _ (by decide) (by decide) (by decide)]; exact h.2.2.2.2.2.1
  · simp only [vs 7 (by decide), ho 72 (by decide) (by decide) (by decide) (by decide), vo 9 _ _ (by decide) (by decide) (by decide), ho 73 (by decide) (by decide) (by decide) (by decide), vo 10 _ _ (by decide) (by decide) (by decide), ho 74 (by decide) (by decide) (by decide) (by decide), vo 11 _ _ (by decide) (by decide) (by decide)]; exact h.2.2.2.2.2.2.1
  · simp only [ho 75 (by decide) (by decide) (by decide) (by decide), vo 12 _ _ (by decide) (by decide) (by decide)]; exact h.2.2.2.2.2.2.2.1
  · intro u hu
    by_cases q : u = t
    · rw [q, u13]; exact h76
    · rw [v13 u q, k76 u q]; exact h.2.2.2.2.2.2.2.2.1 u hu
  · intro u i hu hi
    by_cases q : u = t
    · rw [q, u13] at hi; rw [q, u14]; exact h77 i hi
    · rw [v13 u q] at hi; have := h13 u; rw [v14 u i q, k77 _ (by omega)]; exact h.2.2.2.2.2.2.2.2.2.1 u i hu hi
  · simp only [vs 9 (by decide), ho 78 (by decide) (by decide) (by decide) (by decide), vo 15 _ _ (by decide) (by decide) (by decide), ho 79 (by decide) (by decide) (by decide) (by decide), vo 16 _ _ (by decide) (by decide) (by decide)]; exact h.2.2.2.2.2.2.2.2.2.2.1
  · simp only [vs 0 (by decide), ho 80 (by decide) (by decide) (by decide) (by decide), vo 17 _ _ (by decide) (by decide) (by decide)]; exact h.2.2.2.2.2.2.2.2.2.2.2
end M36
