section M49
variable {G : xG} {ad : Nat → Nat → Nat} {nb : Nat} {b r : Option Nat} {L : Nat → Nat → Nat → Int64} {V : sV} {I : Nat → Nat → Nat → Int32} {d : Nat}

variable {ad' : Nat → Nat → Nat} {b' r' : Option Nat}
theorem RRL_ad (h : ∀ s i, ¬ (64 ≤ s ∧ s ≤ 83) → ad' s i = ad s i) : (RRL ad' b r).set 12 (fun _ _ => none) = (RRL ad b r).set 12 (fun _ _ => none) := by
  have e : ∀ s, ¬ (64 ≤ s ∧ s ≤ 83) → ad' s = ad s := fun s hs => funext fun i => h s i hs
  unfold RRL
  simp only [List.set_cons_succ, List.set_cons_zero, e 0 (by decide), e 1 (by decide), e 2 (by decide), e 3 (by decide), e 4 (by decide), e 5 (by decide), e 6 (by decide), e 7 (by decide), e 8 (by decide), e 9 (by decide), e 10 (by decide), e 12 (by decide), e 14 (by decide), e 15 (by decide), e 16 (by decide), e 17 (by decide), e 18 (by decide), e 19 (by decide), e 20 (by decide), e 21 (by decide), e 22 (by decide), e 23 (by decide), e 24 (by decide), e 25 (by decide), e 26 (by decide), e 27 (by decide), e 28 (by decide), e 29 (by decide), e 30 (by decide), e 31 (by decide), e 32 (by decide), e 33 (by decide), e 34 (by decide), e 35 (by decide), e 36 (by decide), e 37 (by decide), e 38 (by decide), e 39 (by decide), e 40 (by decide), e 41 (by decide), e 42 (by decide), e 43 (by decide), e 44 (by decide), e 45 (by decide), e 46 (by decide), e 47 (by decide), e 48 (by decide), e 49 (by decide), e 50 (by decide), e 51 (by decide), e 52 (by decide), e 53 (by decide), e 54 (by decide), e 55 (by decide), e 56 (by decide), e 57 (by decide), e 58 (by decide), e 59 (by decide), e 60 (by decide), e 61 (by decide), e 62 (by decide), e 63 (by decide), e 84 (by decide), e 85 (by decide), e 86 (by decide), e 87 (by decide), e 88 (by decide), e 89 (by decide), e 90 (by decide), e 91 (by decide), e 92 (by decide), e 93 (by decide), e 94 (by decide), e 95 (by decide), e 96 (by decide), e 97 (by decide), e 98 (by decide), e 99 (by decide), e 100 (by decide), e 101 (by decide), e 102 (by decide)]
theorem RR_ad (h : ∀ s i, ¬ (64 ≤ s ∧ s ≤ 83) → ad' s i = ad s i) {s i k : Nat} (hs : s ≠ 12) : RR ad' b r s i k = RR ad b r s i k := by
  have key := congrArg (fun l => l.getD s (fun _ _ => none) i k) (RRL_ad (b := b) (r := r) h)
  simp only [List.getD_eq_getElem?_getD] at key
  rw [List.getElem?_set_ne (Ne.symm hs), List.getElem?_set_ne (Ne.symm hs)] at key
  unfold RR
  simp only [List.getD_eq_getElem?_getD]
  exact key

theorem RR_12 {i : Nat} : ∀ j, RR ad b r 12 i j = if 13 ≤ j ∧ j < 33 then some (ad (64 + (j - 13)) i) else none
  | 0 => rfl
  | 1 => rfl
  | 2 => rfl
  | 3 => rfl
  | 4 => rfl
  | 5 => rfl
  | 6 => rfl
  | 7 => rfl
  | 8 => rfl
  | 9 => rfl
  | 10 => rfl
  | 11 => rfl
  | 12 => rfl
  | 13 => rfl
  | 14 => rfl
  | 15 => rfl
  | 16 => rfl
  | 17 => rfl
  | 18 => rfl
  | 19 => rfl
  | 20 => rfl
  | 21 => rfl
  | 22 => rfl
  | 23 => rfl
  | 24 => rfl
  | 25 => rfl
  | 26 => rfl
  | 27 => rfl
  | 28 => rfl
  | 29 => rfl
  | 30 => rfl
  | 31 => rfl
  | 32 => rfl
  | j + 33 => by rw [if_neg (by omega)]; rfl
theorem RR_ar {i j : Nat} : ∀ s, 64 ≤ s → s ≤ 83 → RR ad b r s i j = none
  | 0, h, _ => absurd h (by decide)
  | 1, h, _ => absurd h (by decide)
  | 2, h, _ => absurd h (by decide)
  | 3, h, _ => absurd h (by decide)
  | 4, h, _ => absurd h (by decide)
  | 5, h, _ => absurd h (by decide)
  | 6, h, _ => absurd h (by decide)
  | 7, h, _ => absurd h (by decide)
  | 8, h, _ => absurd h (by decide)
  | 9, h, _ => absurd h (by decide)
  | 10, h, _ => absurd h (by decide)
  | 11, h, _ => absurd h (by decide)
  | 12, h, _ => absurd h (by decide)
  | 13, h, _ => absurd h (by decide)
  | 14, h, _ => absurd h (by decide)
  | 15, h, _ => absurd h (by decide)
  | 16, h, _ => absurd h (by decide)
  | 17, h, _ => absurd h (by decide)
  | 18, h, _ => absurd h (by decide)
  | 19, h, _ => absurd h (by decide)
  | 20, h, _ => absurd h (by decide)
  | 21, h, _ => absurd h (by decide)
  | 22, h, _ => absurd h (by decide)
  | 23, h, _ => absurd h (by decide)
  | 24, h, _ => absurd h (by decide)
  | 25, h, _ => absurd h (by decide)
  | 26, h, _ => absurd h (by decide)
  | 27, h, _ => absurd h (by decide)
  | 28, h, _ => absurd h (by decide)
  | 29, h, _ => absurd h (by decide)
  | 30, h, _ => absurd h (by decide)
  | 31, h, _ => absurd h (by decide)
  | 32, h, _ => absurd h (by decide)
  | 33, h, _ => absurd h (by decide)
  | 34, h, _ => absurd h (by decide)
  | 35, h, _ => absurd h (by decide)
  | 36, h, _ => absurd h (by decide)
  | 37, h, _ => absurd h (by decide)
  | 38, h, _ => absurd h (by decide)
  | 39, h, _ => absurd h (by decide)
  | 40, h, _ => absurd h (by decide)
  | 41, h, _ => absurd h (by decide)
  | 42, h, _ => absurd h (by decide)
  | 43, h, _ => absurd h (by decide)
  | 44, h, _ => absurd h (by decide)
  | 45, h, _ => absurd h (by decide)
  | 46, h, _ => absurd h (by decide)
  | 47, h, _ => absurd h (by decide)
  | 48, h, _ => absurd h (by decide)
  | 49, h, _ => absurd h (by decide)
  | 50, h, _ => absurd h (by decide)
  | 51, h, _ => absurd h (by decide)
  | 52, h, _ => absurd h (by decide)
  | 53, h, _ => absurd h (by decide)
  | 54, h, _ => absurd h (by decide)
  | 55, h, _ => absurd h (by decide)
  | 56, h, _ => absurd h (by decide)
  | 57, h, _ => absurd h (by decide)
  | 58, h, _ => absurd h (by decide)
  | 59, h, _ => absurd h (by decide)
  | 60, h, _ => absurd h (by decide)
  | 61, h, _ => absurd h (by decide)
  | 62, h, _ => absurd h (by decide)
  | 63, h, _ => absurd h (by decide)
  | 64, _, _ => rfl
  | 65, _, _ => rfl
  | 66, _, _ => rfl
  | 67, _, _ => rfl
  | 68, _, _ => rfl
  | 69, _, _ => rfl
  | 70, _, _ => rfl
  | 71, _, _ => rfl
  | 72, _, _ => rfl
  | 73, _, _ => rfl
  | 74, _, _ => rfl
  | 75, _, _ => rfl
  | 76, _, _ => rfl
  | 77, _, _ => rfl
  | 78, _, _ => rfl
  | 79, _, _ => rfl
  | 80, _, _ => rfl
  | 81, _, _ => rfl
  | 82, _, _ => rfl
  | 83, _, _ => rfl
  | s + 84, _, h => absurd h (by omega)
theorem CC_nb : ∀ s, CC (nb + 1) s = if s = 12 ∨ (64 ≤ s ∧ s < 84) then nb + 1 else CC nb s
  | 0 => rfl
  | 1 => rfl
  | 2 => rfl
  | 3 => rfl
  | 4 => rfl
  | 5 => rfl
  | 6 => rfl
  | 7 => rfl
  | 8 => rfl
  | 9 => rfl
  | 10 => rfl
  | 11 => rfl
  | 12 => rfl
  | 13 => rfl
  | 14 => rfl
  | 15 => rfl
  | 16 => rfl
  | 17 => rfl
  | 18 => rfl
  | 19 => rfl
  | 20 => rfl
  | 21 => rfl
  | 22 => rfl
  | 23 => rfl
  | 24 => rfl
  | 25 => rfl
  | 26 => rfl
  | 27 => rfl
  | 28 => rfl
  | 29 => rfl
  | 30 => rfl
  | 31 => rfl
  | 32 => rfl
  | 33 => rfl
  | 34 => rfl
  | 35 => rfl
  | 36 => rfl
  | 37 => rfl
  | 38 => rfl
  | 39 => rfl
  | 40 => rfl
  | 41 => rfl
  | 42 => rfl
  | 43 => rfl
  | 44 => rfl
  | 45 => rfl
  | 46 => rfl
  | 47 => rfl
  | 48 => rfl
  | 49 => rfl
  | 50 => rfl
  | 51 => rfl
  | 52 => rfl
  | 53 => rfl
  | 54 => rfl
  | 55 => rfl
  | 56 => rfl
  | 57 => rfl
  | 58 => rfl
  | 59 => rfl
  | 60 => rfl
  | 61 => rfl
  | 62 => rfl
  | 63 => rfl
  | 64 => rfl
  | 65 => rfl
  | 66 => rfl
  | 67 => rfl
  | 68 => rfl
  | 69 => rfl
  | 70 => rfl
  | 71 => rfl
  | 72 => rfl
  | 73 => rfl
  | 74 => rfl
  | 75 => rfl
  | 76 => rfl
  | 77 => rfl
  | 78 => rfl
  | 79 => rfl
  | 80 => rfl
  | 81 => rfl
  | 82 => rfl
  | 83 => rfl
  | 84 => rfl
  | 85 => rfl
  | 86 => rfl
  | 87 => rfl
  | 88 => rfl
  | 89 => rfl
  | 90 => rfl
  | 91 => rfl
  | 92 => rfl
  | 93 => rfl
  | 94 => rfl
  | 95 => rfl
  | 96 => rfl
  | 97 => rfl
  | 98 => rfl
  | 99 => rfl
  | 100 => rfl
  | 101 => rfl
  | 102 => rfl
  | 103 => rfl
  | s + 104 => by rw [if_neg (by omega)]; rfl
theorem CC_bd : ∀ s, s = 12 ∨ (64 ≤ s ∧ s ≤ 83) → CC nb s = nb
  | 0, h => absurd h (by decide)
  | 1, h => absurd h (by decide)
  | 2, h => absurd h (by decide)
  | 3, h => absurd h (by decide)
  | 4, h => absurd h (by decide)
  | 5, h => absurd h (by decide)
  | 6, h => absurd h (by decide)
  | 7, h => absurd h (by decide)
  | 8, h => absurd h (by decide)
  | 9, h => absurd h (by decide)
  | 10, h => absurd h (by decide)
  | 11, h => absurd h (by decide)
  | 12, h => rfl
  | 13, h => absurd h (by decide)
  | 14, h => absurd h (by decide)
  | 15, h => absurd h (by decide)
  | 16, h => absurd h (by decide)
  | 17, h => absurd h (by decide)
  | 18, h => absurd h (by decide)
  | 19, h => absurd h (by decide)
  | 20, h => absurd h (by decide)
  | 21, h => absurd h (by decide)
  | 22, h => absurd h (by decide)
  | 23, h => absurd h (by decide)
  | 24, h => absurd h (by decide)
  | 25, h => absurd h (by decide)
  | 26, h => absurd h (by decide)
  | 27, h => absurd h (by decide)
  | 28, h => absurd h (by decide)
  | 29, h => absurd h (by decide)
  | 30, h => absurd h (by decide)
  | 31, h => absurd h (by decide)
  | 32, h => absurd h (by decide)
  | 33, h => absurd h (by decide)
  | 34, h => absurd h (by decide)
  | 35, h => absurd h (by decide)
  | 36, h => absurd h (by decide)
  | 37, h => absurd h (by decide)
  | 38, h => absurd h (by decide)
  | 39, h => absurd h (by decide)
  | 40, h => absurd h (by decide)
  | 41, h => absurd h (by decide)
  | 42, h => absurd h (by decide)
  | 43, h => absurd h (by decide)
  | 44, h => absurd h (by decide)
  | 45, h => absurd h (by decide)
  | 46, h => absurd h (by decide)
  | 47, h => absurd h (by decide)
  | 48, h => absurd h (by decide)
  | 49, h => absurd h (by decide)
  | 50, h => absurd h (by decide)
  | 51, h => absurd h (by decide)
  | 52, h => absurd h (by decide)
  | 53, h => absurd h (by decide)
  | 54, h => absurd h (by decide)
  | 55, h => absurd h (by decide)
  | 56, h => absurd h (by decide)
  | 57, h => absurd h (by decide)
  | 58, h => absurd h (by decide)
  | 59, h => absurd h (by decide)
  | 60, h => absurd h (by decide)
  | 61, h => absurd h (by decide)
  | 62, h => absurd h (by decide)
  | 63, h => absurd h (by decide)
  | 64, h => rfl
  | 65, h => rfl
  | 66, h => rfl
  | 67, h => rfl
  | 68, h => rfl
  | 69, h => rfl
  | 70, h => rfl
  | 71, h => rfl
  | 72, h => rfl
  | 73, h => rfl
  | 74, h => rfl
  | 75, h => rfl
  | 76, h => rfl
  | 77, h => rfl
  | 78, h => rfl
  | 79, h => rfl
  | 80, h => rfl
  | 81, h => rfl
  | 82, h => rfl
  | 83, h => rfl
  | 84, h => absurd h (by decide)
  | 85, h => absurd h (by decide)
  | 86, h => absurd h (by decide)
  | 87, h => absurd h (by decide)
  | 88, h => absurd h (by decide)
  | 89, h => absurd h (by decide)
  | 90, h => absurd h (by decide)
  | 91, h => absurd h (by decide)
  | 92, h => absurd h (by decide)
  | 93, h => absurd h (by decide)
  | 94, h => absurd h (by decide)
  | 95, h => absurd h (by decide)
  | 96, h => absurd h (by decide)
  | 97, h => absurd h (by decide)
  | 98, h => absurd h (by decide)
  | 99, h => absurd h (by decide)
  | 100, h => absurd h (by decide)
  | 101, h => absurd h (by decide)
  | 102, h => absurd h (by decide)
  | 103, h => absurd h (by decide)
  | s + 104, h => absurd h (by omega)
theorem RRq_r : ∀ s i k, ¬ (s = 13 ∧ k = 4) → RR ad b r' s i k = RR ad b r s i k
  | 0, _, _, _ => rfl
  | 1, _, _, _ => rfl
  | 2, _, _, _ => rfl
  | 3, _, _, _ => rfl
  | 4, _, _, _ => rfl
  | 5, _, _, _ => rfl
  | 6, _, _, _ => rfl
  | 7, _, _, _ => rfl
  | 8, _, _, _ => rfl
  | 9, _, _, _ => rfl
  | 10, _, _, _ => rfl
  | 11, _, _, _ => rfl
  | 12, _, _, _ => rfl
  | 13, _, 0, _ => rfl
  | 13, _, 1, _ => rfl
  | 13, _, 2, _ => rfl
  | 13, _, 3, _ => rfl
  | 13, _, 4, h => absurd ⟨rfl, rfl⟩ h
  | 13, _, 5, _ => rfl
  | 13, _, 6, _ => rfl
  | 13, _, 7, _ => rfl
  | 13, _, 8, _ => rfl
  | 13, _, 9, _ => rfl
  | 13, _, 10, _ => rfl
  | 13, _, 11, _ => rfl
  | 13, _, 12, _ => rfl
  | 13, _, 13, _ => rfl
  | 13, _, 14, _ => rfl
  | 13, _, 15, _ => rfl
  | 13, _, 16, _ => rfl
  | 13, _, 17, _ => rfl
  | 13, _, 18, _ => rfl
  | 13, _, 19, _ => rfl
  | 13, _, 20, _ => rfl
  | 13, _, 21, _ => rfl
  | 13, _, 22, _ => rfl
  | 13, _, 23, _ => rfl
  | 13, _, 24, _ => rfl
  | 13, _, 25, _ => rfl
  | 13, _, 26, _ => rfl
  | 13, _, 27, _ => rfl
  | 13, _, 28, _ => rfl
  | 13, _, 29, _ => rfl
  | 13, _, 30, _ => rfl
  | 13, _, 31, _ => rfl
  | 13, _, 32, _ => rfl
  | 13, _, 33, _ => rfl
  | 13, _, 34, _ => rfl
  | 13, _, 35, _ => rfl
  | 13, _, 36, _ => rfl
  | 13, _, 37, _ => rfl
  | 13, _, 38, _ => rfl
  | 13, _, 39, _ => rfl
  | 13, _, 40, _ => rfl
  | 13, _, 41, _ => rfl
  | 13, _, k + 42, _ => rfl
  | 14, _, _, _ => rfl
  | 15, _, _, _ => rfl
  | 16, _, _, _ => rfl
  | 17, _, _, _ => rfl
  | 18, _, _, _ => rfl
  | 19, _, _, _ => rfl
  | 20, _, _, _ => rfl
  | 21, _, _, _ => rfl
  | 22, _, _, _ => rfl
  | 23, _, _, _ => rfl
  | 24, _, _, _ => rfl
  | 25, _, _, _ => rfl
  | 26, _, _, _ => rfl
  | 27, _, _, _ => rfl
  | 28, _, _, _ => rfl
  | 29, _, _, _ => rfl
  | 30, _, _, _ => rfl
  | 31, _, _, _ => rfl
  | 32, _, _, _ => rfl
  | 33, _, _, _ => rfl
  | 34, _, _, _ => rfl
  | 35, _, _, _ => rfl
  | 36, _, _, _ => rfl
  | 37, _, _, _ => rfl
  | 38, _, _, _ => rfl
  | 39, _, _, _ => rfl
  | 40, _, _, _ => rfl
  | 41, _, _, _ => rfl
  | 42, _, _, _ => rfl
  | 43, _, _, _ => rfl
  | 44, _, _, _ => rfl
  | 45, _, _, _ => rfl
  | 46, _, _, _ => rfl
  | 47, _, _, _ => rfl
  | 48, _, _, _ => rfl
  | 49, _, _, _ => rfl
  | 50, _, _, _ => rfl
  | 51, _, _, _ => rfl
  | 52, _, _, _ => rfl
  | 53, _, _, _ => rfl
  | 54, _, _, _ => rfl
  | 55, _, _, _ => rfl
  | 56, _, _, _ => rfl
  | 57, _, _, _ => rfl
  | 58, _, _, _ => rfl
  | 59, _, _, _ => rfl
  | 60, _, _, _ => rfl
  | 61, _, _, _ => rfl
  | 62, _, _, _ => rfl
  | 63, _, _, _ => rfl
  | 64, _, _, _ => rfl
  | 65, _, _, _ => rfl
  | 66, _, _, _ => rfl
  | 67, _, _, _ => rfl
  | 68, _, _, _ => rfl
  | 69, _, _, _ => rfl
  | 70, _, _, _ => rfl
  | 71, _, _, _ => rfl
  | 72, _, _, _ => rfl
  | 73, _, _, _ => rfl
  | 74, _, _, _ => rfl
  | 75, _, _, _ => rfl
  | 76, _, _, _ => rfl
  | 77, _, _, _ => rfl
  | 78, _, _, _ => rfl
  | 79, _, _, _ => rfl
  | 80, _, _, _ => rfl
  | 81, _, _, _ => rfl
  | 82, _, _, _ => rfl
  | 83, _, _, _ => rfl
  | 84, _, _, _ => rfl
  | 85, _, _, _ => rfl
  | 86, _, _, _ => rfl
  | 87, _, _, _ => rfl
  | 88, _, _, _ => rfl
  | 89, _, _, _ => rfl
  | 90, _, _, _ => rfl
  | 91, _, _, _ => rfl
  | 92, _, _, _ => rfl
  | 93, _, _, _ => rfl
  | 94, _, _, _ => rfl
  | 95, _, _, _ => rfl
  | 96, _, _, _ => rfl
  | 97, _, _, _ => rfl
  | 98, _, _, _ => rfl
  | 99, _, _, _ => rfl
  | 100, _, _, _ => rfl
  | 101, _, _, _ => rfl
  | 102, _, _, _ => rfl
  | 103, _, _, _ => rfl
  | s + 104, _, _, _ => rfl
theorem RRq_b : ∀ s i k, ¬ (s = 13 ∧ k = 3) → RR ad b' r s i k = RR ad b r s i k
  | 0, _, _, _ => rfl
  | 1, _, _, _ => rfl
  | 2, _, _, _ => rfl
  | 3, _, _, _ => rfl
  | 4, _, _, _ => rfl
  | 5, _, _, _ => rfl
  | 6, _, _, _ => rfl
  | 7, _, _, _ => rfl
  | 8, _, _, _ => rfl
  | 9, _, _, _ => rfl
  | 10, _, _, _ => rfl
  | 11, _, _, _ => rfl
  | 12, _, _, _ => rfl
  | 13, _, 0, _ => rfl
  | 13, _, 1, _ => rfl
  | 13, _, 2, _ => rfl
  | 13, _, 3, h => absurd ⟨rfl, rfl⟩ h
  | 13, _, 4, _ => rfl
  | 13, _, 5, _ => rfl
  | 13, _, 6, _ => rfl
  | 13, _, 7, _ => rfl
  | 13, _, 8, _ => rfl
  | 13, _, 9, _ => rfl
  | 13, _, 10, _ => rfl
  | 13, _, 11, _ => rfl
  | 13, _, 12, _ => rfl
  | 13, _, 13, _ => rfl
  | 13, _, 14, _ => rfl
  | 13, _, 15, _ => rfl
  | 13, _, 16, _ => rfl
  | 13, _, 17, _ => rfl
  | 13, _, 18, _ => rfl
  | 13, _, 19, _ => rfl
  | 13, _, 20, _ => rfl
  | 13, _, 21, _ => rfl
  | 13, _, 22, _ => rfl
  | 13, _, 23, _ => rfl
  | 13, _, 24, _ => rfl
  | 13, _, 25, _ => rfl
  | 13, _, 26, _ => rfl
  | 13, _, 27, _ => rfl
  | 13, _, 28, _ => rfl
  | 13, _, 29, _ => rfl
  | 13, _, 30, _ => rfl
  | 13, _, 31, _ => rfl
  | 13, _, 32, _ => rfl
  | 13, _, 33, _ => rfl
  | 13, _, 34, _ => rfl
  | 13, _, 35, _ => rfl
  | 13, _, 36, _ => rfl
  | 13, _, 37, _ => rfl
  | 13, _, 38, _ => rfl
  | 13, _, 39, _ => rfl
  | 13, _, 40, _ => rfl
  | 13, _, 41, _ => rfl
  | 13, _, k + 42, _ => rfl
  | 14, _, _, _ => rfl
  | 15, _, _, _ => rfl
  | 16, _, _, _ => rfl
  | 17, _, _, _ => rfl
  | 18, _, _, _ => rfl
  | 19, _, _, _ => rfl
  | 20, _, _, _ => rfl
  | 21, _, _, _ => rfl
  | 22, _, _, _ => rfl
  | 23, _, _, _ => rfl
  | 24, _, _, _ => rfl
  | 25, _, _, _ => rfl
  | 26, _, _, _ => rfl
  | 27, _, _, _ => rfl
  | 28, _, _, _ => rfl
  | 29, _, _, _ => rfl
  | 30, _, _, _ => rfl
  | 31, _, _, _ => rfl
  | 32, _, _, _ => rfl
  | 33, _, _, _ => rfl
  | 34, _, _, _ => rfl
  | 35, _, _, _ => rfl
  | 36, _, _, _ => rfl
  | 37, _, _, _ => rfl
  | 38, _, _, _ => rfl
  | 39, _, _, _ => rfl
  | 40, _, _, _ => rfl
  | 41, _, _, _ => rfl
  | 42, _, _, _ => rfl
  | 43, _, _, _ => rfl
  | 44, _, _, _ => rfl
  | 45, _, _, _ => rfl
  | 46, _, _, _ => rfl
  | 47, _, _, _ => rfl
  | 48, _, _, _ => rfl
  | 49, _, _, _ => rfl
  | 50, _, _, _ => rfl
  | 51, _, _, _ => rfl
  | 52, _, _, _ => rfl
  | 53, _, _, _ => rfl
  | 54, _, _, _ => rfl
  | 55, _, _, _ => rfl
  | 56, _, _, _ => rfl
  | 57, _, _, _ => rfl
  | 58, _, _, _ => rfl
  | 59, _, _, _ => rfl
  | 60, _, _, _ => rfl
  | 61, _, _, _ => rfl
  | 62, _, _, _ => rfl
  | 63, _, _, _ => rfl
  | 64, _, _, _ => rfl
  | 65, _, _, _ => rfl
  | 66, _, _, _ => rfl
  | 67, _, _, _ => rfl
  | 68, _, _, _ => rfl
  | 69, _, _, _ => rfl
  | 70, _, _, _ => rfl
  | 71, _, _, _ => rfl
  | 72, _, _, _ => rfl
  | 73, _, _, _ => rfl
  | 74, _, _, _ => rfl
  | 75, _, _, _ => rfl
  | 76, _, _, _ => rfl
  | 77, _, _, _ => rfl
  | 78, _, _, _ => rfl
  | 79, _, _, _ => rfl
  | 80, _, _, _ => rfl
  | 81, _, _, _ => rfl
  | 82, _, _, _ => rfl
  | 83, _, _, _ => rfl
  | 84, _, _, _ => rfl
  | 85, _, _, _ => rfl
  | 86, _, _, _ => rfl
  | 87, _, _, _ => rfl
  | 88, _, _, _ => rfl
  | 89, _, _, _ => rfl
  | 90, _, _, _ => rfl
  | 91, _, _, _ => rfl
  | 92, _, _, _ => rfl
  | 93, _, _, _ => rfl
  | 94, _, _, _ => rfl
  | 95, _, _, _ => rfl
  | 96, _, _, _ => rfl
  | 97, _, _, _ => rfl
  | 98, _, _, _ => rfl
  | 99, _, _, _ => rfl
  | 100, _, _, _ => rfl
  | 101, _, _, _ => rfl
  | 102, _, _, _ => rfl
  | 103, _, _, _ => rfl
  | s + 104, _, _, _ => rfl

/-- the new border's first k arrays stand -/
def CBC (nb k s : Nat) : Nat := if s = 12 ∨ (64 ≤ s ∧ s < 64 + k) then nb + 1 else CC nb s
def CBR (ad : Nat → Nat → Nat) (b r : Option Nat) (nb k s i j : Nat) : Option Nat := if s = 12 ∧ i = nb ∧ 13 + k ≤ j then none else RR ad b r s i j
abbrev CB (ad : Nat → Nat → Nat) (nb k : Nat) (b r : Option Nat) (I : Nat → Nat → Nat → Int32) (L : Nat → Nat → Nat → Int64) : xM := (ad, CBC nb k, I, L, CBR ad b r nb k)
theorem CB_20 : CB ad nb 20 b r I L = MM ad (nb + 1) b r I L := by
  have e1 : CBC nb 20 = CC (nb + 1) := funext fun s => (CC_nb s).symm
  have e2 : CBR ad b r nb 20 = RR ad b r := by
    funext s i j
    unfold CBR
    by_cases h : s = 12 ∧ i = nb ∧ 13 + 20 ≤ j
    · rw [if_pos h, h.1, RR_12, if_neg (by omega)]
    · rw [if_neg h]
  show (ad, CBC nb 20, I, L, CBR ad b r nb 20) = (ad, CC (nb + 1), I, L, RR ad b r)
  rw [e1, e2]
def zU {α : Type} (z : α) (f : Nat → Nat → Nat → α) (g i : Nat) : Nat → Nat → Nat → α := fun a b c => if a = g ∧ b = i then z else f a b c
/-- k arrays more of the border nb, and nothing else -/
def NBR (nb k : Nat) (ad : Nat → Nat → Nat) (I : Nat → Nat → Nat → Int32) (L : Nat → Nat → Nat → Int64) (ad' : Nat → Nat → Nat) (I' : Nat → Nat → Nat → Int32) (L' : Nat → Nat → Nat → Int64) : Prop := (∀ s i, ¬ (64 ≤ s ∧ s < 64 + k ∧ i = nb) → ad' s i = ad s i) ∧ ((∀ s i, ¬ (64 ≤ s ∧ s < 64 + k ∧ i = nb) → I' s i = I s i) ∧ ∀ s j, 64 ≤ s → s < 64 + k → I' s nb j = 0) ∧ (∀ s i, ¬ (64 ≤ s ∧ s < 64 + k ∧ i = nb) → L' s i = L s i) ∧ ∀ s j, 64 ≤ s → s < 64 + k → L' s nb j = 0
theorem NBR.zero : NBR nb 0 ad I L ad I L := ⟨fun _ _ _ => rfl, ⟨fun _ _ _ => rfl, fun s j h1 h2 => absurd h2 (by omega)⟩, fun _ _ _ => rfl, fun s j h1 h2 => absurd h2 (by omega)⟩
theorem NBR.step {k q : Nat} {ad0 : Nat → Nat → Nat} {I0 : Nat → Nat → Nat → Int32} {L0 : Nat → Nat → Nat → Int64} (h : NBR nb k ad0 I0 L0 ad I L) : NBR nb (k + 1) ad0 I0 L0 (fun a b => if a = 64 + k ∧ b = nb then q else ad a b) (zU 0 I (64 + k) nb) (zU 0 L (64 + k) nb) := by
  refine ⟨fun s i hs => ?_, ⟨fun s i hs => ?_, fun s j h1 h2 => ?_⟩, fun s i hs => ?_, fun s j h1 h2 => ?_⟩
  · show (if _ then _ else _) = _
    rw [if_neg (by omega)]; exact h.1 s i (by omega)
  · funext j
    show (if _ then _ else _) = _
    rw [if_neg (by omega), h.2.1.1 s i (by omega)]
  · show (if _ then _ else _) = _
    by_cases e : s = 64 + k
    · rw [if_pos ⟨e, rfl⟩]
    · rw [if_neg (fun z => e z.1)]; exact h.2.1.2 s j h1 (by omega)
  · funext j
    show (if _ then _ else _) = _
    rw [if_neg (by omega), h.2.2.1 s i (by omega)]
  · show (if _ then _ else _) = _
    by_cases e : s = 64 + k
    · rw [if_pos ⟨e, rfl⟩]
    · rw [if_neg (fun z => e z.1)]; exact h.2.2.2 s j h1 (by omega)
theorem x_bstep {y : xY} {b1 b2 pc idx k t n : Nat} {ls : List (Nat × Option Value)} {st : List Value} {Q : xTg} {atype : ArrayType} {ad0 : Nat → Nat → Nat} {I0 : Nat → Nat → Nat → Int32} {L0 : Nat → Nat → Nat → Int64} (hk : k < 20) (hN : NBR nb k ad0 I0 L0 ad I L) (hdn : decode y.2.1 pc = .ok (.newarray atype, 2)) (hty : newarray.typeOf atype = xty t) (ht : t < 3) (hg : xsh (64 + k) = .inl (t, n)) (hn : n ≤ 2000) (harr : Cond.arrayClass (xty t) ∈ xTBL) (hdp : decode y.2.1 (pc + 2) = .ok (.putfield idx, 3)) (hf : xFS y.1.cls idx 12 (13 + k)) (hfin : xfin 12 (13 + k) = true) (hin : y.1.name = "<init>") (ht2 : (xft 12)[13 + k]? = some 2) (kk : ∀ ad' I' L', NBR nb (k + 1) ad0 I0 L0 ad' I' L' → X G y d (b1, b2) (pc + 2 + 3) ls st (CB ad' nb (k + 1) b r I' L') Q) : X G y d (b1 + 1, b2 + n) pc ls (.int (nI n) :: .ref (ad0 12 nb) :: st) (CB ad nb k b r I L) Q := by
  refine x_newarr hdn hty ht hg hn harr (fun q => ?_)
  have hC : CBC nb k (64 + k) = nb := by unfold CBC; rw [if_neg (by omega)]; exact CC_bd _ (by omega)
  have hN2 := hN.step (q := q)
  have hA : ∀ s i, ¬ (s = 64 + k ∧ i = nb) → (fun a b => if a = 64 + k ∧ b = nb then q else ad a b) s i = ad s i := fun s i h => if_neg h
  have hAq : (fun a b => if a = 64 + k ∧ b = nb then q else ad a b) (64 + k) nb = q := if_pos ⟨rfl, rfl⟩
  generalize (fun a b => if a = 64 + k ∧ b = nb then q else ad a b) = ad9 at hN2 hA hAq
  refine x_same (M' := (ad9, CBC nb (k + 1), zU 0 I (64 + k) nb, zU 0 L (64 + k) nb, CBR ad9 b r nb k)) (fun s => ?_) (fun s i hi => ?_) (fun s i hi => ?_) (fun s i hi => ?_) (fun s i hi => ?_) ?_
  · show CBC nb (k + 1) s = if s = 64 + k then CBC nb k (64 + k) + 1 else CBC nb k s
    by_cases e : s = 64 + k
    · rw [if_pos e, hC, e]; unfold CBC; rw [if_pos (by omega)]
    · rw [if_neg e]
      unfold CBC
      by_cases e2 : s = 12 ∨ (64 ≤ s ∧ s < 64 + k)
      · rw [if_pos e2, if_pos (by omega)]
      · rw [if_neg e2, if_neg (by omega)]
  · show ad9 s i = if s = 64 + k ∧ i = CBC nb k (64 + k) then q else ad s i
    rw [hC]
    by_cases e : s = 64 + k ∧ i = nb
    · rw [if_pos e, e.1, e.2]; exact hAq
    · rw [if_neg e]; exact hA s i e
  · funext j; show (if _ then _ else _) = (if s = 64 + k ∧ i = CBC nb k (64 + k) then _ else _); rw [hC]
  · funext j; show (if _ then _ else _) = (if s = 64 + k ∧ i = CBC nb k (64 + k) then _ else _); rw [hC]
  · funext j
    show CBR ad9 b r nb k s i j = if s = 64 + k ∧ i = CBC nb k (64 + k) then none else CBR ad b r nb k s i j
    rw [hC]
    by_cases e : s = 64 + k ∧ i = nb
    · rw [if_pos e]; unfold CBR; rw [if_neg (by omega)]; exact RR_ar s (by omega) (by omega)
    · rw [if_neg e]
      unfold CBR
      by_cases m : s = 12 ∧ i = nb ∧ 13 + k ≤ j
      · rw [if_pos m, if_pos m]
      · rw [if_neg m, if_neg m]
        by_cases h12 : s = 12
        · subst h12
          rw [RR_12, RR_12]
          by_cases j2 : 13 ≤ j ∧ j < 33
          · rw [if_pos j2, if_pos j2, hA _ _ (by omega)]
          · rw [if_neg j2, if_neg j2]
        · exact RR_ad (fun s i hs => hA s i (by omega)) h12
  · have h12 : ad0 12 nb = ad9 12 nb := (hN2.1 12 nb (by omega)).symm
    rw [h12]
    refine x_putRF (g := 12) (i := nb) (k := 13 + k) (v := some q) hf hdp rfl ht2 hfin hin (by show nb < CBC nb (k + 1) 12; unfold CBC; rw [if_pos (Or.inl rfl)]; omega) ?_
    have e : xu (CBR ad9 b r nb k) 12 nb (13 + k) (some q) = CBR ad9 b r nb (k + 1) := by
      funext s i j
      by_cases z : s = 12 ∧ i = nb ∧ j = 13 + k
      · obtain ⟨rfl, rfl, rfl⟩ := z
        rw [xu_s]; unfold CBR; rw [if_neg (by omega), RR_12, if_pos (by omega), Nat.add_sub_cancel_left, hAq]
      · rw [xu_n z]
        unfold CBR
        by_cases m : s = 12 ∧ i = nb ∧ 13 + k ≤ j
        · rw [if_pos m, if_pos (by omega)]
        · rw [if_neg m, if_neg (by omega)]
    rw [e]
    exact kk _ _ _ hN2

set_option maxRecDepth 100000 in
set_option maxHeartbeats 600000 in
theorem m_binit  : Mt G vX12_init (d + 1) (20, 250) [.ref (ad 12 nb)] (CB ad nb 0 b r I L) (qV (fun M' => ∃ ad' I' L', M' = MM ad' (nb + 1) b r I' L' ∧ NBR nb 20 ad I L ad' I' L')) := by
  have hN := NBR.zero (nb := nb) (ad := ad) (I := I) (L := L)
  refine x_start (by decide) (Nat.le_of_ble_eq_true rfl) ?_
  refine x_aload_n dX12_init_0 rfl ?_
  refine x_objinit dX12_init_1 (xm6 145 rfl rfl) (by decide) ?_
  refine x_aload_n dX12_init_4 rfl ?_
  refine x_iconst dX12_init_5 li_4 ?_
  refine x_bstep (k := 0) (b1 := 19) (b2 := 246) (t := 0) (n := 4) (by decide) hN dX12_init_6 rfl (by decide) rfl (by decide) (xm1 148 rfl rfl) dX12_init_8 fsX12_9 rfl rfl rfl (fun ad0 I0 L0 hN => ?_)
  refine x_aload_n dX12_init_11 rfl ?_
  refine x_bipush dX12_init_12 lb_6 ?_
  refine x_bstep (k := 1) (b1 := 18) (b2 := 240) (t := 0) (n := 6) (by decide) hN dX12_init_14 rfl (by decide) rfl (by decide) (xm1 148 rfl rfl) dX12_init_16 fsX12_15 rfl rfl rfl (fun ad1 I1 L1 hN => ?_)
  refine x_aload_n dX12_init_19 rfl ?_
  refine x_bipush dX12_init_20 lb_6 ?_
  refine x_bstep (k := 2) (b1 := 17) (b2 := 234) (t := 0) (n := 6) (by decide) hN dX12_init_22 rfl (by decide) rfl (by decide) (xm1 148 rfl rfl) dX12_init_24 fsX12_18 rfl rfl rfl (fun ad2 I2 L2 hN => ?_)
  refine x_aload_n dX12_init_27 rfl ?_
  refine x_iconst dX12_init_28 li_4 ?_
  refine x_bstep (k := 3) (b1 := 16) (b2 := 230) (t := 0) (n := 4) (by decide) hN dX12_init_29 rfl (by decide) rfl (by decide) (xm1 148 rfl rfl) dX12_init_31 fsX12_21 rfl rfl rfl (fun ad3 I3 L3 hN => ?_)
  refine x_aload_n dX12_init_34 rfl ?_
  refine x_bipush dX12_init_35 lb_6 ?_
  refine x_bstep (k := 4) (b1 := 15) (b2 := 224) (t := 0) (n := 6) (by decide) hN dX12_init_37 rfl (by decide) rfl (by decide) (xm1 148 rfl rfl) dX12_init_39 fsX12_24 rfl rfl rfl (fun ad4 I4 L4 hN => ?_)
  refine x_aload_n dX12_init_42 rfl ?_
  refine x_bipush dX12_init_43 lb_6 ?_
  refine x_bstep (k := 5) (b1 := 14) (b2 := 218) (t := 0) (n := 6) (by decide) hN dX12_init_45 rfl (by decide) rfl (by decide) (xm1 148 rfl rfl) dX12_init_47 fsX12_27 rfl rfl rfl (fun ad5 I5 L5 hN => ?_)
  refine x_aload_n dX12_init_50 rfl ?_
  refine x_bipush dX12_init_51 lb_36 ?_
  refine x_bstep (k := 6) (b1 := 13) (b2 := 182) (t := 0) (n := 36) (by decide) hN dX12_init_53 rfl (by decide) rfl (by decide) (xm1 148 rfl rfl) dX12_init_55 fsX12_30 rfl rfl rfl (fun ad6 I6 L6 hN => ?_)
  refine x_aload_n dX12_init_58 rfl ?_
  refine x_bipush dX12_init_59 lb_36 ?_
  refine x_bstep (k := 7) (b1 := 12) (b2 := 146) (t := 0) (n := 36) (by decide) hN dX12_init_61 rfl (by decide) rfl (by decide) (xm1 148 rfl rfl) dX12_init_63 fsX12_33 rfl rfl rfl (fun ad7 I7 L7 hN => ?_)
  refine x_aload_n dX12_init_66 rfl ?_
  refine x_iconst dX12_init_67 li_4 ?_
  refine x_bstep (k := 8) (b1 := 11) (b2 := 142) (t := 0) (n := 4) (by decide) hN dX12_init_68 rfl (by decide) rfl (by decide) (xm1 148 rfl rfl) dX12_init_70 fsX12_36 rfl rfl rfl (fun ad8 I8 L8 hN => ?_)
  refine x_aload_n dX12_init_73 rfl ?_
  refine x_iconst dX12_init_74 li_4 ?_
  refine x_bstep (k := 9) (b1 := 10) (b2 := 138) (t := 0) (n := 4) (by decide) hN dX12_init_75 rfl (by decide) rfl (by decide) (xm1 148 rfl rfl) dX12_init_77 fsX12_39 rfl rfl rfl (fun ad9 I9 L9 hN => ?_)
  refine x_aload_n dX12_init_80 rfl ?_
  refine x_iconst dX12_init_81 li_4 ?_
  refine x_bstep (k := 10) (b1 := 9) (b2 := 134) (t := 0) (n := 4) (by decide) hN dX12_init_82 rfl (by decide) rfl (by decide) (xm1 148 rfl rfl) dX12_init_84 fsX12_42 rfl rfl rfl (fun ad10 I10 L10 hN => ?_)
  refine x_aload_n dX12_init_87 rfl ?_
  refine x_bipush dX12_init_88 lb_24 ?_
  refine x_bstep (k := 11) (b1 := 8) (b2 := 110) (t := 0) (n := 24) (by decide) hN dX12_init_90 rfl (by decide) rfl (by decide) (xm1 148 rfl rfl) dX12_init_92 fsX12_45 rfl rfl rfl (fun ad11 I11 L11 hN => ?_)
  refine x_aload_n dX12_init_95 rfl ?_
  refine x_iconst dX12_init_96 li_4 ?_
  refine x_bstep (k := 12) (b1 := 7) (b2 := 106) (t := 0) (n := 4) (by decide) hN dX12_init_97 rfl (by decide) rfl (by decide) (xm1 148 rfl rfl) dX12_init_99 fsX12_48 rfl rfl rfl (fun ad12 I12 L12 hN => ?_)
  refine x_aload_n dX12_init_102 rfl ?_
  refine x_bipush dX12_init_103 lb_20 ?_
  refine x_bstep (k := 13) (b1 := 6) (b2 := 86) (t := 0) (n := 20) (by decide) hN dX12_init_105 rfl (by decide) rfl (by decide) (xm1 148 rfl rfl) dX12_init_107 fsX12_51 rfl rfl rfl (fun ad13 I13 L13 hN => ?_)
  refine x_aload_n dX12_init_110 rfl ?_
  refine x_iconst dX12_init_111 li_4 ?_
  refine x_bstep (k := 14) (b1 := 5) (b2 := 82) (t := 0) (n := 4) (by decide) hN dX12_init_112 rfl (by decide) rfl (by decide) (xm1 148 rfl rfl) dX12_init_114 fsX12_54 rfl rfl rfl (fun ad14 I14 L14 hN => ?_)
  refine x_aload_n dX12_init_117 rfl ?_
  refine x_iconst dX12_init_118 li_4 ?_
  refine x_bstep (k := 15) (b1 := 4) (b2 := 78) (t := 0) (n := 4) (by decide) hN dX12_init_119 rfl (by decide) rfl (by decide) (xm1 148 rfl rfl) dX12_init_121 fsX12_57 rfl rfl rfl (fun ad15 I15 L15 hN => ?_)
  refine x_aload_n dX12_init_124 rfl ?_
  refine x_bipush dX12_init_125 lb_6 ?_
  refine x_bstep (k := 16) (b1 := 3) (b2 := 72) (t := 0) (n := 6) (by decide) hN dX12_init_127 rfl (by decide) rfl (by decide) (xm1 148 rfl rfl) dX12_init_129 fsX12_60 rfl rfl rfl (fun ad16 I16 L16 hN => ?_)
  refine x_aload_n dX12_init_132 rfl ?_
  refine x_bipush dX12_init_133 lb_24 ?_
  refine x_bstep (k := 17) (b1 := 2) (b2 := 48) (t := 2) (n := 24) (by decide) hN dX12_init_135 rfl (by decide) rfl (by decide) (xm1 185 rfl rfl) dX12_init_137 fsX12_63 rfl rfl rfl (fun ad17 I17 L17 hN => ?_)
  refine x_aload_n dX12_init_140 rfl ?_
  refine x_bipush dX12_init_141 lb_24 ?_
  refine x_bstep (k := 18) (b1 := 1) (b2 := 24) (t := 0) (n := 24) (by decide) hN dX12_init_143 rfl (by decide) rfl (by decide) (xm1 148 rfl rfl) dX12_init_145 fsX12_67 rfl rfl rfl (fun ad18 I18 L18 hN => ?_)
  refine x_aload_n dX12_init_148 rfl ?_
  refine x_bipush dX12_init_149 lb_24 ?_
  refine x_bstep (k := 19) (b1 := 0) (b2 := 0) (t := 0) (n := 24) (by decide) hN dX12_init_151 rfl (by decide) rfl (by decide) (xm1 148 rfl rfl) dX12_init_153 fsX12_70 rfl rfl rfl (fun ad19 I19 L19 hN => ?_)
  refine x_vret dX12_init_156 rfl ?_
  exact ⟨rfl, _, _, _, CB_20, hN⟩
end M49
