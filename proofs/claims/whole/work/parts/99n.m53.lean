section M53
/-- whither a reference points, once all is made -/
def TGL : List (Nat → Nat → Option (Nat × Nat)) := [fun i k => match k with | 0 => some (2, 0) | 1 => some (44, 0) | 4 => some (45, 0) | 5 => some (42, 0) | 7 => some (46, 0) | _ => none, fun i k => match k with | 0 => some (2, 0) | 1 => some (41, 0) | _ => none, fun i k => match k with | 0 => some (16, i) | 1 => some (17, i) | 2 => some (18, i) | 3 => some (19, i) | 4 => some (20, i) | 5 => some (21, i) | 6 => some (22, i) | 7 => some (30, i) | 8 => some (32, i) | 9 => some (23, i) | 10 => some (24, i) | 11 => some (25, i) | 12 => some (34, i) | 13 => some (26, i) | 14 => some (36, i) | 15 => some (27, i) | 16 => some (28, i) | 17 => some (29, i) | _ => none, fun i k => match k with | 0 => some (2, 0) | 1 => some (1, 0) | 2 => some (10, 0) | 5 => some (62, 0) | _ => none, fun i k => match k with | 3 => some (43, i) | _ => none, fun i k => match k with | 0 => some (2, 0) | 1 => some (9, 0) | 3 => some (60, 0) | 4 => some (61, 0) | _ => none, fun i k => match k with | 0 => some (2, 1) | 3 => some (7, 0) | 4 => some (38, 0) | 5 => some (39, 0) | 6 => some (40, 0) | _ => none, fun i k => match k with | 0 => some (14, 0) | _ => none, fun i k => match k with | 0 => some (2, 0) | 1 => some (1, 0) | 6 => some (56, 0) | 7 => some (57, 0) | 8 => some (58, 0) | _ => none, fun i k => match k with | 0 => some (2, 0) | 1 => some (1, 0) | 2 => some (0, 0) | 3 => some (47, 0) | _ => none, fun i k => match k with | 0 => some (2, 0) | 1 => some (1, 0) | 3 => some (48, 0) | 4 => some (49, 0) | 5 => some (51, 0) | 6 => some (53, 0) | 7 => some (54, 0) | 8 => some (55, 0) | _ => none, fun i k => match k with | 0 => some (14, 0) | 2 => some (2, 0) | 3 => some (6, 0) | 4 => some (1, 0) | 5 => some (0, 0) | 6 => some (9, 0) | 7 => some (10, 0) | 8 => some (8, 0) | 9 => some (5, 0) | 10 => some (3, 0) | 11 => some (15, 0) | _ => none, fun i k => match k with | 13 => some (64, i) | 14 => some (65, i) | 15 => some (66, i) | 16 => some (67, i) | 17 => some (68, i) | 18 => some (69, i) | 19 => some (70, i) | 20 => some (71, i) | 21 => some (72, i) | 22 => some (73, i) | 23 => some (74, i) | 24 => some (75, i) | 25 => some (76, i) | 26 => some (77, i) | 27 => some (78, i) | 28 => some (79, i) | 29 => some (80, i) | 30 => some (81, i) | 31 => some (82, i) | 32 => some (83, i) | _ => none, fun i k => match k with | 5 => some (84, 0) | 16 => some (85, 0) | 17 => some (86, 0) | 18 => some (87, 0) | 21 => some (88, 0) | 22 => some (89, 0) | 23 => some (90, 0) | 24 => some (91, 0) | 25 => some (92, 0) | 26 => some (93, 0) | 27 => some (94, 0) | 28 => some (95, 0) | 29 => some (96, 0) | 30 => some (97, 0) | 32 => some (98, 0) | 33 => some (99, 0) | 38 => some (100, 0) | 39 => some (101, 0) | 40 => some (102, 0) | _ => none, fun _ _ => none, fun _ _ => none, fun _ _ => none, fun _ _ => none, fun _ _ => none, fun _ _ => none, fun _ _ => none, fun _ _ => none, fun _ _ => none, fun _ _ => none, fun _ _ => none, fun _ _ => none, fun _ _ => none, fun _ _ => none, fun _ _ => none, fun _ _ => none, fun i k => if k < 6 then some (31, k + 6 * i) else none, fun _ _ => none, fun i k => if k < 6 then some (33, k + 6 * i) else none, fun _ _ => none, fun i k => if k < 4 then some (35, k + 4 * i) else none, fun _ _ => none, fun i k => if k < 4 then some (37, k + 4 * i) else none, fun _ _ => none, fun _ _ => none, fun _ _ => none, fun _ _ => none, fun _ _ => none, fun _ _ => none, fun _ _ => none, fun i k => if k < 4 then some (4, k) else none, fun i k => if k < 16 then some (4, k + 4) else none, fun i k => if k < 12 then some (4, k + 20) else none, fun _ _ => none, fun _ _ => none, fun i k => if k < 65 then some (50, k) else none, fun _ _ => none, fun i k => if k < 65 then some (52, k) else none, fun _ _ => none, fun _ _ => none, fun _ _ => none, fun _ _ => none, fun _ _ => none, fun _ _ => none, fun i k => if k < 4 then some (59, k) else none, fun _ _ => none, fun _ _ => none, fun _ _ => none, fun i k => if k < 65 then some (63, k) else none, fun _ _ => none, fun _ _ => none, fun _ _ => none, fun _ _ => none, fun _ _ => none, fun _ _ => none, fun _ _ => none, fun _ _ => none, fun _ _ => none, fun _ _ => none, fun _ _ => none, fun _ _ => none, fun _ _ => none, fun _ _ => none, fun _ _ => none, fun _ _ => none, fun _ _ => none, fun _ _ => none, fun _ _ => none, fun _ _ => none, fun _ _ => none, fun _ _ => none, fun _ _ => none, fun _ _ => none, fun _ _ => none, fun _ _ => none, fun _ _ => none, fun _ _ => none, fun _ _ => none, fun _ _ => none, fun _ _ => none, fun _ _ => none, fun _ _ => none, fun _ _ => none, fun _ _ => none, fun _ _ => none, fun _ _ => none, fun _ _ => none, fun _ _ => none, fun _ _ => none, fun _ _ => none]
def tgR (s i k : Nat) : Option (Nat × Nat) := TGL.getD s (fun _ _ => none) i k
/-- what is made, in its order: (0, s, ..) a cell of s; (2, s, t, n) a row of s with n of t; (4, s, i, k) a reference is set; (5, s, i, k) -1 is set -/
def evL : List (Nat × Nat × Nat × Nat) := [(0, 11, 0, 0), (0, 14, 0, 0), (4, 11, 0, 0), (0, 2, 0, 0), (0, 16, 0, 0), (4, 2, 0, 0), (0, 17, 0, 0), (4, 2, 0, 1), (0, 18, 0, 0), (4, 2, 0, 2), (0, 19, 0, 0), (4, 2, 0, 3), (0, 20, 0, 0), (4, 2, 0, 4), (0, 21, 0, 0), (4, 2, 0, 5), (0, 22, 0, 0), (4, 2, 0, 6), (2, 30, 31, 6), (4, 2, 0, 7), (2, 32, 33, 6), (4, 2, 0, 8), (0, 23, 0, 0), (4, 2, 0, 9), (0, 24, 0, 0), (4, 2, 0, 10), (0, 25, 0, 0), (4, 2, 0, 11), (2, 34, 35, 4), (4, 2, 0, 12), (0, 26, 0, 0), (4, 2, 0, 13), (2, 36, 37, 4), (4, 2, 0, 14), (0, 27, 0, 0), (4, 2, 0, 15), (0, 28, 0, 0), (4, 2, 0, 16), (0, 29, 0, 0), (4, 2, 0, 17), (4, 11, 0, 2), (0, 6, 0, 0), (0, 2, 0, 0), (0, 16, 0, 0), (4, 2, 1, 0), (0, 17, 0, 0), (4, 2, 1, 1), (0, 18, 0, 0), (4, 2, 1, 2), (0, 19, 0, 0), (4, 2, 1, 3), (0, 20, 0, 0), (4, 2, 1, 4), (0, 21, 0, 0), (4, 2, 1, 5), (0, 22, 0, 0), (4, 2, 1, 6), (2, 30, 31, 6), (4, 2, 1, 7), (2, 32, 33, 6), (4, 2, 1, 8), (0, 23, 0, 0), (4, 2, 1, 9), (0, 24, 0, 0), (4, 2, 1, 10), (0, 25, 0, 0), (4, 2, 1, 11), (2, 34, 35, 4), (4, 2, 1, 12), (0, 26, 0, 0), (4, 2, 1, 13), (2, 36, 37, 4), (4, 2, 1, 14), (0, 27, 0, 0), (4, 2, 1, 15), (0, 28, 0, 0), (4, 2, 1, 16), (0, 29, 0, 0), (4, 2, 1, 17), (4, 6, 0, 0), (0, 38, 0, 0), (4, 6, 0, 4), (0, 39, 0, 0), (4, 6, 0, 5), (0, 40, 0, 0), (4, 6, 0, 6), (0, 7, 0, 0), (4, 7, 0, 0), (4, 6, 0, 3), (4, 11, 0, 3), (0, 1, 0, 0), (0, 41, 0, 0), (4, 1, 0, 1), (4, 1, 0, 0), (4, 11, 0, 4), (0, 0, 0, 0), (0, 44, 0, 0), (0, 4, 0, 0), (0, 43, 0, 0), (4, 4, 0, 3), (4, 44, 0, 0), (0, 4, 0, 0), (0, 43, 0, 0), (4, 4, 1, 3), (4, 44, 0, 1), (0, 4, 0, 0), (0, 43, 0, 0), (4, 4, 2, 3), (4, 44, 0, 2), (0, 4, 0, 0), (0, 43, 0, 0), (4, 4, 3, 3), (4, 44, 0, 3), (4, 0, 0, 1), (0, 45, 0, 0), (0, 4, 0, 0), (0, 43, 0, 0), (4, 4, 4, 3), (4, 45, 0, 0), (0, 4, 0, 0), (0, 43, 0, 0), (4, 4, 5, 3), (4, 45, 0, 1), (0, 4, 0, 0), (0, 43, 0, 0), (4, 4, 6, 3), (4, 45, 0, 2), (0, 4, 0, 0), (0, 43, 0, 0), (4, 4, 7, 3), (4, 45, 0, 3), (0, 4, 0, 0), (0, 43, 0, 0), (4, 4, 8, 3), (4, 45, 0, 4), (0, 4, 0, 0), (0, 43, 0, 0), (4, 4, 9, 3), (4, 45, 0, 5), (0, 4, 0, 0), (0, 43, 0, 0), (4, 4, 10, 3), (4, 45, 0, 6), (0, 4, 0, 0), (0, 43, 0, 0), (4, 4, 11, 3), (4, 45, 0, 7), (0, 4, 0, 0), (0, 43, 0, 0), (4, 4, 12, 3), (4, 45, 0, 8), (0, 4, 0, 0), (0, 43, 0, 0), (4, 4, 13, 3), (4, 45, 0, 9), (0, 4, 0, 0), (0, 43, 0, 0), (4, 4, 14, 3), (4, 45, 0, 10), (0, 4, 0, 0), (0, 43, 0, 0), (4, 4, 15, 3), (4, 45, 0, 11), (0, 4, 0, 0), (0, 43, 0, 0), (4, 4, 16, 3), (4, 45, 0, 12), (0, 4, 0, 0), (0, 43, 0, 0), (4, 4, 17, 3), (4, 45, 0, 13), (0, 4, 0, 0), (0, 43, 0, 0), (4, 4, 18, 3), (4, 45, 0, 14), (0, 4, 0, 0), (0, 43, 0, 0), (4, 4, 19, 3), (4, 45, 0, 15), (4, 0, 0, 4), (0, 42, 0, 0), (4, 0, 0, 5), (0, 46, 0, 0), (0, 4, 0, 0), (0, 43, 0, 0), (4, 4, 20, 3), (4, 46, 0, 0), (0, 4, 0, 0), (0, 43, 0, 0), (4, 4, 21, 3), (4, 46, 0, 1), (0, 4, 0, 0), (0, 43, 0, 0), (4, 4, 22, 3), (4, 46, 0, 2), (0, 4, 0, 0), (0, 43, 0, 0), (4, 4, 23, 3), (4, 46, 0, 3), (0, 4, 0, 0), (0, 43, 0, 0), (4, 4, 24, 3), (4, 46, 0, 4), (0, 4, 0, 0), (0, 43, 0, 0), (4, 4, 25, 3), (4, 46, 0, 5), (0, 4, 0, 0), (0, 43, 0, 0), (4, 4, 26, 3), (4, 46, 0, 6), (0, 4, 0, 0), (0, 43, 0, 0), (4, 4, 27, 3), (4, 46, 0, 7), (0, 4, 0, 0), (0, 43, 0, 0), (4, 4, 28, 3), (4, 46, 0, 8), (0, 4, 0, 0), (0, 43, 0, 0), (4, 4, 29, 3), (4, 46, 0, 9), (0, 4, 0, 0), (0, 43, 0, 0), (4, 4, 30, 3), (4, 46, 0, 10), (0, 4, 0, 0), (0, 43, 0, 0), (4, 4, 31, 3), (4, 46, 0, 11), (4, 0, 0, 7), (4, 0, 0, 0), (4, 11, 0, 5), (0, 9, 0, 0), (0, 47, 0, 0), (4, 9, 0, 3), (4, 9, 0, 0), (4, 9, 0, 1), (4, 9, 0, 2), (4, 11, 0, 6), (0, 10, 0, 0), (0, 48, 0, 0), (4, 10, 0, 3), (2, 49, 50, 65), (4, 10, 0, 4), (2, 51, 52, 65), (4, 10, 0, 5), (0, 53, 0, 0), (4, 10, 0, 6), (0, 54, 0, 0), (4, 10, 0, 7), (0, 55, 0, 0), (4, 10, 0, 8), (4, 10, 0, 0), (4, 10, 0, 1), (4, 11, 0, 7), (0, 8, 0, 0), (0, 56, 0, 0), (4, 8, 0, 6), (0, 57, 0, 0), (4, 8, 0, 7), (2, 58, 59, 4), (4, 8, 0, 8), (4, 8, 0, 0), (4, 8, 0, 1), (4, 11, 0, 8), (0, 5, 0, 0), (0, 60, 0, 0), (4, 5, 0, 3), (0, 61, 0, 0), (4, 5, 0, 4), (4, 5, 0, 0), (4, 5, 0, 1), (4, 11, 0, 9), (0, 3, 0, 0), (2, 62, 63, 65), (4, 3, 0, 5), (4, 3, 0, 0), (4, 3, 0, 1), (4, 3, 0, 2), (4, 11, 0, 10), (0, 15, 0, 0), (4, 11, 0, 11), (5, 11, 0, 14), (0, 13, 0, 0), (5, 13, 0, 2), (0, 84, 0, 0), (4, 13, 0, 5), (0, 85, 0, 0), (4, 13, 0, 16), (0, 86, 0, 0), (4, 13, 0, 17), (0, 87, 0, 0), (4, 13, 0, 18), (0, 88, 0, 0), (4, 13, 0, 21), (0, 89, 0, 0), (4, 13, 0, 22), (0, 90, 0, 0), (4, 13, 0, 23), (0, 91, 0, 0), (4, 13, 0, 24), (0, 92, 0, 0), (4, 13, 0, 25), (0, 93, 0, 0), (4, 13, 0, 26), (0, 94, 0, 0), (4, 13, 0, 27), (0, 95, 0, 0), (4, 13, 0, 28), (0, 96, 0, 0), (4, 13, 0, 29), (0, 97, 0, 0), (4, 13, 0, 30), (0, 98, 0, 0), (4, 13, 0, 32), (0, 99, 0, 0), (4, 13, 0, 33), (0, 100, 0, 0), (4, 13, 0, 38), (0, 101, 0, 0), (4, 13, 0, 39), (0, 102, 0, 0), (4, 13, 0, 40), (0, 103, 0, 0)]

def ecn (e : Nat × Nat × Nat × Nat) (s : Nat) : Nat := if e.1 = 0 then (if e.2.1 = s then 1 else 0) else if e.1 = 2 then (if e.2.1 = s then 1 else if e.2.2.1 = s then e.2.2.2 else 0) else 0
def cnE (n s : Nat) : Nat := ((evL.take n).map (fun e => ecn e s)).sum
def isM (s : Nat) : Bool := s == 30 || s == 32 || s == 34 || s == 36 || s == 49 || s == 51 || s == 58 || s == 62
def sst (n s i k : Nat) : Bool := isM s || (evL.take n).any (fun e => e == (4, s, i, k))
def sng (n s i k : Nat) : Bool := (evL.take n).any (fun e => e == (5, s, i, k))
/-- nothing has been set yet in the next cell of s -/
def sfr (n s i : Nat) : Bool := (evL.take n).all (fun e => !((e.1 == 4 || e.1 == 5) && e.2.1 == s && e.2.2.1 == i))
theorem ev_take {n : Nat} {e : Nat × Nat × Nat × Nat} (h : evL[n]? = some e) : evL.take (n + 1) = evL.take n ++ [e] := by rw [List.take_add_one, h]; rfl
theorem cnt_s {n s : Nat} {e : Nat × Nat × Nat × Nat} (h : evL[n]? = some e) : cnE (n + 1) s = cnE n s + ecn e s := by
  unfold cnE
  rw [ev_take h, List.map_append, List.sum_append]
  simp
theorem sst_s {n s i k : Nat} {e : Nat × Nat × Nat × Nat} (h : evL[n]? = some e) : sst (n + 1) s i k = (sst n s i k || e == (4, s, i, k)) := by
  unfold sst
  rw [ev_take h, List.any_append]
  simp [Bool.or_assoc]
theorem sng_s {n s i k : Nat} {e : Nat × Nat × Nat × Nat} (h : evL[n]? = some e) : sng (n + 1) s i k = (sng n s i k || e == (5, s, i, k)) := by
  unfold sng
  rw [ev_take h, List.any_append]
  simp
theorem sfr_st {n s i k : Nat} (hM : isM s = false) (h : sfr n s i = true) : sst n s i k = false := by
  unfold sst
  rw [hM, Bool.false_or, List.any_eq_false]
  intro e he z
  have h1 := List.all_eq_true.mp h e he
  have h2 : e = (4, s, i, k) := eq_of_beq z
  rw [h2] at h1
  simp at h1
theorem sfr_ng {n s i k : Nat} (h : sfr n s i = true) : sng n s i k = false := by
  unfold sng
  rw [List.any_eq_false]
  intro e he z
  have h1 := List.all_eq_true.mp h e he
  have h2 : e = (5, s, i, k) := eq_of_beq z
  rw [h2] at h1
  simp at h1
def GSt (n : Nat) (M : xM) : Prop := (∀ s, M.2.1 s = cnE n s) ∧ (∀ s i, i < cnE n s → ∀ k, M.2.2.1 s i k = (if sng n s i k = true then -1 else 0) ∧ M.2.2.2.1 s i k = 0) ∧ ∀ s i k, i < cnE n s → M.2.2.2.2 s i k = (if sst n s i k = true then (tgR s i k).map (fun q => M.1 q.1 q.2) else none) ∧ (sst n s i k = true → ∀ q, tgR s i k = some q → q.2 < cnE n q.1)
/-- the addresses stand -/
def KA (n : Nat) (M M' : xM) : Prop := ∀ s i, i < cnE n s → M'.1 s i = M.1 s i
variable {n n' : Nat} {M M' M2 : xM} {g q i k : Nat}
theorem KA.rf : KA n M M := fun _ _ _ => rfl
theorem KA.tr (h1 : KA n M M') (h2 : KA n' M' M2) (hn : ∀ s, cnE n s ≤ cnE n' s) : KA n M M2 := fun s i h => (h2 s i (Nat.lt_of_lt_of_le h (hn s))).trans (h1 s i h)
theorem cnE_le {n s : Nat} : cnE n s ≤ cnE (n + 1) s := by
  cases h : evL[n]? with
  | none => unfold cnE; rw [List.take_of_length_le (List.getElem?_eq_none_iff.mp h), List.take_of_length_le (Nat.le_succ_of_le (List.getElem?_eq_none_iff.mp h))]; exact Nat.le_refl _
  | some e => rw [cnt_s h]; exact Nat.le_add_right _ _
theorem cnt_mono {s : Nat} : ∀ (k n : Nat), cnE n s ≤ cnE (n + k) s
  | 0, n => Nat.le_refl _
  | k + 1, n => Nat.le_trans (cnt_mono k n) cnE_le
theorem cnt_mn {s : Nat} (h : n ≤ n') : cnE n s ≤ cnE n' s := by
  obtain ⟨k, rfl⟩ := Nat.le.dest h
  exact cnt_mono k n
theorem gs_new (hev : evL[n]? = some (0, g, 0, 0)) (hM : isM g = false) (hfr : sfr n g (cnE n g) = true) (h : GSt n M) : GSt (n + 1) (xnew M g q) ∧ KA n M (xnew M g q) ∧ (xnew M g q).1 g (cnE n g) = q := by
  have hC : M.2.1 g = cnE n g := h.1 g
  have hA : ∀ s i, ¬ (s = g ∧ i = cnE n g) → (xnew M g q).1 s i = M.1 s i := fun s i z => by
    show (if s = g ∧ i = M.2.1 g then q else M.1 s i) = _
    rw [hC, if_neg z]
  have hct : ∀ s, cnE (n + 1) s = cnE n s + if g = s then 1 else 0 := fun s => cnt_s hev
  have hst : ∀ s i k, sst (n + 1) s i k = sst n s i k := fun s i k => by rw [sst_s hev, show (((0, g, 0, 0) : Nat × Nat × Nat × Nat) == (4, s, i, k)) = false from rfl, Bool.or_false]
  have hng : ∀ s i k, sng (n + 1) s i k = sng n s i k := fun s i k => by rw [sng_s hev, show (((0, g, 0, 0) : Nat × Nat × Nat × Nat) == (5, s, i, k)) = false from rfl, Bool.or_false]
  refine ⟨⟨fun s => ?_, fun s i hi k => ?_, fun s i k hi => ?_⟩, fun s i hi => hA s i (fun z => by rw [z.1, z.2] at hi; exact Nat.lt_irrefl _ hi), ?_⟩
  · show (if s = g then M.2.1 g + 1 else M.2.1 s) = _
    rw [hct]
    by_cases z : s = g
    · rw [if_pos z, if_pos z.symm, hC, z]
    · rw [if_neg z, if_neg (Ne.symm z), h.1 s]; rfl
  · rw [hct] at hi
    show (if s = g ∧ i = M.2.1 g then 0 else M.2.2.1 s i k) = _ ∧ (if s = g ∧ i = M.2.1 g then 0 else M.2.2.2.1 s i k) = _
    rw [hC, hng]
    by_cases z : s = g ∧ i = cnE n g
    · rw [if_pos z, if_pos z, z.1, z.2, sfr_ng hfr]; exact ⟨rfl, rfl⟩
    · rw [if_neg z, if_neg z]
      refine h.2.1 s i ?_ k
      by_cases z2 : g = s
      · rw [if_pos z2] at hi; have : i ≠ cnE n s := fun y => z ⟨z2.symm, by rw [y, z2]⟩; omega
      · rw [if_neg z2] at hi; exact hi
  · rw [hct] at hi
    have hlv : ¬ (s = g ∧ i = cnE n g) → i < cnE n s := fun z => by
      by_cases z2 : g = s
      · rw [if_pos z2] at hi; have : i ≠ cnE n s := fun y => z ⟨z2.symm, by rw [y, z2]⟩; omega
      · rw [if_neg z2] at hi; exact hi
    show (if s = g ∧ i = M.2.1 g then none else M.2.2.2.2 s i k) = _ ∧ _
    rw [hC, hst]
    by_cases z : s = g ∧ i = cnE n g
    · rw [if_pos z, z.1, z.2, sfr_st hM hfr]
      exact ⟨rfl, fun y => by cases y⟩
    · rw [if_neg z]
      obtain ⟨h1, h2⟩ := h.2.2 s i k (hlv z)
      refine ⟨?_, fun y q2 hq2 => Nat.lt_of_lt_of_le (h2 y q2 hq2) cnE_le⟩
      rw [h1]
      by_cases y : sst n s i k = true
      · rw [if_pos y, if_pos y]
        cases ht : tgR s i k with
        | none => rfl
        | some q2 =>
          have := h2 y q2 ht
          exact congrArg some (hA q2.1 q2.2 (fun z => by rw [z.2, z.1] at this; exact Nat.lt_irrefl _ this)).symm
      · rw [if_neg y, if_neg y]
  · show (if g = g ∧ cnE n g = M.2.1 g then q else _) = q
    rw [hC, if_pos ⟨rfl, rfl⟩]
theorem gs_put {t : Nat × Nat} (hev : evL[n]? = some (4, g, i, k)) (ht : tgR g i k = some t) (hi : i < cnE n g) (ht2 : t.2 < cnE n t.1) (h : GSt n M) : GSt (n + 1) (M.1, M.2.1, M.2.2.1, M.2.2.2.1, xu M.2.2.2.2 g i k (some (M.1 t.1 t.2))) := by
  have hct : ∀ s, cnE (n + 1) s = cnE n s := fun s => by rw [cnt_s hev]; rfl
  have hng : ∀ s i' k', sng (n + 1) s i' k' = sng n s i' k' := fun s i' k' => by rw [sng_s hev, show (((4, g, i, k) : Nat × Nat × Nat × Nat) == (5, s, i', k')) = false from rfl, Bool.or_false]
  refine ⟨fun s => by rw [hct]; exact h.1 s, fun s j hj k' => by rw [hct] at hj; rw [hng]; exact h.2.1 s j hj k', fun s j k' hj => ?_⟩
  rw [hct] at hj
  obtain ⟨h1, h2⟩ := h.2.2 s j k' hj
  show xu M.2.2.2.2 g i k _ s j k' = _ ∧ _
  rw [sst_s hev]
  by_cases z : s = g ∧ j = i ∧ k' = k
  · obtain ⟨rfl, rfl, rfl⟩ := z
    rw [xu_s, show (((4, s, j, k') : Nat × Nat × Nat × Nat) == (4, s, j, k')) = true from beq_self_eq_true _, Bool.or_true, if_pos rfl, ht]
    exact ⟨rfl, fun _ q2 hq2 => by cases hq2; rw [hct]; exact ht2⟩
  · rw [xu_n z, show (((4, g, i, k) : Nat × Nat × Nat × Nat) == (4, s, j, k')) = false from by
      rw [beq_eq_false_iff_ne]; intro y; apply z; cases y; exact ⟨rfl, rfl, rfl⟩, Bool.or_false]
    exact ⟨h1, fun y q2 hq2 => by rw [hct]; exact h2 y q2 hq2⟩
theorem gs_neg (hev : evL[n]? = some (5, g, i, k)) (h : GSt n M) : GSt (n + 1) (M.1, M.2.1, xu M.2.2.1 g i k (-1), M.2.2.2.1, M.2.2.2.2) := by
  have hct : ∀ s, cnE (n + 1) s = cnE n s := fun s => by rw [cnt_s hev]; rfl
  have hst : ∀ s i' k', sst (n + 1) s i' k' = sst n s i' k' := fun s i' k' => by rw [sst_s hev, show (((5, g, i, k) : Nat × Nat × Nat × Nat) == (4, s, i', k')) = false from rfl, Bool.or_false]
  refine ⟨fun s => by rw [hct]; exact h.1 s, fun s j hj k' => ?_, fun s j k' hj => by rw [hct] at hj; rw [hst]; simp only [hct]; exact h.2.2 s j k' hj⟩
  rw [hct] at hj
  obtain ⟨h1, h2⟩ := h.2.1 s j hj k'
  refine ⟨?_, h2⟩
  show xu M.2.2.1 g i k _ s j k' = _
  rw [sng_s hev]
  by_cases z : s = g ∧ j = i ∧ k' = k
  · obtain ⟨rfl, rfl, rfl⟩ := z
    rw [xu_s, show (((5, s, j, k') : Nat × Nat × Nat × Nat) == (5, s, j, k')) = true from beq_self_eq_true _, Bool.or_true, if_pos rfl]
  · rw [xu_n z, show (((5, g, i, k) : Nat × Nat × Nat × Nat) == (5, s, j, k')) = false from by
      rw [beq_eq_false_iff_ne]; intro y; apply z; cases y; exact ⟨rfl, rfl, rfl⟩, Bool.or_false]
    exact h1
/-- a row of rows -/
def xmna (M : xM) (g g2 N q : Nat) (r : Nat → Nat) : xM := (fun a b => if a = g ∧ b = M.2.1 g then q else if a = g2 ∧ M.2.1 g2 ≤ b ∧ b < M.2.1 g2 + N then r (b - M.2.1 g2) else M.1 a b, fun a => if a = g then M.2.1 g + 1 else if a = g2 then M.2.1 g2 + N else M.2.1 a, fun a b c => if (a = g ∧ b = M.2.1 g) ∨ (a = g2 ∧ M.2.1 g2 ≤ b) then 0 else M.2.2.1 a b c, fun a b c => if (a = g ∧ b = M.2.1 g) ∨ (a = g2 ∧ M.2.1 g2 ≤ b) then 0 else M.2.2.2.1 a b c, fun a b c => if a = g ∧ b = M.2.1 g then (if c < N then some (r c) else none) else if a = g2 ∧ M.2.1 g2 ≤ b then none else M.2.2.2.2 a b c)
theorem gs_mna {g2 N : Nat} {r : Nat → Nat} (hev : evL[n]? = some (2, g, g2, N)) (hne : g ≠ g2) (hM : isM g = true) (hM2 : isM g2 = false) (hf1 : sfr n g (cnE n g) = true) (hf2 : ∀ j, j < N → sfr n g2 (cnE n g2 + j) = true) (ht : ∀ k, tgR g (cnE n g) k = if k < N then some (g2, cnE n g2 + k) else none) (h : GSt n M) : GSt (n + 1) (xmna M g g2 N q r) ∧ KA n M (xmna M g g2 N q r) ∧ (xmna M g g2 N q r).1 g (cnE n g) = q := by
  have hC : M.2.1 g = cnE n g := h.1 g
  have hC2 : M.2.1 g2 = cnE n g2 := h.1 g2
  have hct : ∀ s, cnE (n + 1) s = cnE n s + (if g = s then 1 else if g2 = s then N else 0) := fun s => cnt_s hev
  have hst : ∀ s i k, sst (n + 1) s i k = sst n s i k := fun s i k => by rw [sst_s hev, show (((2, g, g2, N) : Nat × Nat × Nat × Nat) == (4, s, i, k)) = false from rfl, Bool.or_false]
  have hng : ∀ s i k, sng (n + 1) s i k = sng n s i k := fun s i k => by rw [sng_s hev, show (((2, g, g2, N) : Nat × Nat × Nat × Nat) == (5, s, i, k)) = false from rfl, Bool.or_false]
  have hA : ∀ s i, i < cnE n s → (xmna M g g2 N q r).1 s i = M.1 s i := fun s i hi => by
    show (if s = g ∧ i = M.2.1 g then q else if s = g2 ∧ M.2.1 g2 ≤ i ∧ i < M.2.1 g2 + N then _ else M.1 s i) = _
    rw [if_neg (fun z => by rw [z.1, z.2, hC] at hi; exact Nat.lt_irrefl _ hi), if_neg (fun z => by rw [z.1] at hi; have := z.2.1; omega)]
  have hI : ∀ j, j < N → (xmna M g g2 N q r).1 g2 (cnE n g2 + j) = r j := fun j hj => by
    show (if g2 = g ∧ cnE n g2 + j = M.2.1 g then q else if g2 = g2 ∧ M.2.1 g2 ≤ cnE n g2 + j ∧ cnE n g2 + j < M.2.1 g2 + N then r (cnE n g2 + j - M.2.1 g2) else _) = _
    rw [if_neg (fun z => hne z.1.symm), if_pos ⟨rfl, by omega, by omega⟩, hC2, Nat.add_sub_cancel_left]
  refine ⟨⟨fun s => ?_, fun s i hi k => ?_, fun s i k hi => ?_⟩, hA, ?_⟩
  · show (if s = g then M.2.1 g + 1 else if s = g2 then M.2.1 g2 + N else M.2.1 s) = _
    rw [hct]
    by_cases z : s = g
    · rw [if_pos z, if_pos z.symm, hC, z]
    · rw [if_neg z, if_neg (Ne.symm z)]
      by_cases z2 : s = g2
      · rw [if_pos z2, if_pos z2.symm, hC2, z2]
      · rw [if_neg z2, if_neg (Ne.symm z2), h.1 s]; rfl
  · rw [hct] at hi
    show (if (s = g ∧ i = M.2.1 g) ∨ (s = g2 ∧ M.2.1 g2 ≤ i) then 0 else M.2.2.1 s i k) = _ ∧ (if (s = g ∧ i = M.2.1 g) ∨ (s = g2 ∧ M.2.1 g2 ≤ i) then 0 else M.2.2.2.1 s i k) = _
    rw [hC, hC2, hng]
    by_cases z : (s = g ∧ i = cnE n g) ∨ (s = g2 ∧ cnE n g2 ≤ i)
    · rw [if_pos z, if_pos z]
      have : sng n s i k = false := by
        rcases z with z | z
        · rw [z.1, z.2]; exact sfr_ng hf1
        · rw [z.1, if_neg hne, if_pos rfl] at hi
          have := sfr_ng (k := k) (hf2 (i - cnE n g2) (by omega))
          rw [show cnE n g2 + (i - cnE n g2) = i by omega] at this
          rw [z.1]; exact this
      rw [this]; exact ⟨rfl, rfl⟩
    · rw [if_neg z, if_neg z]
      refine h.2.1 s i ?_ k
      by_cases z1 : g = s
      · rw [if_pos z1] at hi; have : ¬ i = cnE n g := fun y => z (Or.inl ⟨z1.symm, y⟩); rw [z1] at this; omega
      · rw [if_neg z1] at hi
        by_cases z2 : g2 = s
        · rw [← z2]; exact Nat.lt_of_not_le (fun y => z (Or.inr ⟨z2.symm, y⟩))
        · rw [if_neg z2] at hi; exact hi
  · rw [hct] at hi
    show (if s = g ∧ i = M.2.1 g then (if k < N then some (r k) else none) else if s = g2 ∧ M.2.1 g2 ≤ i then none else M.2.2.2.2 s i k) = _ ∧ _
    rw [hC, hC2, hst]
    by_cases z : s = g ∧ i = cnE n g
    · obtain ⟨rfl, rfl⟩ := z
      have e1 : sst n s (cnE n s) k = true := by unfold sst; rw [hM, Bool.true_or]
      rw [if_pos ⟨rfl, rfl⟩, e1, if_pos rfl, ht]
      by_cases y : k < N
      · rw [if_pos y, if_pos y]
        refine ⟨?_, fun _ q2 hq2 => ?_⟩
        · exact congrArg some (hI k y).symm
        · cases hq2; show cnE n g2 + k < cnE (n + 1) g2; rw [hct, if_neg hne, if_pos rfl]; omega
      · rw [if_neg y, if_neg y]; exact ⟨rfl, fun _ q2 hq2 => by cases hq2⟩
    · rw [if_neg z]
      by_cases z2 : s = g2 ∧ cnE n g2 ≤ i
      · rw [if_pos z2]
        have e1 : sst n s i k = false := by
          have hi2 := hi
          rw [z2.1, if_neg hne, if_pos rfl] at hi2
          have := sfr_st (k := k) hM2 (hf2 (i - cnE n g2) (by omega))
          rw [show cnE n g2 + (i - cnE n g2) = i by omega] at this
          rw [z2.1]; exact this
        rw [e1]; exact ⟨rfl, fun y => by cases y⟩
      · rw [if_neg z2]
        have hlv : i < cnE n s := by
          by_cases y1 : g = s
          · rw [if_pos y1] at hi; have : ¬ i = cnE n g := fun y => z ⟨y1.symm, y⟩; rw [y1] at this; omega
          · rw [if_neg y1] at hi
            by_cases y2 : g2 = s
            · rw [← y2]; exact Nat.lt_of_not_le (fun y => z2 ⟨y2.symm, y⟩)
            · rw [if_neg y2] at hi; exact hi
        obtain ⟨h1, h2⟩ := h.2.2 s i k hlv
        refine ⟨?_, fun y q2 hq2 => Nat.lt_of_lt_of_le (h2 y q2 hq2) cnE_le⟩
        rw [h1]
        by_cases y : sst n s i k = true
        · rw [if_pos y, if_pos y]
          cases ht9 : tgR s i k with
          | none => rfl
          | some q2 => exact congrArg some (hA q2.1 q2.2 (h2 y q2 ht9)).symm
        · rw [if_neg y, if_neg y]
  · show (if g = g ∧ cnE n g = M.2.1 g then q else _) = q
    rw [hC, if_pos ⟨rfl, rfl⟩]
end M53
section M53b
variable {G : xG} {y : xY} {d : Nat} {b1 b2 : Nat} {B : Nat × Nat} {pc idx : Nat} {ls : List (Nat × Option Value)} {st : List Value} {M : xM} {Q : xTg} {g n i k : Nat}
/-- new Person[n] -/
theorem x_anew {N : Nat} (hd : decode y.2.1 pc = .ok (.anewarray idx, 3)) (hcl : Cond.classLink y.1.cls idx "SmellCustoms$Person" ∈ xTBL) (hg : xsh g = .inl (3, N)) (hn : N ≤ 2000) (kk : ∀ q, X G y d (b1, b2) (pc + 3) ls (.ref q :: st) (xnew M g q) Q) : X G y d (b1 + 1, b2 + N) pc ls (.int (nI N) :: st) M Q := by
  intro p l e RM s m args below meth c H locs cells slots lsA hC hR hH hS hc hs hl
  obtain ⟨hb, dom, hnd, hm, hP, hD⟩ := id hH
  have hc : cells + (b1 + 1) ≤ RM.cells := hc
  have hs : slots + (b2 + N) ≤ RM.slots := hs
  have hK := hC.2.2.2.2.2.2.2.2.2.2
  refine va_newq (N' := N) (C := "SmellCustoms$Person") hC.1 hC.2.1 hC.2.2.2.2.1 (hC.2.2.2.2.2.1 _ hcl) hC.2.2.2.2.2.2.2.2.2.1.2.2.2.2.2.2.2.2.2.2.1.2.1 hK hP hD hS (fun q hq => Nat.le_trans hC.2.2.2.2.2.2.2.2.1 hq) (nI_pos (by omega)) (nI_clamp (by omega)) (by omega) (by omega) (by omega) hd (fun q cA H1 hK1 hP1 hD1 hS1 => ?_)
  have e1 : cA = G.2.1 3 := by
    obtain ⟨k1, c1, -, -, -, q1⟩ := (hK1.2 5 (cA, .object "SmellCustoms$Person") rfl).2
    obtain ⟨k2, c2, -, -, -, q2⟩ := (hK.2 3 (G.2.1 3, .object "SmellCustoms$Person") rfl).2
    exact Option.some.inj (q1.symm.trans q2)
  subst e1
  exact kk q p l e RM s m args below meth c H1 locs (cells + 1) (slots + N) lsA hC hR (xH_new (H := H) (Nat.le_trans hC.2.2.2.2.2.2.2.2.1 hS1.1) hnd hm (by rw [xE_nA hg]; exact hP1) (by rw [xE_nA hg]; exact hD1)) hS1 (by show cells + 1 + b1 ≤ _; omega) (by show slots + N + b2 ≤ _; omega) hl
/-- a Person into a row of them -/
theorem x_aast {ad : Nat → Nat → Nat} {C : Nat → Nat} {I : Nat → Nat → Nat → Int32} {L : Nat → Nat → Nat → Int64} {R : Nat → Nat → Nat → Option Nat} {j N : Nat} (hd : decode y.2.1 pc = .ok (.aastore, 1)) (hg : xsh g = .inl (3, N)) (hi : i < C g) (hj : j < C 4) (hk : k < N) (hN : N < 2 ^ 31) (kk : X G y d B (pc + 1) ls st (ad, C, I, L, xu R g i k (some (ad 4 j))) Q) : X G y d B pc ls (.ref (ad 4 j) :: .int (nI k) :: .ref (ad g i) :: st) (ad, C, I, L, R) Q := by
  intro p l e RM s m args below meth c H locs cells slots lsA hC hR hH hS hc hs hl
  obtain ⟨hb, dom, hnd, hm, hP, hD⟩ := id hH
  obtain ⟨q0, hq0, hw⟩ := xw_get (G := G) (M := (ad, C, I, L, R)) ((hm g i).mpr hi)
  obtain ⟨q1, hq1, hw1⟩ := xw_get (G := G) (M := (ad, C, I, L, R)) ((hm 4 j).mpr hj)
  rw [xE_a hg] at hw
  rw [xE_o (show xsh 4 = .inr 4 from rfl)] at hw1
  refine va_astq hC.1 hC.2.1 hC.2.2.2.2.2.2.2.2.2.2 hP hD hS q0 3 q1 4 hw (r := (RX4, TX4, 4)) rfl hw1 rfl (vp_in_nI hk hN) hd (fun H1 locs1 h1 h2 h3 => ?_)
  have hset : (xw G (ad, C, I, L, R) dom).set q0 (ad g i, .inl (G.2.1 3, N, .inr (.inr (.inr (.inr (va_up (R g i) (nI k).toNatClampNeg (some (ad 4 j)))))))) = xw G (ad, C, I, L, xu R g i k (some (ad 4 j))) dom := by
    refine xw_set (M' := (ad, C, I, L, xu R g i k (some (ad 4 j)))) hnd hq0 rfl ?_ ?_
    · rw [xE_a hg, nI_clamp (by omega)]
      have : xu R g i k (some (ad 4 j)) g i = va_up (R g i) k (some (ad 4 j)) := funext fun a => xu_at
      show (Sum.inl (_, N, xar 3 _ _ _) : va_E) = _
      simp only [this]
      rfl
    · intro a b _ hne
      have : xu R g i k (some (ad 4 j)) a b = R a b := funext fun z => xu_n (fun q => hne ⟨q.1, q.2.1⟩)
      unfold xE
      simp only [this]
  have h1 : va_P G.1 vwCl ((xw G (ad, C, I, L, R) dom).set q0 (ad g i, .inl (G.2.1 3, N, .inr (.inr (.inr (.inr (va_up (R g i) (nI k).toNatClampNeg (some (ad 4 j))))))))) H1 := h1
  have h2 : va_D (xA G) ((xw G (ad, C, I, L, R) dom).set q0 (ad g i, .inl (G.2.1 3, N, .inr (.inr (.inr (.inr (va_up (R g i) (nI k).toNatClampNeg (some (ad 4 j))))))))) := h2
  rw [hset] at h1 h2
  exact kk p l e RM s m args below meth c H1 locs1 cells slots lsA hC hR ⟨Nat.le_trans hC.2.2.2.2.2.2.2.2.1 h3.1, dom, hnd, hm, h1, h2⟩ h3 hc hs hl
/-- new int[N][K] -/
theorem x_mna {g2 N K : Nat} (hd : decode y.2.1 pc = .ok (.multianewarray idx 2, 4)) (hcl : Cond.classLink y.1.cls idx "[[I" ∈ xTBL) (harr : Cond.arrayClass .int ∈ xTBL) (hg : xsh g = .inl (4, N)) (hg2 : xsh g2 = .inl (0, K)) (hne : g ≠ g2) (hN : N ≤ 2000) (hK2 : K ≤ 2000) (kk : ∀ q r, X G y d (b1, b2) (pc + 4) ls (.ref q :: st) (xmna M g g2 N q r) Q) : X G y d (b1 + (1 + N), b2 + (N + N * K)) pc ls (.int (nI K) :: .int (nI N) :: st) M Q := by
  intro p l e RM s m args below meth c H locs cells slots lsA hC hR hH hS hc hs hl
  obtain ⟨hb, dom, hnd, hm, hP, hD⟩ := id hH
  have hc : cells + (b1 + (1 + N)) ≤ RM.cells := hc
  have hs : slots + (b2 + (N + N * K)) ≤ RM.slots := hs
  have hK := hC.2.2.2.2.2.2.2.2.2.2
  have hts := hC.2.2.2.2.2.1
  refine va_mna (X := xw G M dom) (L := []) (f := fun _ => .inr (0, [])) (ty := .int) (cy := G.2.1 0) (N' := N) (K' := K) (z := (K, .inl (fun _ => 0))) hC.1 hC.2.1 hC.2.2.2.2.1 (hts _ hcl) hC.2.2.2.2.2.2.2.2.2.1.2.2.2.2.2.2.2.2.2.2.1.1 (hts _ harr) (hK.2 0 (G.2.1 0, .int) rfl).2 hK (by rw [show va_pl [] _ = [] from rfl, List.append_nil]; exact hP) (by rw [show va_pl [] _ = [] from rfl, List.append_nil]; exact hD) hS (fun q hq => Nat.le_trans hC.2.2.2.2.2.2.2.2.1 hq) (nI_pos (by omega)) (nI_pos (by omega)) (nI_clamp (by omega)) (nI_clamp (by omega)) (by omega) (by show K * 4 ≤ _; omega) (by omega) rfl rfl (by omega) (by omega) (fun c => ?_) hd (fun q r cA H1 hr1 hr2 hK1 hP1 hD1 hS1 => ?_)
  · show ({ cls := c, slots := Array.replicate K (.int 0), vm := .none } : Cell) = _
    rw [arrV_new]; rfl
  · have e1 : cA = G.2.1 4 := Option.some.inj ((hK1.2 5 (cA, .array .int) rfl).2.symm.trans (hK.2 4 (G.2.1 4, .array .int) rfl).2)
    subst e1
    have hfr : ∀ z, z ∈ dom → ¬ (z.1 = g ∧ z.2 = M.2.1 g) ∧ ¬ (z.1 = g2 ∧ M.2.1 g2 ≤ z.2) := fun z hz => by
      have := (hm z.1 z.2).mp hz
      exact ⟨fun y => by rw [y.1, y.2] at this; exact Nat.lt_irrefl _ this, fun y => by rw [y.1] at this; omega⟩
    have ew : (xw G M dom ++ [(q, .inl (G.2.1 4, N, .inr (.inr (.inr (.inr (fun i => if i < N then some (r i) else none))))))]) ++ va_pl ([] ++ (List.range N).map r) (vr_up (fun _ => .inr (0, [])) ((List.range N).map r) (.inl (G.2.1 0, K, .inl (fun _ => 0)))) = xw G (xmna M g g2 N q r) ((dom ++ [(g, M.2.1 g)]) ++ (List.range N).map (fun j => (g2, M.2.1 g2 + j))) := by
      unfold xw va_pl
      rw [List.nil_append, List.map_append, List.map_append, List.map_map, List.map_map]
      congr 1
      · congr 1
        · refine List.map_congr_left (fun z hz => ?_)
          obtain ⟨f1, f2⟩ := hfr z hz
          rw [xE_sm (M := M) (M' := xmna M g g2 N q r) (funext fun c => if_neg (fun y => y.elim f1 f2)) (funext fun c => if_neg (fun y => y.elim f1 f2)) (funext fun c => by show ite _ _ _ = _; rw [if_neg f1, if_neg f2])]
          show (_, _) = (ite _ _ _, _)
          rw [if_neg f1, if_neg (fun y => f2 ⟨y.1, y.2.1⟩)]
        · show [(_, _)] = [(ite _ _ _, _)]
          rw [if_pos ⟨rfl, rfl⟩, xE_a hg]
          have e3 : (xmna M g g2 N q r).2.2.2.2 g (M.2.1 g) = fun i => if i < N then some (r i) else none := funext fun c => if_pos ⟨rfl, rfl⟩
          rw [e3]; rfl
      · refine List.map_congr_left (fun j hj => ?_)
        have hj := List.mem_range.mp hj
        show (r j, vr_up _ _ _ (r j)) = (ite _ _ _, _)
        rw [vr_up_in (List.mem_map.mpr ⟨j, List.mem_range.mpr hj, rfl⟩), if_neg (fun z => hne z.1.symm), if_pos ⟨rfl, Nat.le_add_right _ _, Nat.add_lt_add_left hj _⟩, Nat.add_sub_cancel_left, xE_a hg2]
        have e3 : (xmna M g g2 N q r).2.2.1 g2 (M.2.1 g2 + j) = fun _ => 0 := funext fun c => if_pos (Or.inr ⟨rfl, by omega⟩)
        rw [e3]; rfl
    rw [ew] at hP1 hD1
    refine kk q r p l e RM s m args below meth c H1 locs (cells + 1 + N) (slots + N + N * K) lsA hC hR ⟨Nat.le_trans hC.2.2.2.2.2.2.2.2.1 hS1.1, _, ?_, fun s i => ?_, hP1, hD1⟩ hS1 (by show cells + 1 + N + b1 ≤ _; omega) (by show slots + N + N * K + b2 ≤ _; omega) hl
    · rw [List.nodup_append, List.nodup_append]
      refine ⟨⟨hnd, by simp, fun a ha b hb2 h => ?_⟩, ?_, fun a ha b hb2 h => ?_⟩
      · rw [List.mem_singleton.mp hb2] at h
        rw [h] at ha
        exact (hfr _ ha).1 ⟨rfl, rfl⟩
      · rw [List.nodup_iff_pairwise_ne, List.pairwise_map]
        exact (List.nodup_iff_pairwise_ne.mp List.nodup_range).imp (fun h z => h (by injection z with _ z; omega))
      · obtain ⟨j, hj, rfl⟩ := List.mem_map.mp hb2
        subst h
        rcases List.mem_append.mp ha with ha | ha
        · exact (hfr _ ha).2 ⟨rfl, Nat.le_add_right _ _⟩
        · have := List.mem_singleton.mp ha
          injection this with h1 h2
          exact hne h1.symm
    · rw [List.mem_append, List.mem_append, List.mem_singleton, hm, List.mem_map]
      show _ ↔ i < if s = g then M.2.1 g + 1 else if s = g2 then M.2.1 g2 + N else M.2.1 s
      constructor
      · rintro ((h | h) | ⟨j, hj, h⟩)
        · by_cases z : s = g
          · rw [if_pos z, ← z]; omega
          · rw [if_neg z]
            by_cases z2 : s = g2
            · rw [if_pos z2, ← z2]; omega
            · rw [if_neg z2]; exact h
        · injection h with h1 h2; rw [if_pos h1, h2]; omega
        · injection h with h1 h2
          have hj := List.mem_range.mp hj
          rw [if_neg (fun z => hne (z.symm.trans h1.symm)), if_pos h1.symm]; omega
      · intro h
        by_cases z : s = g
        · rw [if_pos z] at h
          by_cases z2 : i = M.2.1 g
          · exact Or.inl (Or.inr (by rw [z, z2]))
          · exact Or.inl (Or.inl (by rw [z]; omega))
        · rw [if_neg z] at h
          by_cases z2 : s = g2
          · rw [if_pos z2] at h
            by_cases z3 : i < M.2.1 g2
            · exact Or.inl (Or.inl (by rw [z2]; exact z3))
            · exact Or.inr ⟨i - M.2.1 g2, List.mem_range.mpr (by omega), by rw [z2, show M.2.1 g2 + (i - M.2.1 g2) = i by omega]⟩
          · rw [if_neg z2] at h; exact Or.inl (Or.inl h)
/-! the rows, with the number of the event -/
theorem r_arr {atype : ArrayType} {t N : Nat} (hG : GSt n M) (hev : evL[n]? = some (0, g, 0, 0)) (hM : isM g = false) (hfr : sfr n g (cnE n g) = true) (hd : decode y.2.1 pc = .ok (.newarray atype, 2)) (hty : newarray.typeOf atype = xty t) (ht : t < 3) (hg : xsh g = .inl (t, N)) (hn : N ≤ 2000) (harr : Cond.arrayClass (xty t) ∈ xTBL) (hi : cnE n g = i) (kk : ∀ M', GSt (n + 1) M' → KA n M M' → X G y d (b1, b2) (pc + 2) ls (.ref (M'.1 g i) :: st) M' Q) : X G y d (b1 + 1, b2 + N) pc ls (.int (nI N) :: st) M Q := by
  refine x_newarr hd hty ht hg hn harr (fun q => ?_)
  obtain ⟨h1, h2, h3⟩ := gs_new (q := q) hev hM hfr hG
  have := kk _ h1 h2
  rw [← hi, h3] at this
  exact this
theorem r_anew {N : Nat} (hG : GSt n M) (hev : evL[n]? = some (0, g, 0, 0)) (hM : isM g = false) (hfr : sfr n g (cnE n g) = true) (hd : decode y.2.1 pc = .ok (.anewarray idx, 3)) (hcl : Cond.classLink y.1.cls idx "SmellCustoms$Person" ∈ xTBL) (hg : xsh g = .inl (3, N)) (hn : N ≤ 2000) (hi : cnE n g = i) (kk : ∀ M', GSt (n + 1) M' → KA n M M' → X G y d (b1, b2) (pc + 3) ls (.ref (M'.1 g i) :: st) M' Q) : X G y d (b1 + 1, b2 + N) pc ls (.int (nI N) :: st) M Q := by
  refine x_anew hd hcl hg hn (fun q => ?_)
  obtain ⟨h1, h2, h3⟩ := gs_new (q := q) hev hM hfr hG
  have := kk _ h1 h2
  rw [← hi, h3] at this
  exact this
theorem r_obj {cn N : Nat} {CN : String} {T : u_T} (hG : GSt n M) (hev : evL[n]? = some (0, g, 0, 0)) (hM : isM g = false) (hfr : sfr n g (cnE n g) = true) (hd : decode y.2.1 pc = .ok (.new idx, 3)) (hcl : Cond.classLink y.1.cls idx CN ∈ xTBL) (hin : Cond.instantiable CN N ∈ xTBL) (hini : Cond.initialized CN ∈ xTBL) (hq : vwCl[cn]? = some (CN, T, N)) (hN : (xft cn).length = N) (hf3 : ∀ k, k < N → ∃ t, (xft cn)[k]? = some t ∧ t < 3) (hg : xsh g = .inr cn) (hi : cnE n g = i) (kk : ∀ M', GSt (n + 1) M' → KA n M M' → X G y d (b1, b2) (pc + 3) ls (.ref (M'.1 g i) :: st) M' Q) : X G y d (b1 + 1, b2 + N) pc ls st M Q := by
  refine x_newobj hd hcl hin hini hq hN hf3 hg (fun q => ?_)
  obtain ⟨h1, h2, h3⟩ := gs_new (q := q) hev hM hfr hG
  have := kk _ h1 h2
  rw [← hi, h3] at this
  exact this
theorem r_mna {g2 N K : Nat} (hG : GSt n M) (hev : evL[n]? = some (2, g, g2, N)) (hM : isM g = true) (hM2 : isM g2 = false) (hf1 : sfr n g (cnE n g) = true) (hf2 : ∀ j, j < N → sfr n g2 (cnE n g2 + j) = true) (ht : ∀ k, tgR g (cnE n g) k = if k < N then some (g2, cnE n g2 + k) else none) (hd : decode y.2.1 pc = .ok (.multianewarray idx 2, 4)) (hcl : Cond.classLink y.1.cls idx "[[I" ∈ xTBL) (harr : Cond.arrayClass .int ∈ xTBL) (hg : xsh g = .inl (4, N)) (hg2 : xsh g2 = .inl (0, K)) (hne : g ≠ g2) (hN : N ≤ 2000) (hK2 : K ≤ 2000) (hi : cnE n g = i) (kk : ∀ M', GSt (n + 1) M' → KA n M M' → X G y d (b1, b2) (pc + 4) ls (.ref (M'.1 g i) :: st) M' Q) : X G y d (b1 + (1 + N), b2 + (N + N * K)) pc ls (.int (nI K) :: .int (nI N) :: st) M Q := by
  refine x_mna hd hcl harr hg hg2 hne hN hK2 (fun q r => ?_)
  obtain ⟨h1, h2, h3⟩ := gs_mna (q := q) (r := r) hev hne hM hM2 hf1 hf2 ht hG
  have := kk _ h1 h2
  rw [← hi, h3] at this
  exact this
theorem r_put {cn a v : Nat} {t : Nat × Nat} (hG : GSt n M) (hev : evL[n]? = some (4, g, i, k)) (ht : tgR g i k = some t) (hi : i < cnE n g) (ht2 : t.2 < cnE n t.1) (ha : M.1 g i = a) (hv : M.1 t.1 t.2 = v) (hf : xFS y.1.cls idx cn k) (hd : decode y.2.1 pc = .ok (.putfield idx, 3)) (hg : xsh g = .inr cn) (ht3 : (xft cn)[k]? = some 2) (hn : xfin cn k = true) (hin : y.1.name = "<init>") (kk : ∀ M', GSt (n + 1) M' → KA n M M' → X G y d B (pc + 3) ls st M' Q) : X G y d B pc ls (.ref v :: .ref a :: st) M Q := by
  subst ha hv
  exact x_putRF (ad := M.1) (C := M.2.1) (I := M.2.2.1) (L := M.2.2.2.1) (R := M.2.2.2.2) (v := some (M.1 t.1 t.2)) hf hd hg ht3 hn hin (by rw [hG.1 g]; exact hi) (kk _ (gs_put hev ht hi ht2 hG) (fun _ _ _ => rfl))
theorem r_putN {cn a v : Nat} {t : Nat × Nat} (hG : GSt n M) (hev : evL[n]? = some (4, g, i, k)) (ht : tgR g i k = some t) (hi : i < cnE n g) (ht2 : t.2 < cnE n t.1) (ha : M.1 g i = a) (hv : M.1 t.1 t.2 = v) (hf : xFL y.1.cls idx cn k) (hd : decode y.2.1 pc = .ok (.putfield idx, 3)) (hg : xsh g = .inr cn) (ht3 : (xft cn)[k]? = some 2) (hn : xfin cn k = false) (kk : ∀ M', GSt (n + 1) M' → KA n M M' → X G y d B (pc + 3) ls st M' Q) : X G y d B pc ls (.ref v :: .ref a :: st) M Q := by
  subst ha hv
  exact x_putR (ad := M.1) (C := M.2.1) (I := M.2.2.1) (L := M.2.2.2.1) (R := M.2.2.2.2) (v := some (M.1 t.1 t.2)) hf hd hg ht3 hn (by rw [hG.1 g]; exact hi) (kk _ (gs_put hev ht hi ht2 hG) (fun _ _ _ => rfl))
theorem r_neg {cn a : Nat} (hG : GSt n M) (hev : evL[n]? = some (5, g, i, k)) (hi : i < cnE n g) (ha : M.1 g i = a) (hf : xFL y.1.cls idx cn k) (hd : decode y.2.1 pc = .ok (.putfield idx, 3)) (hg : xsh g = .inr cn) (ht3 : (xft cn)[k]? = some 0) (hn : xfin cn k = false) (kk : ∀ M', GSt (n + 1) M' → KA n M M' → X G y d B (pc + 3) ls st M' Q) : X G y d B pc ls (.int (-1) :: .ref a :: st) M Q := by
  subst ha
  exact x_putI (ad := M.1) (C := M.2.1) (I := M.2.2.1) (L := M.2.2.2.1) (R := M.2.2.2.2) hf hd hg ht3 hn (by rw [hG.1 g]; exact hi) (kk _ (gs_neg hev hG) (fun _ _ _ => rfl))
theorem r_get {cn a : Nat} {t : Nat × Nat} (hG : GSt n M) (hs : sst n g i k = true) (ht : tgR g i k = some t) (hi : i < cnE n g) (ha : M.1 g i = a) (hf : xFL y.1.cls idx cn k) (hd : decode y.2.1 pc = .ok (.getfield idx, 3)) (hg : xsh g = .inr cn) (ht3 : (xft cn)[k]? = some 2) (kk : X G y d B (pc + 3) ls (.ref (M.1 t.1 t.2) :: st) M Q) : X G y d B pc ls (.ref a :: st) M Q := by
  subst ha
  refine x_get (ad := M.1) (C := M.2.1) (I := M.2.2.1) (L := M.2.2.2.1) (R := M.2.2.2.2) hf hd hg ht3 (by rw [hG.1 g]; exact hi) ?_
  have e := (hG.2.2 g i k hi).1
  rw [if_pos hs, ht] at e
  rw [e]
  exact kk
theorem r_aast {a v j N : Nat} (hG : GSt n M) (hev : evL[n]? = some (4, g, i, k)) (ht : tgR g i k = some (4, j)) (hi : i < cnE n g) (hj : j < cnE n 4) (ha : M.1 g i = a) (hv : M.1 4 j = v) (hd : decode y.2.1 pc = .ok (.aastore, 1)) (hg : xsh g = .inl (3, N)) (hk : k < N) (hN : N < 2 ^ 31) (kk : ∀ M', GSt (n + 1) M' → KA n M M' → X G y d B (pc + 1) ls st M' Q) : X G y d B pc ls (.ref v :: .int (nI k) :: .ref a :: st) M Q := by
  subst ha hv
  exact x_aast (ad := M.1) (C := M.2.1) (I := M.2.2.1) (L := M.2.2.2.1) (R := M.2.2.2.2) hd hg (by rw [hG.1 g]; exact hi) (by rw [hG.1 4]; exact hj) hk hN (kk _ (gs_put hev ht hi hj hG) (fun _ _ _ => rfl))
end M53b
