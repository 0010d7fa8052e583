section Tel14
variable {G : xG} {ad : Nat → Nat → Nat} {nb : Nat} {b r : Option Nat} {L : Nat → Nat → Nat → Int64} {V : sV} {I : Nat → Nat → Nat → Int32} {d : Nat}

/-- how many words a string has -/
def spc (k : Nat) : Nat → Nat → Nat
  | 0, _ => 0
  | f + 1, j => (if sch k j = 32 then 1 else 0) + spc k f (j + 1)
theorem wiF_le {k : Nat} {v : Int64} : ∀ (f j num : Nat) (w : Int64), wiF k v f j num w = -1 ∨ ∃ m, m ≤ num + spc k f j ∧ wiF k v f j num w = nI m
  | 0, j, num, w => by
    unfold wiF
    split
    · exact Or.inr ⟨num, by omega, rfl⟩
    · exact Or.inl rfl
  | f + 1, j, num, w => by
    unfold wiF spc
    split
    · split
      · exact Or.inr ⟨num, by omega, rfl⟩
      · rcases wiF_le f (j + 1) (num + 1) (lN 0) with h | ⟨m, h1, h2⟩
        · exact Or.inl h
        · exact Or.inr ⟨m, by omega, h2⟩
    · rcases wiF_le f (j + 1) num (w <<< ((nI 5).toInt64 &&& 63) ||| (nI (sch k j - 97 + 1)).toInt64) with h | ⟨m, h1, h2⟩
      · exact Or.inl h
      · exact Or.inr ⟨m, by omega, h2⟩
def wdN (k : Nat) : Nat := spc k (xsb k).length 0 + 1
theorem spc_le {k : Nat} : ∀ f j, spc k f j ≤ f
  | 0, _ => Nat.le_refl 0
  | f + 1, j => by
    have := spc_le (k := k) f (j + 1)
    unfold spc
    split <;> omega
theorem wiN_wd {k : Nat} {v : Int64} (hk : k < 41) : wiN k v ≤ wdN k := by
  have hl := xsb_len k hk
  have hs := spc_le (k := k) (xsb k).length 0
  unfold wiN wdN
  rcases wiF_le (k := k) (v := v) (xsb k).length 0 0 (lN 0) with h | ⟨m, h1, h2⟩
  · have h' : wix k v = -1 := h
    rw [if_pos h']; omega
  · have h' : wix k v = nI m := h2
    have hne : ¬ nI m = -1 := nI_ne_m1 (by omega)
    rw [h', if_neg hne, zN_nI (by omega)]
    omega
theorem wdN_3 : wdN 3 = 5 := by decide +kernel
theorem wdN_9 : wdN 9 = 4 := by decide +kernel
variable {T : Nat → Nat} {e a x : Nat}
theorem pChoice_lt {k : Nat} (hk : k < 41) (h : pChoice T e k a = .inr x) : x < wdN k := by
  have := wiN_wd (v := vl T e a) hk
  unfold pChoice at h
  split at h
  · cases h; omega
  · cases h
theorem pWhole_le {lo hi : Nat} (h : pWhole T e lo hi a = .inr x) : lo ≤ x ∧ x ≤ hi := by
  unfold pWhole at h
  split at h
  · split at h
    · cases h; assumption
    · cases h
  · cases h
theorem pNew_eq {so : Nat} {nm : List (Nat × Nat × Nat)} (h : pNew V T e nm so a = .inr x) : x = V 0 so 0 := by
  unfold pNew at h
  split at h
  · split at h
    · cases h
    · cases h; rfl
  · cases h
theorem bnd_r {α : Type} {q : pR} {k : Nat → (Nat × Nat) ⊕ α} {y : α} (h : bnd q k = .inr y) : ∃ x, q = .inr x ∧ k x = .inr y := by
  cases q with
  | inl f => cases h
  | inr x => exact ⟨x, rfl, h⟩
/-- how many of the first n are not 0 -/
def cnz (f : Nat → Nat) : Nat → Nat
  | 0 => 0
  | n + 1 => cnz f n + (if f n = 0 then 0 else 1)
theorem cnz_le {f : Nat → Nat} : ∀ n, cnz f n ≤ n
  | 0 => Nat.le_refl 0
  | n + 1 => by
    have := cnz_le (f := f) n
    unfold cnz
    split <;> omega
theorem cnz_eq {f g : Nat → Nat} : ∀ n, (∀ i, i < n → g i = f i) → cnz g n = cnz f n
  | 0, _ => rfl
  | n + 1, h => by
    unfold cnz
    rw [cnz_eq n (fun i hi => h i (by omega)), h n (by omega)]
theorem cnz_up {f g : Nat → Nat} {t : Nat} (h0 : f t = 0) (h1 : g t ≠ 0) (ho : ∀ i, i ≠ t → g i = f i) : ∀ n, t < n → cnz g n = cnz f n + 1
  | 0, h => absurd h (Nat.not_lt_zero t)
  | n + 1, h => by
    unfold cnz
    by_cases q : t = n
    · subst q
      rw [cnz_eq t (fun i hi => ho i (by omega)), if_neg h1, if_pos h0]
    · rw [cnz_up h0 h1 ho n (by omega), ho n (fun z => q z.symm)]
      omega
/-- the bounds of what has been read, and that each walk and whiff has its own -/
def PC (s : pS) : Prop := PW s ∧ s.1 0 8 0 = cnz (fun t => s.1 13 t 0) 4 ∧ s.1 0 10 0 = cnz (fun t => s.1 17 t 0) 6
def PK (T : Nat → Nat) (e : Nat) (s s' : pS) : Prop := PC s' ∧ s.2.2 ≤ s'.2.2 ∧ s'.2.2 ≤ e
variable {so n k l j : Nat} {F : List (Nat × Nat)}
theorem addV_s (hk : k ≠ so) (hF : F.find? (fun q => q.1 == 0) = none) : addV V so n F 0 k 0 = V 0 k 0 := by
  unfold addV
  rw [if_neg (fun q => hk q.2.1), hF]
  split <;> rfl
theorem addV_z : addV V so n F 0 so 0 = n + 1 := if_pos ⟨rfl, rfl, rfl⟩
theorem addV_o (h0 : k ≠ 0) (hF : F.find? (fun q => q.1 == k) = none) : addV V so n F k l j = V k l j := by
  unfold addV
  rw [if_neg (fun q => h0 q.1), hF]
  split <;> rfl
theorem addV_a {q : Nat × Nat} (h0 : k ≠ 0) (hF : F.find? (fun q => q.1 == k) = some q) : addV V so n F k n 0 = q.2 := by
  unfold addV
  rw [if_neg (fun z => h0 z.1), if_pos ⟨rfl, rfl⟩, hF]
theorem addV_b (h0 : k ≠ 0) (hl : l ≠ n) : addV V so n F k l j = V k l j := by
  unfold addV
  rw [if_neg (fun z => h0 z.1), if_neg (fun z => hl z.1)]
theorem setV_e {i y : Nat} : setV V k i j y k i j = y := if_pos ⟨rfl, rfl, rfl⟩
theorem setV_n {i y a b c : Nat} (h : ¬ (a = k ∧ b = i ∧ c = j)) : setV V k i j y a b c = V a b c := if_neg h

theorem kp_land {s s' : pS} (hC : PC s) (he : s.2.2 ≤ e) (hr : s.1 0 1 0 < 4) (h0 : 0 < s.1 0 0 0) (h : rdLand T e 1 2 0 9 1 s = .inr s') : PK T e s s' ∧ 0 < s'.1 0 0 0 := by
  obtain ⟨⟨hV, hl, hq⟩, hc8, hc10⟩ := hC
  unfold rdLand at h
  obtain ⟨x1, e1, h⟩ := bnd_r h
  obtain ⟨x2, e2, h⟩ := bnd_r h
  obtain ⟨x3, e3, h⟩ := bnd_r h
  have b3 := pWhole_le e3
  have hn1 := (nx_le (T := T) he)
  generalize hV' : addV s.1 1 (s.1 0 1 0) [(1, x3)] = V' at h
  have vs : ∀ k, k ≠ 1 → V' 0 k 0 = s.1 0 k 0 := fun k hk => by rw [← hV']; exact addV_s hk rfl
  have vz : V' 0 1 0 = s.1 0 1 0 + 1 := by rw [← hV']; exact addV_z
  have vo : ∀ k i j, k ≠ 0 → k ≠ 1 → V' k i j = s.1 k i j := fun k i j h0 g1 => by rw [← hV']; exact addV_o h0 (by simp [Ne.symm g1])
  have va1 : V' 1 (s.1 0 1 0) 0 = x3 := by rw [← hV']; exact addV_a (q := (1, x3)) (by decide) rfl
  have vb1 : ∀ l, l ≠ s.1 0 1 0 → V' 1 l 0 = s.1 1 l 0 := fun l hl => by rw [← hV']; exact addV_b (by decide) hl
  have hVW : VW V' := by
    obtain ⟨w0, w1, w2, w3, w4, w5, w6, w7, w8, w9, w10, w11, w12, w13, w14, w15, w16, w17, w18, w19, w20, w21, w22, w23⟩ := hV
    refine ⟨?_, ?_, ?_, ?_, ?_, ?_, ?_, ?_, ?_, ?_, ?_, ?_, ?_, ?_, ?_, ?_, ?_, ?_, ?_, ?_, ?_, ?_, ?_, ?_⟩
    · rw [vs 0 (by decide)]; omega
    · rw [vz]; omega
    · rw [vs 2 (by decide)]; omega
    · rw [vs 3 (by decide)]; omega
    · rw [vs 4 (by decide)]; omega
    · rw [vs 5 (by decide)]; omega
    · rw [vs 6 (by decide)]; omega
    · rw [vs 7 (by decide)]; omega
    · rw [vs 8 (by decide)]; omega
    · rw [vs 9 (by decide)]; omega
    · rw [vs 10 (by decide)]; omega
    · rw [vs 11 (by decide)]; omega
    · intro i hi
      rw [vz] at hi
      by_cases q : i = s.1 0 1 0
      · subst q
        rw [va1]
        omega
      · have h := w12 i (by omega)
        rw [vb1 i q]
        omega
    · intro i hi
      rw [vs 2 (by decide)] at hi
      have h := w13 i hi
      rw [vo 2 _ _ (by decide) (by decide), vo 3 _ _ (by decide) (by decide), vz]
      omega
    · intro i hi
      rw [vs 3 (by decide)] at hi
      have h := w14 i hi
      rw [vo 4 _ _ (by decide) (by decide)]
      omega
    · intro i hi
      rw [vs 4 (by decide)] at hi
      have h := w15 i hi
      rw [vo 5 _ _ (by decide) (by decide), vo 6 _ _ (by decide) (by decide), vz, vs 3 (by decide)]
      omega
    · intro i k; rw [vo 7 _ _ (by decide) (by decide)]; exact w16 i k
    · intro i k; rw [vo 8 _ _ (by decide) (by decide)]; exact w17 i k
    · intro i hi
      rw [vs 7 (by decide)] at hi
      have h := w18 i hi
      rw [vo 9 _ _ (by decide) (by decide), vo 10 _ _ (by decide) (by decide), vo 11 _ _ (by decide) (by decide), vz, vs 4 (by decide)]
      omega
    · intro i k; rw [vo 12 _ _ (by decide) (by decide)]; exact w19 i k
    · intro i; rw [vo 13 _ _ (by decide) (by decide)]; exact w20 i
    · intro t i hi
      rw [vo 13 _ _ (by decide) (by decide)] at hi
      have h := w21 t i hi
      rw [vo 14 _ _ (by decide) (by decide), vs 4 (by decide)]
      omega
    · intro i hi
      rw [vs 9 (by decide)] at hi
      have h := w22 i hi
      rw [vo 15 _ _ (by decide) (by decide), vo 16 _ _ (by decide) (by decide), vs 7 (by decide)]
      omega
    · intro i; rw [vo 17 _ _ (by decide) (by decide)]; exact w23 i
  have hc8' : V' 0 8 0 = cnz (fun t => V' 13 t 0) 4 := by rw [vs 8 (by decide), hc8]; exact (cnz_eq 4 (fun i _ => vo 13 i 0 (by decide) (by decide))).symm
  have hc10' : V' 0 10 0 = cnz (fun t => V' 17 t 0) 6 := by rw [vs 10 (by decide), hc10]; exact (cnz_eq 6 (fun i _ => vo 17 i 0 (by decide) (by decide))).symm
  have hq' : ∀ q ∈ s.2.1 ++ [(s.2.2, 1, x1)], q.2.2 < V' 0 q.2.1 0 := by
    intro q hm
    rcases List.mem_append.mp hm with hm | hm
    · have := hq q hm
      by_cases z : q.2.1 = 1
      · rw [z] at this ⊢; omega
      · rw [vs _ z]; exact this
    · rw [List.mem_singleton.mp hm]
      show x1 < V' 0 1 0
      rw [vz, pNew_eq e1]
      omega
  have hl' : (s.2.1 ++ [(s.2.2, 1, x1)]).length = V' 0 1 0 + V' 0 2 0 + V' 0 3 0 + V' 0 4 0 + V' 0 7 0 := by
    rw [List.length_append, List.length_singleton, hl, vz, vs 2 (by decide), vs 3 (by decide), vs 4 (by decide), vs 7 (by decide)]
    omega
  have n1 := nx_le (T := T) (e := e) (a := s.2.2) (by omega)
  have n2 := nx_le (T := T) (e := e) (a := (nx T e s.2.2)) (by omega)
  have n3 := nx_le (T := T) (e := e) (a := (nx T e (nx T e s.2.2))) (by omega)
  cases h
  exact ⟨⟨⟨⟨hVW, hl', hq'⟩, hc8', hc10'⟩, by show s.2.2 ≤ (nx T e (nx T e (nx T e s.2.2))); omega, by show (nx T e (nx T e (nx T e s.2.2))) ≤ e; omega⟩, by show 0 < V' 0 0 0; rw [vs 0 (by decide)]; exact h0⟩
theorem kp_nose {s s' : pS} (hC : PC s) (he : s.2.2 ≤ e) (hr : s.1 0 3 0 < 4) (h0 : 0 < s.1 0 0 0) (h : rdLand T e 3 5 1 60 4 s = .inr s') : PK T e s s' ∧ 0 < s'.1 0 0 0 := by
  obtain ⟨⟨hV, hl, hq⟩, hc8, hc10⟩ := hC
  unfold rdLand at h
  obtain ⟨x1, e1, h⟩ := bnd_r h
  obtain ⟨x2, e2, h⟩ := bnd_r h
  obtain ⟨x3, e3, h⟩ := bnd_r h
  have b3 := pWhole_le e3
  have hn1 := (nx_le (T := T) he)
  generalize hV' : addV s.1 3 (s.1 0 3 0) [(4, x3)] = V' at h
  have vs : ∀ k, k ≠ 3 → V' 0 k 0 = s.1 0 k 0 := fun k hk => by rw [← hV']; exact addV_s hk rfl
  have vz : V' 0 3 0 = s.1 0 3 0 + 1 := by rw [← hV']; exact addV_z
  have vo : ∀ k i j, k ≠ 0 → k ≠ 4 → V' k i j = s.1 k i j := fun k i j h0 g4 => by rw [← hV']; exact addV_o h0 (by simp [Ne.symm g4])
  have va4 : V' 4 (s.1 0 3 0) 0 = x3 := by rw [← hV']; exact addV_a (q := (4, x3)) (by decide) rfl
  have vb4 : ∀ l, l ≠ s.1 0 3 0 → V' 4 l 0 = s.1 4 l 0 := fun l hl => by rw [← hV']; exact addV_b (by decide) hl
  have hVW : VW V' := by
    obtain ⟨w0, w1, w2, w3, w4, w5, w6, w7, w8, w9, w10, w11, w12, w13, w14, w15, w16, w17, w18, w19, w20, w21, w22, w23⟩ := hV
    refine ⟨?_, ?_, ?_, ?_, ?_, ?_, ?_, ?_, ?_, ?_, ?_, ?_, ?_, ?_, ?_, ?_, ?_, ?_, ?_, ?_, ?_, ?_, ?_, ?_⟩
    · rw [vs 0 (by decide)]; omega
    · rw [vs 1 (by decide)]; omega
    · rw [vs 2 (by decide)]; omega
    · rw [vz]; omega
    · rw [vs 4 (by decide)]; omega
    · rw [vs 5 (by decide)]; omega
    · rw [vs 6 (by decide)]; omega
    · rw [vs 7 (by decide)]; omega
    · rw [vs 8 (by decide)]; omega
    · rw [vs 9 (by decide)]; omega
    · rw [vs 10 (by decide)]; omega
    · rw [vs 11 (by decide)]; omega
    · intro i hi
      rw [vs 1 (by decide)] at hi
      have h := w12 i hi
      rw [vo 1 _ _ (by decide) (by decide)]
      omega
    · intro i hi
      rw [vs 2 (by decide)] at hi
      have h := w13 i hi
      rw [vo 2 _ _ (by decide) (by decide), vo 3 _ _ (by decide) (by decide), vs 1 (by decide)]
      omega
    · intro i hi
      rw [vz] at hi
      by_cases q : i = s.1 0 3 0
      · subst q
        rw [va4]
        omega
      · have h := w14 i (by omega)
        rw [vb4 i q]
        omega
    · intro i hi
      rw [vs 4 (by decide)] at hi
      have h := w15 i hi
      rw [vo 5 _ _ (by decide) (by decide), vo 6 _ _ (by decide) (by decide), vs 1 (by decide), vz]
      omega
    · intro i k; rw [vo 7 _ _ (by decide) (by decide)]; exact w16 i k
    · intro i k; rw [vo 8 _ _ (by decide) (by decide)]; exact w17 i k
    · intro i hi
      rw [vs 7 (by decide)] at hi
      have h := w18 i hi
      rw [vo 9 _ _ (by decide) (by decide), vo 10 _ _ (by decide) (by decide), vo 11 _ _ (by decide) (by decide), vs 1 (by decide), vs 4 (by decide)]
      omega
    · intro i k; rw [vo 12 _ _ (by decide) (by decide)]; exact w19 i k
    · intro i; rw [vo 13 _ _ (by decide) (by decide)]; exact w20 i
    · intro t i hi
      rw [vo 13 _ _ (by decide) (by decide)] at hi
      have h := w21 t i hi
      rw [vo 14 _ _ (by decide) (by decide), vs 4 (by decide)]
      omega
    · intro i hi
      rw [vs 9 (by decide)] at hi
      have h := w22 i hi
      rw [vo 15 _ _ (by decide) (by decide), vo 16 _ _ (by decide) (by decide), vs 7 (by decide)]
      omega
    · intro i; rw [vo 17 _ _ (by decide) (by decide)]; exact w23 i
  have hc8' : V' 0 8 0 = cnz (fun t => V' 13 t 0) 4 := by rw [vs 8 (by decide), hc8]; exact (cnz_eq 4 (fun i _ => vo 13 i 0 (by decide) (by decide))).symm
  have hc10' : V' 0 10 0 = cnz (fun t => V' 17 t 0) 6 := by rw [vs 10 (by decide), hc10]; exact (cnz_eq 6 (fun i _ => vo 17 i 0 (by decide) (by decide))).symm
  have hq' : ∀ q ∈ s.2.1 ++ [(s.2.2, 3, x1)], q.2.2 < V' 0 q.2.1 0 := by
    intro q hm
    rcases List.mem_append.mp hm with hm | hm
    · have := hq q hm
      by_cases z : q.2.1 = 3
      · rw [z] at this ⊢; omega
      · rw [vs _ z]; exact this
    · rw [List.mem_singleton.mp hm]
      show x1 < V' 0 3 0
      rw [vz, pNew_eq e1]
      omega
  have hl' : (s.2.1 ++ [(s.2.2, 3, x1)]).length = V' 0 1 0 + V' 0 2 0 + V' 0 3 0 + V' 0 4 0 + V' 0 7 0 := by
    rw [List.length_append, List.length_singleton, hl, vs 1 (by decide), vs 2 (by decide), vz, vs 4 (by decide), vs 7 (by decide)]
    omega
  have n1 := nx_le (T := T) (e := e) (a := s.2.2) (by omega)
  have n2 := nx_le (T := T) (e := e) (a := (nx T e s.2.2)) (by omega)
  have n3 := nx_le (T := T) (e := e) (a := (nx T e (nx T e s.2.2))) (by omega)
  cases h
  exact ⟨⟨⟨⟨hVW, hl', hq'⟩, hc8', hc10'⟩, by show s.2.2 ≤ (nx T e (nx T e (nx T e s.2.2))); omega, by show (nx T e (nx T e (nx T e s.2.2))) ≤ e; omega⟩, by show 0 < V' 0 0 0; rw [vs 0 (by decide)]; exact h0⟩
theorem kp_smell {s s' : pS} (hC : PC s) (he : s.2.2 ≤ e) (hr : s.1 0 2 0 < 6) (h0 : 0 < s.1 0 0 0) (h : rd_smell T e s = .inr s') : PK T e s s' ∧ 0 < s'.1 0 0 0 := by
  obtain ⟨⟨hV, hl, hq⟩, hc8, hc10⟩ := hC
  unfold rd_smell at h
  obtain ⟨x1, e1, h⟩ := bnd_r h
  obtain ⟨x2, e2, h⟩ := bnd_r h
  obtain ⟨x3, e3, h⟩ := bnd_r h
  obtain ⟨x4, e4, h⟩ := bnd_r h
  have b2 := pChoice_lt (by omega) e2
  rw [wdN_3] at b2
  have b4 : x4 < s.1 0 1 0 := by
    have hh := pKnown_lt (V := fun a b c => if a = 0 ∧ b = 2 ∧ c = 0 then s.1 0 2 0 + 1 else s.1 a b c) e4 (fun q hm => by
      rcases List.mem_append.mp hm with hm | hm
      · have := hq q hm
        by_cases z : q.2.1 = 2
        · rw [z] at this ⊢; show _ < (if 0 = 0 ∧ 2 = 2 ∧ 0 = 0 then s.1 0 2 0 + 1 else s.1 0 2 0); rw [if_pos ⟨rfl, rfl, rfl⟩]; omega
        · show _ < (if 0 = 0 ∧ q.2.1 = 2 ∧ 0 = 0 then s.1 0 2 0 + 1 else s.1 0 q.2.1 0); rw [if_neg (fun y => z y.2.1)]; exact this
      · rw [List.mem_singleton.mp hm]; show x1 < (if 0 = 0 ∧ 2 = 2 ∧ 0 = 0 then s.1 0 2 0 + 1 else s.1 0 2 0); rw [if_pos ⟨rfl, rfl, rfl⟩, pNew_eq e1]; omega)
    exact Nat.lt_of_lt_of_eq (show x4 < (if 0 = 0 ∧ 1 = 2 ∧ 0 = 0 then s.1 0 2 0 + 1 else s.1 0 1 0) from hh) (if_neg (by decide))
  have hn1 := (nx_le (T := T) he)
  generalize hV' : addV s.1 2 (s.1 0 2 0) [(2, x2), (3, x4)] = V' at h
  have vs : ∀ k, k ≠ 2 → V' 0 k 0 = s.1 0 k 0 := fun k hk => by rw [← hV']; exact addV_s hk rfl
  have vz : V' 0 2 0 = s.1 0 2 0 + 1 := by rw [← hV']; exact addV_z
  have vo : ∀ k i j, k ≠ 0 → k ≠ 2 → k ≠ 3 → V' k i j = s.1 k i j := fun k i j h0 g2 g3 => by rw [← hV']; exact addV_o h0 (by simp [Ne.symm g2, Ne.symm g3])
  have va2 : V' 2 (s.1 0 2 0) 0 = x2 := by rw [← hV']; exact addV_a (q := (2, x2)) (by decide) rfl
  have vb2 : ∀ l, l ≠ s.1 0 2 0 → V' 2 l 0 = s.1 2 l 0 := fun l hl => by rw [← hV']; exact addV_b (by decide) hl
  have va3 : V' 3 (s.1 0 2 0) 0 = x4 := by rw [← hV']; exact addV_a (q := (3, x4)) (by decide) rfl
  have vb3 : ∀ l, l ≠ s.1 0 2 0 → V' 3 l 0 = s.1 3 l 0 := fun l hl => by rw [← hV']; exact addV_b (by decide) hl
  have hVW : VW V' := by
    obtain ⟨w0, w1, w2, w3, w4, w5, w6, w7, w8, w9, w10, w11, w12, w13, w14, w15, w16, w17, w18, w19, w20, w21, w22, w23⟩ := hV
    refine ⟨?_, ?_, ?_, ?_, ?_, ?_, ?_, ?_, ?_, ?_, ?_, ?_, ?_, ?_, ?_, ?_, ?_, ?_, ?_, ?_, ?_, ?_, ?_, ?_⟩
    · rw [vs 0 (by decide)]; omega
    · rw [vs 1 (by decide)]; omega
    · rw [vz]; omega
    · rw [vs 3 (by decide)]; omega
    · rw [vs 4 (by decide)]; omega
    · rw [vs 5 (by decide)]; omega
    · rw [vs 6 (by decide)]; omega
    · rw [vs 7 (by decide)]; omega
    · rw [vs 8 (by decide)]; omega
    · rw [vs 9 (by decide)]; omega
    · rw [vs 10 (by decide)]; omega
    · rw [vs 11 (by decide)]; omega
    · intro i hi
      rw [vs 1 (by decide)] at hi
      have h := w12 i hi
      rw [vo 1 _ _ (by decide) (by decide) (by decide)]
      omega
    · intro i hi
      rw [vz] at hi
      by_cases q : i = s.1 0 2 0
      · subst q
        rw [va2, va3, vs 1 (by decide)]
        omega
      · have h := w13 i (by omega)
        rw [vb2 i q, vb3 i q, vs 1 (by decide)]
        omega
    · intro i hi
      rw [vs 3 (by decide)] at hi
      have h := w14 i hi
      rw [vo 4 _ _ (by decide) (by decide) (by decide)]
      omega
    · intro i hi
      rw [vs 4 (by decide)] at hi
      have h := w15 i hi
      rw [vo 5 _ _ (by decide) (by decide) (by decide), vo 6 _ _ (by decide) (by decide) (by decide), vs 1 (by decide), vs 3 (by decide)]
      omega
    · intro i k; rw [vo 7 _ _ (by decide) (by decide) (by decide)]; exact w16 i k
    · intro i k; rw [vo 8 _ _ (by decide) (by decide) (by decide)]; exact w17 i k
    · intro i hi
      rw [vs 7 (by decide)] at hi
      have h := w18 i hi
      rw [vo 9 _ _ (by decide) (by decide) (by decide), vo 10 _ _ (by decide) (by decide) (by decide), vo 11 _ _ (by decide) (by decide) (by decide), vs 1 (by decide), vs 4 (by decide)]
      omega
    · intro i k; rw [vo 12 _ _ (by decide) (by decide) (by decide)]; exact w19 i k
    · intro i; rw [vo 13 _ _ (by decide) (by decide) (by decide)]; exact w20 i
    · intro t i hi
      rw [vo 13 _ _ (by decide) (by decide) (by decide)] at hi
      have h := w21 t i hi
      rw [vo 14 _ _ (by decide) (by decide) (by decide), vs 4 (by decide)]
      omega
    · intro i hi
      rw [vs 9 (by decide)] at hi
      have h := w22 i hi
      rw [vo 15 _ _ (by decide) (by decide) (by decide), vo 16 _ _ (by decide) (by decide) (by decide), vs 7 (by decide)]
      omega
    · intro i; rw [vo 17 _ _ (by decide) (by decide) (by decide)]; exact w23 i
  have hc8' : V' 0 8 0 = cnz (fun t => V' 13 t 0) 4 := by rw [vs 8 (by decide), hc8]; exact (cnz_eq 4 (fun i _ => vo 13 i 0 (by decide) (by decide) (by decide))).symm
  have hc10' : V' 0 10 0 = cnz (fun t => V' 17 t 0) 6 := by rw [vs 10 (by decide), hc10]; exact (cnz_eq 6 (fun i _ => vo 17 i 0 (by decide) (by decide) (by decide))).symm
  have hq' : ∀ q ∈ s.2.1 ++ [(s.2.2, 2, x1)], q.2.2 < V' 0 q.2.1 0 := by
    intro q hm
    rcases List.mem_append.mp hm with hm | hm
    · have := hq q hm
      by_cases z : q.2.1 = 2
      · rw [z] at this ⊢; omega
      · rw [vs _ z]; exact this
    · rw [List.mem_singleton.mp hm]
      show x1 < V' 0 2 0
      rw [vz, pNew_eq e1]
      omega
  have hl' : (s.2.1 ++ [(s.2.2, 2, x1)]).length = V' 0 1 0 + V' 0 2 0 + V' 0 3 0 + V' 0 4 0 + V' 0 7 0 := by
    rw [List.length_append, List.length_singleton, hl, vs 1 (by decide), vz, vs 3 (by decide), vs 4 (by decide), vs 7 (by decide)]
    omega
  have n1 := nx_le (T := T) (e := e) (a := s.2.2) (by omega)
  have n2 := nx_le (T := T) (e := e) (a := (nx T e s.2.2)) (by omega)
  have n3 := nx_le (T := T) (e := e) (a := (nx T e (nx T e s.2.2))) (by omega)
  have n4 := nx_le (T := T) (e := e) (a := (nx T e (nx T e (nx T e s.2.2)))) (by omega)
  cases h
  exact ⟨⟨⟨⟨hVW, hl', hq'⟩, hc8', hc10'⟩, by show s.2.2 ≤ (nx T e (nx T e (nx T e (nx T e s.2.2)))); omega, by show (nx T e (nx T e (nx T e (nx T e s.2.2)))) ≤ e; omega⟩, by show 0 < V' 0 0 0; rw [vs 0 (by decide)]; exact h0⟩
theorem kp_trav {s s' : pS} (hC : PC s) (he : s.2.2 ≤ e) (hr : s.1 0 7 0 < 4) (h0 : 0 < s.1 0 0 0) (h : rd_trav T e s = .inr s') : PK T e s s' ∧ 0 < s'.1 0 0 0 := by
  obtain ⟨⟨hV, hl, hq⟩, hc8, hc10⟩ := hC
  unfold rd_trav at h
  obtain ⟨x1, e1, h⟩ := bnd_r h
  obtain ⟨x2, e2, h⟩ := bnd_r h
  obtain ⟨x3, e3, h⟩ := bnd_r h
  obtain ⟨x4, e4, h⟩ := bnd_r h
  obtain ⟨x5, e5, h⟩ := bnd_r h
  obtain ⟨x6, e6, h⟩ := bnd_r h
  have b2 := pChoice_lt (by omega) e2
  rw [wdN_9] at b2
  have b4 : x4 < s.1 0 1 0 := by
    have hh := pKnown_lt (V := fun a b c => if a = 0 ∧ b = 7 ∧ c = 0 then s.1 0 7 0 + 1 else s.1 a b c) e4 (fun q hm => by
      rcases List.mem_append.mp hm with hm | hm
      · have := hq q hm
        by_cases z : q.2.1 = 7
        · rw [z] at this ⊢; show _ < (if 0 = 0 ∧ 7 = 7 ∧ 0 = 0 then s.1 0 7 0 + 1 else s.1 0 7 0); rw [if_pos ⟨rfl, rfl, rfl⟩]; omega
        · show _ < (if 0 = 0 ∧ q.2.1 = 7 ∧ 0 = 0 then s.1 0 7 0 + 1 else s.1 0 q.2.1 0); rw [if_neg (fun y => z y.2.1)]; exact this
      · rw [List.mem_singleton.mp hm]; show x1 < (if 0 = 0 ∧ 7 = 7 ∧ 0 = 0 then s.1 0 7 0 + 1 else s.1 0 7 0); rw [if_pos ⟨rfl, rfl, rfl⟩, pNew_eq e1]; omega)
    exact Nat.lt_of_lt_of_eq (show x4 < (if 0 = 0 ∧ 1 = 7 ∧ 0 = 0 then s.1 0 7 0 + 1 else s.1 0 1 0) from hh) (if_neg (by decide))
  have b6 : x6 < s.1 0 4 0 := by
    have hh := pKnown_lt (V := fun a b c => if a = 0 ∧ b = 7 ∧ c = 0 then s.1 0 7 0 + 1 else s.1 a b c) e6 (fun q hm => by
      rcases List.mem_append.mp hm with hm | hm
      · have := hq q hm
        by_cases z : q.2.1 = 7
        · rw [z] at this ⊢; show _ < (if 0 = 0 ∧ 7 = 7 ∧ 0 = 0 then s.1 0 7 0 + 1 else s.1 0 7 0); rw [if_pos ⟨rfl, rfl, rfl⟩]; omega
        · show _ < (if 0 = 0 ∧ q.2.1 = 7 ∧ 0 = 0 then s.1 0 7 0 + 1 else s.1 0 q.2.1 0); rw [if_neg (fun y => z y.2.1)]; exact this
      · rw [List.mem_singleton.mp hm]; show x1 < (if 0 = 0 ∧ 7 = 7 ∧ 0 = 0 then s.1 0 7 0 + 1 else s.1 0 7 0); rw [if_pos ⟨rfl, rfl, rfl⟩, pNew_eq e1]; omega)
    exact Nat.lt_of_lt_of_eq (show x6 < (if 0 = 0 ∧ 4 = 7 ∧ 0 = 0 then s.1 0 7 0 + 1 else s.1 0 4 0) from hh) (if_neg (by decide))
  have hn1 := (nx_le (T := T) he)
  generalize hV' : addV s.1 7 (s.1 0 7 0) [(9, x2), (10, x4), (11, x6)] = V' at h
  have vs : ∀ k, k ≠ 7 → V' 0 k 0 = s.1 0 k 0 := fun k hk => by rw [← hV']; exact addV_s hk rfl
  have vz : V' 0 7 0 = s.1 0 7 0 + 1 := by rw [← hV']; exact addV_z
  have vo : ∀ k i j, k ≠ 0 → k ≠ 9 → k ≠ 10 → k ≠ 11 → V' k i j = s.1 k i j := fun k i j h0 g9 g10 g11 => by rw [← hV']; exact addV_o h0 (by simp [Ne.symm g9, Ne.symm g10, Ne.symm g11])
  have va9 : V' 9 (s.1 0 7 0) 0 = x2 := by rw [← hV']; exact addV_a (q := (9, x2)) (by decide) rfl
  have vb9 : ∀ l, l ≠ s.1 0 7 0 → V' 9 l 0 = s.1 9 l 0 := fun l hl => by rw [← hV']; exact addV_b (by decide) hl
  have va10 : V' 10 (s.1 0 7 0) 0 = x4 := by rw [← hV']; exact addV_a (q := (10, x4)) (by decide) rfl
  have vb10 : ∀ l, l ≠ s.1 0 7 0 → V' 10 l 0 = s.1 10 l 0 := fun l hl => by rw [← hV']; exact addV_b (by decide) hl
  have va11 : V' 11 (s.1 0 7 0) 0 = x6 := by rw [← hV']; exact addV_a (q := (11, x6)) (by decide) rfl
  have vb11 : ∀ l, l ≠ s.1 0 7 0 → V' 11 l 0 = s.1 11 l 0 := fun l hl => by rw [← hV']; exact addV_b (by decide) hl
  have hVW : VW V' := by
    obtain ⟨w0, w1, w2, w3, w4, w5, w6, w7, w8, w9, w10, w11, w12, w13, w14, w15, w16, w17, w18, w19, w20, w21, w22, w23⟩ := hV
    refine ⟨?_, ?_, ?_, ?_, ?_, ?_, ?_, ?_, ?_, ?_, ?_, ?_, ?_, ?_, ?_, ?_, ?_, ?_, ?_, ?_, ?_, ?_, ?_, ?_⟩
    · rw [vs 0 (by decide)]; omega
    · rw [vs 1 (by decide)]; omega
    · rw [vs 2 (by decide)]; omega
    · rw [vs 3 (by decide)]; omega
    · rw [vs 4 (by decide)]; omega
    · rw [vs 5 (by decide)]; omega
    · rw [vs 6 (by decide)]; omega
    · rw [vz]; omega
    · rw [vs 8 (by decide)]; omega
    · rw [vs 9 (by decide)]; omega
    · rw [vs 10 (by decide)]; omega
    · rw [vs 11 (by decide)]; omega
    · intro i hi
      rw [vs 1 (by decide)] at hi
      have h := w12 i hi
      rw [vo 1 _ _ (by decide) (by decide) (by decide) (by decide)]
      omega
    · intro i hi
      rw [vs 2 (by decide)] at hi
      have h := w13 i hi
      rw [vo 2 _ _ (by decide) (by decide) (by decide) (by decide), vo 3 _ _ (by decide) (by decide) (by decide) (by decide), vs 1 (by decide)]
      omega
    · intro i hi
      rw [vs 3 (by decide)] at hi
      have h := w14 i hi
      rw [vo 4 _ _ (by decide) (by decide) (by decide) (by decide)]
      omega
    · intro i hi
      rw [vs 4 (by decide)] at hi
      have h := w15 i hi
      rw [vo 5 _ _ (by decide) (by decide) (by decide) (by decide), vo 6 _ _ (by decide) (by decide) (by decide) (by decide), vs 1 (by decide), vs 3 (by decide)]
      omega
    · intro i k; rw [vo 7 _ _ (by decide) (by decide) (by decide) (by decide)]; exact w16 i k
    · intro i k; rw [vo 8 _ _ (by decide) (by decide) (by decide) (by decide)]; exact w17 i k
    · intro i hi
      rw [vz] at hi
      by_cases q : i = s.1 0 7 0
      · subst q
        rw [va9, va10, va11, vs 1 (by decide), vs 4 (by decide)]
        omega
      · have h := w18 i (by omega)
        rw [vb9 i q, vb10 i q, vb11 i q, vs 1 (by decide), vs 4 (by decide)]
        omega
    · intro i k; rw [vo 12 _ _ (by decide) (by decide) (by decide) (by decide)]; exact w19 i k
    · intro i; rw [vo 13 _ _ (by decide) (by decide) (by decide) (by decide)]; exact w20 i
    · intro t i hi
      rw [vo 13 _ _ (by decide) (by decide) (by decide) (by decide)] at hi
      have h := w21 t i hi
      rw [vo 14 _ _ (by decide) (by decide) (by decide) (by decide), vs 4 (by decide)]
      omega
    · intro i hi
      rw [vs 9 (by decide)] at hi
      have h := w22 i hi
      rw [vo 15 _ _ (by decide) (by decide) (by decide) (by decide), vo 16 _ _ (by decide) (by decide) (by decide) (by decide), vz]
      omega
    · intro i; rw [vo 17 _ _ (by decide) (by decide) (by decide) (by decide)]; exact w23 i
  have hc8' : V' 0 8 0 = cnz (fun t => V' 13 t 0) 4 := by rw [vs 8 (by decide), hc8]; exact (cnz_eq 4 (fun i _ => vo 13 i 0 (by decide) (by decide) (by decide) (by decide))).symm
  have hc10' : V' 0 10 0 = cnz (fun t => V' 17 t 0) 6 := by rw [vs 10 (by decide), hc10]; exact (cnz_eq 6 (fun i _ => vo 17 i 0 (by decide) (by decide) (by decide) (by decide))).symm
  have hq' : ∀ q ∈ s.2.1 ++ [(s.2.2, 7, x1)], q.2.2 < V' 0 q.2.1 0 := by
    intro q hm
    rcases List.mem_append.mp hm with hm | hm
    · have := hq q hm
      by_cases z : q.2.1 = 7
      · rw [z] at this ⊢; omega
      · rw [vs _ z]; exact this
    · rw [List.mem_singleton.mp hm]
      show x1 < V' 0 7 0
      rw [vz, pNew_eq e1]
      omega
  have hl' : (s.2.1 ++ [(s.2.2, 7, x1)]).length = V' 0 1 0 + V' 0 2 0 + V' 0 3 0 + V' 0 4 0 + V' 0 7 0 := by
    rw [List.length_append, List.length_singleton, hl, vs 1 (by decide), vs 2 (by decide), vs 3 (by decide), vs 4 (by decide), vz]
    omega
  have n1 := nx_le (T := T) (e := e) (a := s.2.2) (by omega)
  have n2 := nx_le (T := T) (e := e) (a := (nx T e s.2.2)) (by omega)
  have n3 := nx_le (T := T) (e := e) (a := (nx T e (nx T e s.2.2))) (by omega)
  have n4 := nx_le (T := T) (e := e) (a := (nx T e (nx T e (nx T e s.2.2)))) (by omega)
  have n5 := nx_le (T := T) (e := e) (a := (nx T e (nx T e (nx T e (nx T e s.2.2))))) (by omega)
  have n6 := nx_le (T := T) (e := e) (a := (nx T e (nx T e (nx T e (nx T e (nx T e s.2.2)))))) (by omega)
  cases h
  exact ⟨⟨⟨⟨hVW, hl', hq'⟩, hc8', hc10'⟩, by show s.2.2 ≤ (nx T e (nx T e (nx T e (nx T e (nx T e (nx T e s.2.2)))))); omega, by show (nx T e (nx T e (nx T e (nx T e (nx T e (nx T e s.2.2)))))) ≤ e; omega⟩, by show 0 < V' 0 0 0; rw [vs 0 (by decide)]; exact h0⟩
theorem kp_asked {s s' : pS} (hC : PC s) (he : s.2.2 ≤ e) (hr : s.1 0 9 0 < 4) (h0 : 0 < s.1 0 0 0) (h : rd_asked T e s = .inr s') : PK T e s s' ∧ 0 < s'.1 0 0 0 := by
  obtain ⟨⟨hV, hl, hq⟩, hc8, hc10⟩ := hC
  unfold rd_asked at h
  obtain ⟨x1, e1, h⟩ := bnd_r h
  obtain ⟨x2, e2, h⟩ := bnd_r h
  have b1 := pKnown_lt (V := s.1) e1 hq
  have b2 := pWhole_le e2
  have hn1 := (nx_le (T := T) he)
  generalize hV' : addV s.1 9 (s.1 0 9 0) [(15, x1), (16, x2)] = V' at h
  have vs : ∀ k, k ≠ 9 → V' 0 k 0 = s.1 0 k 0 := fun k hk => by rw [← hV']; exact addV_s hk rfl
  have vz : V' 0 9 0 = s.1 0 9 0 + 1 := by rw [← hV']; exact addV_z
  have vo : ∀ k i j, k ≠ 0 → k ≠ 15 → k ≠ 16 → V' k i j = s.1 k i j := fun k i j h0 g15 g16 => by rw [← hV']; exact addV_o h0 (by simp [Ne.symm g15, Ne.symm g16])
  have va15 : V' 15 (s.1 0 9 0) 0 = x1 := by rw [← hV']; exact addV_a (q := (15, x1)) (by decide) rfl
  have vb15 : ∀ l, l ≠ s.1 0 9 0 → V' 15 l 0 = s.1 15 l 0 := fun l hl => by rw [← hV']; exact addV_b (by decide) hl
  have va16 : V' 16 (s.1 0 9 0) 0 = x2 := by rw [← hV']; exact addV_a (q := (16, x2)) (by decide) rfl
  have vb16 : ∀ l, l ≠ s.1 0 9 0 → V' 16 l 0 = s.1 16 l 0 := fun l hl => by rw [← hV']; exact addV_b (by decide) hl
  have hVW : VW V' := by
    obtain ⟨w0, w1, w2, w3, w4, w5, w6, w7, w8, w9, w10, w11, w12, w13, w14, w15, w16, w17, w18, w19, w20, w21, w22, w23⟩ := hV
    refine ⟨?_, ?_, ?_, ?_, ?_, ?_, ?_, ?_, ?_, ?_, ?_, ?_, ?_, ?_, ?_, ?_, ?_, ?_, ?_, ?_, ?_, ?_, ?_, ?_⟩
    · rw [vs 0 (by decide)]; omega
    · rw [vs 1 (by decide)]; omega
    · rw [vs 2 (by decide)]; omega
    · rw [vs 3 (by decide)]; omega
    · rw [vs 4 (by decide)]; omega
    · rw [vs 5 (by decide)]; omega
    · rw [vs 6 (by decide)]; omega
    · rw [vs 7 (by decide)]; omega
    · rw [vs 8 (by decide)]; omega
    · rw [vz]; omega
    · rw [vs 10 (by decide)]; omega
    · rw [vs 11 (by decide)]; omega
    · intro i hi
      rw [vs 1 (by decide)] at hi
      have h := w12 i hi
      rw [vo 1 _ _ (by decide) (by decide) (by decide)]
      omega
    · intro i hi
      rw [vs 2 (by decide)] at hi
      have h := w13 i hi
      rw [vo 2 _ _ (by decide) (by decide) (by decide), vo 3 _ _ (by decide) (by decide) (by decide), vs 1 (by decide)]
      omega
    · intro i hi
      rw [vs 3 (by decide)] at hi
      have h := w14 i hi
      rw [vo 4 _ _ (by decide) (by decide) (by decide)]
      omega
    · intro i hi
      rw [vs 4 (by decide)] at hi
      have h := w15 i hi
      rw [vo 5 _ _ (by decide) (by decide) (by decide), vo 6 _ _ (by decide) (by decide) (by decide), vs 1 (by decide), vs 3 (by decide)]
      omega
    · intro i k; rw [vo 7 _ _ (by decide) (by decide) (by decide)]; exact w16 i k
    · intro i k; rw [vo 8 _ _ (by decide) (by decide) (by decide)]; exact w17 i k
    · intro i hi
      rw [vs 7 (by decide)] at hi
      have h := w18 i hi
      rw [vo 9 _ _ (by decide) (by decide) (by decide), vo 10 _ _ (by decide) (by decide) (by decide), vo 11 _ _ (by decide) (by decide) (by decide), vs 1 (by decide), vs 4 (by decide)]
      omega
    · intro i k; rw [vo 12 _ _ (by decide) (by decide) (by decide)]; exact w19 i k
    · intro i; rw [vo 13 _ _ (by decide) (by decide) (by decide)]; exact w20 i
    · intro t i hi
      rw [vo 13 _ _ (by decide) (by decide) (by decide)] at hi
      have h := w21 t i hi
      rw [vo 14 _ _ (by decide) (by decide) (by decide), vs 4 (by decide)]
      omega
    · intro i hi
      rw [vz] at hi
      by_cases q : i = s.1 0 9 0
      · subst q
        rw [va15, va16, vs 7 (by decide)]
        omega
      · have h := w22 i (by omega)
        rw [vb15 i q, vb16 i q, vs 7 (by decide)]
        omega
    · intro i; rw [vo 17 _ _ (by decide) (by decide) (by decide)]; exact w23 i
  have hc8' : V' 0 8 0 = cnz (fun t => V' 13 t 0) 4 := by rw [vs 8 (by decide), hc8]; exact (cnz_eq 4 (fun i _ => vo 13 i 0 (by decide) (by decide) (by decide))).symm
  have hc10' : V' 0 10 0 = cnz (fun t => V' 17 t 0) 6 := by rw [vs 10 (by decide), hc10]; exact (cnz_eq 6 (fun i _ => vo 17 i 0 (by decide) (by decide) (by decide))).symm
  have hq' : ∀ q ∈ s.2.1, q.2.2 < V' 0 q.2.1 0 := by
    intro q hm
    have := hq q hm
    by_cases z : q.2.1 = 9
    · rw [z] at this ⊢; omega
    · rw [vs _ z]; exact this
  have hl' : s.2.1.length = V' 0 1 0 + V' 0 2 0 + V' 0 3 0 + V' 0 4 0 + V' 0 7 0 := by
    rw [hl, vs 1 (by decide), vs 2 (by decide), vs 3 (by decide), vs 4 (by decide), vs 7 (by decide)]
  have n1 := nx_le (T := T) (e := e) (a := s.2.2) (by omega)
  have n2 := nx_le (T := T) (e := e) (a := (nx T e s.2.2)) (by omega)
  cases h
  exact ⟨⟨⟨⟨hVW, hl', hq'⟩, hc8', hc10'⟩, by show s.2.2 ≤ (nx T e (nx T e s.2.2)); omega, by show (nx T e (nx T e s.2.2)) ≤ e; omega⟩, by show 0 < V' 0 0 0; rw [vs 0 (by decide)]; exact h0⟩
theorem kp_place {s s' : pS} (hC : PC s) (he : s.2.2 ≤ e) (hr : s.1 0 4 0 < 6) (h0 : 0 < s.1 0 0 0) (h : rd_place T e s = .inr s') : PK T e s s' ∧ 0 < s'.1 0 0 0 := by
  obtain ⟨⟨hV, hl, hq⟩, hc8, hc10⟩ := hC
  unfold rd_place at h
  obtain ⟨x1, e1, h⟩ := bnd_r h
  obtain ⟨x2, e2, h⟩ := bnd_r h
  obtain ⟨x3, e3, h⟩ := bnd_r h
  have b3 : x3 < s.1 0 1 0 := by
    have hh := pKnown_lt (V := fun a b c => if a = 0 ∧ b = 4 ∧ c = 0 then s.1 0 4 0 + 1 else s.1 a b c) e3 (fun q hm => by
      rcases List.mem_append.mp hm with hm | hm
      · have := hq q hm
        by_cases z : q.2.1 = 4
        · rw [z] at this ⊢; show _ < (if 0 = 0 ∧ 4 = 4 ∧ 0 = 0 then s.1 0 4 0 + 1 else s.1 0 4 0); rw [if_pos ⟨rfl, rfl, rfl⟩]; omega
        · show _ < (if 0 = 0 ∧ q.2.1 = 4 ∧ 0 = 0 then s.1 0 4 0 + 1 else s.1 0 q.2.1 0); rw [if_neg (fun y => z y.2.1)]; exact this
      · rw [List.mem_singleton.mp hm]; show x1 < (if 0 = 0 ∧ 4 = 4 ∧ 0 = 0 then s.1 0 4 0 + 1 else s.1 0 4 0); rw [if_pos ⟨rfl, rfl, rfl⟩, pNew_eq e1]; omega)
    exact Nat.lt_of_lt_of_eq (show x3 < (if 0 = 0 ∧ 1 = 4 ∧ 0 = 0 then s.1 0 4 0 + 1 else s.1 0 1 0) from hh) (if_neg (by decide))
  split at h
  · obtain ⟨x4, e4, h⟩ := bnd_r h
    have b4 : x4 < s.1 0 3 0 := by
      have hh := pKnown_lt (V := fun a b c => if a = 0 ∧ b = 4 ∧ c = 0 then s.1 0 4 0 + 1 else s.1 a b c) e4 (fun q hm => by
        rcases List.mem_append.mp hm with hm | hm
        · have := hq q hm
          by_cases z : q.2.1 = 4
          · rw [z] at this ⊢; show _ < (if 0 = 0 ∧ 4 = 4 ∧ 0 = 0 then s.1 0 4 0 + 1 else s.1 0 4 0); rw [if_pos ⟨rfl, rfl, rfl⟩]; omega
          · show _ < (if 0 = 0 ∧ q.2.1 = 4 ∧ 0 = 0 then s.1 0 4 0 + 1 else s.1 0 q.2.1 0); rw [if_neg (fun y => z y.2.1)]; exact this
        · rw [List.mem_singleton.mp hm]; show x1 < (if 0 = 0 ∧ 4 = 4 ∧ 0 = 0 then s.1 0 4 0 + 1 else s.1 0 4 0); rw [if_pos ⟨rfl, rfl, rfl⟩, pNew_eq e1]; omega)
      exact Nat.lt_of_lt_of_eq (show x4 < (if 0 = 0 ∧ 3 = 4 ∧ 0 = 0 then s.1 0 4 0 + 1 else s.1 0 3 0) from hh) (if_neg (by decide))
    have hn1 := (nx_le (T := T) he)
    generalize hV' : addV s.1 4 (s.1 0 4 0) [(5, x3), (6, x4 + 1)] = V' at h
    have vs : ∀ k, k ≠ 4 → V' 0 k 0 = s.1 0 k 0 := fun k hk => by rw [← hV']; exact addV_s hk rfl
    have vz : V' 0 4 0 = s.1 0 4 0 + 1 := by rw [← hV']; exact addV_z
    have vo : ∀ k i j, k ≠ 0 → k ≠ 5 → k ≠ 6 → V' k i j = s.1 k i j := fun k i j h0 g5 g6 => by rw [← hV']; exact addV_o h0 (by simp [Ne.symm g5, Ne.symm g6])
    have va5 : V' 5 (s.1 0 4 0) 0 = x3 := by rw [← hV']; exact addV_a (q := (5, x3)) (by decide) rfl
    have vb5 : ∀ l, l ≠ s.1 0 4 0 → V' 5 l 0 = s.1 5 l 0 := fun l hl => by rw [← hV']; exact addV_b (by decide) hl
    have va6 : V' 6 (s.1 0 4 0) 0 = x4 + 1 := by rw [← hV']; exact addV_a (q := (6, x4 + 1)) (by decide) rfl
    have vb6 : ∀ l, l ≠ s.1 0 4 0 → V' 6 l 0 = s.1 6 l 0 := fun l hl => by rw [← hV']; exact addV_b (by decide) hl
    have hVW : VW V' := by
      obtain ⟨w0, w1, w2, w3, w4, w5, w6, w7, w8, w9, w10, w11, w12, w13, w14, w15, w16, w17, w18, w19, w20, w21, w22, w23⟩ := hV
      refine ⟨?_, ?_, ?_, ?_, ?_, ?_, ?_, ?_, ?_, ?_, ?_, ?_, ?_, ?_, ?_, ?_, ?_, ?_, ?_, ?_, ?_, ?_, ?_, ?_⟩
      · rw [vs 0 (by decide)]; omega
      · rw [vs 1 (by decide)]; omega
      · rw [vs 2 (by decide)]; omega
      · rw [vs 3 (by decide)]; omega
      · rw [vz]; omega
      · rw [vs 5 (by decide)]; omega
      · rw [vs 6 (by decide)]; omega
      · rw [vs 7 (by decide)]; omega
      · rw [vs 8 (by decide)]; omega
      · rw [vs 9 (by decide)]; omega
      · rw [vs 10 (by decide)]; omega
      · rw [vs 11 (by decide)]; omega
      · intro i hi
        rw [vs 1 (by decide)] at hi
        have h := w12 i hi
        rw [vo 1 _ _ (by decide) (by decide) (by decide)]
        omega
      · intro i hi
        rw [vs 2 (by decide)] at hi
        have h := w13 i hi
        rw [vo 2 _ _ (by decide) (by decide) (by decide), vo 3 _ _ (by decide) (by decide) (by decide), vs 1 (by decide)]
        omega
      · intro i hi
        rw [vs 3 (by decide)] at hi
        have h := w14 i hi
        rw [vo 4 _ _ (by decide) (by decide) (by decide)]
        omega
      · intro i hi
        rw [vz] at hi
        by_cases q : i = s.1 0 4 0
        · subst q
          rw [va5, va6, vs 1 (by decide), vs 3 (by decide)]
          omega
        · have h := w15 i (by omega)
          rw [vb5 i q, vb6 i q, vs 1 (by decide), vs 3 (by decide)]
          omega
      · intro i k; rw [vo 7 _ _ (by decide) (by decide) (by decide)]; exact w16 i k
      · intro i k; rw [vo 8 _ _ (by decide) (by decide) (by decide)]; exact w17 i k
      · intro i hi
        rw [vs 7 (by decide)] at hi
        have h := w18 i hi
        rw [vo 9 _ _ (by decide) (by decide) (by decide), vo 10 _ _ (by decide) (by decide) (by decide), vo 11 _ _ (by decide) (by decide) (by decide), vs 1 (by decide), vz]
        omega
      · intro i k; rw [vo 12 _ _ (by decide) (by decide) (by decide)]; exact w19 i k
      · intro i; rw [vo 13 _ _ (by decide) (by decide) (by decide)]; exact w20 i
      · intro t i hi
        rw [vo 13 _ _ (by decide) (by decide) (by decide)] at hi
        have h := w21 t i hi
        rw [vo 14 _ _ (by decide) (by decide) (by decide), vz]
        omega
      · intro i hi
        rw [vs 9 (by decide)] at hi
        have h := w22 i hi
        rw [vo 15 _ _ (by decide) (by decide) (by decide), vo 16 _ _ (by decide) (by decide) (by decide), vs 7 (by decide)]
        omega
      · intro i; rw [vo 17 _ _ (by decide) (by decide) (by decide)]; exact w23 i
    have hc8' : V' 0 8 0 = cnz (fun t => V' 13 t 0) 4 := by rw [vs 8 (by decide), hc8]; exact (cnz_eq 4 (fun i _ => vo 13 i 0 (by decide) (by decide) (by decide))).symm
    have hc10' : V' 0 10 0 = cnz (fun t => V' 17 t 0) 6 := by rw [vs 10 (by decide), hc10]; exact (cnz_eq 6 (fun i _ => vo 17 i 0 (by decide) (by decide) (by decide))).symm
    have hq' : ∀ q ∈ s.2.1 ++ [(s.2.2, 4, x1)], q.2.2 < V' 0 q.2.1 0 := by
      intro q hm
      rcases List.mem_append.mp hm with hm | hm
      · have := hq q hm
        by_cases z : q.2.1 = 4
        · rw [z] at this ⊢; omega
        · rw [vs _ z]; exact this
      · rw [List.mem_singleton.mp hm]
        show x1 < V' 0 4 0
        rw [vz, pNew_eq e1]
        omega
    have hl' : (s.2.1 ++ [(s.2.2, 4, x1)]).length = V' 0 1 0 + V' 0 2 0 + V' 0 3 0 + V' 0 4 0 + V' 0 7 0 := by
      rw [List.length_append, List.length_singleton, hl, vs 1 (by decide), vs 2 (by decide), vs 3 (by decide), vz, vs 7 (by decide)]
      omega
    have n1 := nx_le (T := T) (e := e) (a := s.2.2) (by omega)
    have n2 := nx_le (T := T) (e := e) (a := (nx T e s.2.2)) (by omega)
    have n3 := nx_le (T := T) (e := e) (a := (nx T e (nx T e s.2.2))) (by omega)
    have n4 := nx_le (T := T) (e := e) (a := (nx T e (nx T e (nx T e s.2.2)))) (by omega)
    have n5 := nx_le (T := T) (e := e) (a := (nx T e (nx T e (nx T e (nx T e s.2.2))))) (by omega)
    cases h
    exact ⟨⟨⟨⟨hVW, hl', hq'⟩, hc8', hc10'⟩, by show s.2.2 ≤ (nx T e (nx T e (nx T e (nx T e (nx T e s.2.2))))); omega, by show (nx T e (nx T e (nx T e (nx T e (nx T e s.2.2))))) ≤ e; omega⟩, by show 0 < V' 0 0 0; rw [vs 0 (by decide)]; exact h0⟩
  · have hn1 := (nx_le (T := T) he)
    generalize hV' : addV s.1 4 (s.1 0 4 0) [(5, x3), (6, 0)] = V' at h
    have vs : ∀ k, k ≠ 4 → V' 0 k 0 = s.1 0 k 0 := fun k hk => by rw [← hV']; exact addV_s hk rfl
    have vz : V' 0 4 0 = s.1 0 4 0 + 1 := by rw [← hV']; exact addV_z
    have vo : ∀ k i j, k ≠ 0 → k ≠ 5 → k ≠ 6 → V' k i j = s.1 k i j := fun k i j h0 g5 g6 => by rw [← hV']; exact addV_o h0 (by simp [Ne.symm g5, Ne.symm g6])
    have va5 : V' 5 (s.1 0 4 0) 0 = x3 := by rw [← hV']; exact addV_a (q := (5, x3)) (by decide) rfl
    have vb5 : ∀ l, l ≠ s.1 0 4 0 → V' 5 l 0 = s.1 5 l 0 := fun l hl => by rw [← hV']; exact addV_b (by decide) hl
    have va6 : V' 6 (s.1 0 4 0) 0 = 0 := by rw [← hV']; exact addV_a (q := (6, 0)) (by decide) rfl
    have vb6 : ∀ l, l ≠ s.1 0 4 0 → V' 6 l 0 = s.1 6 l 0 := fun l hl => by rw [← hV']; exact addV_b (by decide) hl
    have hVW : VW V' := by
      obtain ⟨w0, w1, w2, w3, w4, w5, w6, w7, w8, w9, w10, w11, w12, w13, w14, w15, w16, w17, w18, w19, w20, w21, w22, w23⟩ := hV
      refine ⟨?_, ?_, ?_, ?_, ?_, ?_, ?_, ?_, ?_, ?_, ?_, ?_, ?_, ?_, ?_, ?_, ?_, ?_, ?_, ?_, ?_, ?_, ?_, ?_⟩
      · rw [vs 0 (by decide)]; omega
      · rw [vs 1 (by decide)]; omega
      · rw [vs 2 (by decide)]; omega
      · rw [vs 3 (by decide)]; omega
      · rw [vz]; omega
      · rw [vs 5 (by decide)]; omega
      · rw [vs 6 (by decide)]; omega
      · rw [vs 7 (by decide)]; omega
      · rw [vs 8 (by decide)]; omega
      · rw [vs 9 (by decide)]; omega
      · rw [vs 10 (by decide)]; omega
      · rw [vs 11 (by decide)]; omega
      · intro i hi
        rw [vs 1 (by decide)] at hi
        have h := w12 i hi
        rw [vo 1 _ _ (by decide) (by decide) (by decide)]
        omega
      · intro i hi
        rw [vs 2 (by decide)] at hi
        have h := w13 i hi
        rw [vo 2 _ _ (by decide) (by decide) (by decide), vo 3 _ _ (by decide) (by decide) (by decide), vs 1 (by decide)]
        omega
      · intro i hi
        rw [vs 3 (by decide)] at hi
        have h := w14 i hi
        rw [vo 4 _ _ (by decide) (by decide) (by decide)]
        omega
      · intro i hi
        rw [vz] at hi
        by_cases q : i = s.1 0 4 0
        · subst q
          rw [va5, va6, vs 1 (by decide), vs 3 (by decide)]
          omega
        · have h := w15 i (by omega)
          rw [vb5 i q, vb6 i q, vs 1 (by decide), vs 3 (by decide)]
          omega
      · intro i k; rw [vo 7 _ _ (by decide) (by decide) (by decide)]; exact w16 i k
      · intro i k; rw [vo 8 _ _ (by decide) (by decide) (by decide)]; exact w17 i k
      · intro i hi
        rw [vs 7 (by decide)] at hi
        have h := w18 i hi
        rw [vo 9 _ _ (by decide) (by decide) (by decide), vo 10 _ _ (by decide) (by decide) (by decide), vo 11 _ _ (by decide) (by decide) (by decide), vs 1 (by decide), vz]
        omega
      · intro i k; rw [vo 12 _ _ (by decide) (by decide) (by decide)]; exact w19 i k
      · intro i; rw [vo 13 _ _ (by decide) (by decide) (by decide)]; exact w20 i
      · intro t i hi
        rw [vo 13 _ _ (by decide) (by decide) (by decide)] at hi
        have h := w21 t i hi
        rw [vo 14 _ _ (by decide) (by decide) (by decide), vz]
        omega
      · intro i hi
        rw [vs 9 (by decide)] at hi
        have h := w22 i hi
        rw [vo 15 _ _ (by decide) (by decide) (by decide), vo 16 _ _ (by decide) (by decide) (by decide), vs 7 (by decide)]
        omega
      · intro i; rw [vo 17 _ _ (by decide) (by decide) (by decide)]; exact w23 i
    have hc8' : V' 0 8 0 = cnz (fun t => V' 13 t 0) 4 := by rw [vs 8 (by decide), hc8]; exact (cnz_eq 4 (fun i _ => vo 13 i 0 (by decide) (by decide) (by decide))).symm
    have hc10' : V' 0 10 0 = cnz (fun t => V' 17 t 0) 6 := by rw [vs 10 (by decide), hc10]; exact (cnz_eq 6 (fun i _ => vo 17 i 0 (by decide) (by decide) (by decide))).symm
    have hq' : ∀ q ∈ s.2.1 ++ [(s.2.2, 4, x1)], q.2.2 < V' 0 q.2.1 0 := by
      intro q hm
      rcases List.mem_append.mp hm with hm | hm
      · have := hq q hm
        by_cases z : q.2.1 = 4
        · rw [z] at this ⊢; omega
        · rw [vs _ z]; exact this
      · rw [List.mem_singleton.mp hm]
        show x1 < V' 0 4 0
        rw [vz, pNew_eq e1]
        omega
    have hl' : (s.2.1 ++ [(s.2.2, 4, x1)]).length = V' 0 1 0 + V' 0 2 0 + V' 0 3 0 + V' 0 4 0 + V' 0 7 0 := by
      rw [List.length_append, List.length_singleton, hl, vs 1 (by decide), vs 2 (by decide), vs 3 (by decide), vz, vs 7 (by decide)]
      omega
    have n1 := nx_le (T := T) (e := e) (a := s.2.2) (by omega)
    have n2 := nx_le (T := T) (e := e) (a := (nx T e s.2.2)) (by omega)
    have n3 := nx_le (T := T) (e := e) (a := (nx T e (nx T e s.2.2))) (by omega)
    cases h
    exact ⟨⟨⟨⟨hVW, hl', hq'⟩, hc8', hc10'⟩, by show s.2.2 ≤ (nx T e (nx T e (nx T e s.2.2))); omega, by show (nx T e (nx T e (nx T e s.2.2))) ≤ e; omega⟩, by show 0 < V' 0 0 0; rw [vs 0 (by decide)]; exact h0⟩
theorem kp_wind {s s' : pS} (hC : PC s) (he : s.2.2 ≤ e) (hr : s.1 0 0 0 < 1) (h : rdWind T e s = .inr s') : PK T e s s' ∧ 0 < s'.1 0 0 0 := by
  obtain ⟨⟨hV, hl, hq⟩, hc8, hc10⟩ := hC
  unfold rdWind at h
  obtain ⟨x1, e1, h⟩ := bnd_r h
  obtain ⟨x2, e2, h⟩ := bnd_r h
  have b2 := pWhole_le e2
  generalize hV' : setV s.1 0 0 0 x2 = V' at h
  have vs : ∀ k, k ≠ 0 → V' 0 k 0 = s.1 0 k 0 := fun k hk => by rw [← hV']; unfold setV; rw [if_neg (fun q => hk q.2.1)]
  have vz : V' 0 0 0 = x2 := by rw [← hV']; exact setV_e
  have vo : ∀ k i j, k ≠ 0 → V' k i j = s.1 k i j := fun k i j h0 => by rw [← hV']; unfold setV; rw [if_neg (fun q => h0 q.1)]
  have hVW : VW V' := by
    obtain ⟨w0, w1, w2, w3, w4, w5, w6, w7, w8, w9, w10, w11, w12, w13, w14, w15, w16, w17, w18, w19, w20, w21, w22, w23⟩ := hV
    refine ⟨?_, ?_, ?_, ?_, ?_, ?_, ?_, ?_, ?_, ?_, ?_, ?_, ?_, ?_, ?_, ?_, ?_, ?_, ?_, ?_, ?_, ?_, ?_, ?_⟩
    · rw [vz]; omega
    · rw [vs 1 (by decide)]; omega
    · rw [vs 2 (by decide)]; omega
    · rw [vs 3 (by decide)]; omega
    · rw [vs 4 (by decide)]; omega
    · rw [vs 5 (by decide)]; omega
    · rw [vs 6 (by decide)]; omega
    · rw [vs 7 (by decide)]; omega
    · rw [vs 8 (by decide)]; omega
    · rw [vs 9 (by decide)]; omega
    · rw [vs 10 (by decide)]; omega
    · rw [vs 11 (by decide)]; omega
    · intro i hi
      rw [vs 1 (by decide)] at hi
      have h := w12 i hi
      rw [vo 1 _ _ (by decide)]
      omega
    · intro i hi
      rw [vs 2 (by decide)] at hi
      have h := w13 i hi
      rw [vo 2 _ _ (by decide), vo 3 _ _ (by decide), vs 1 (by decide)]
      omega
    · intro i hi
      rw [vs 3 (by decide)] at hi
      have h := w14 i hi
      rw [vo 4 _ _ (by decide)]
      omega
    · intro i hi
      rw [vs 4 (by decide)] at hi
      have h := w15 i hi
      rw [vo 5 _ _ (by decide), vo 6 _ _ (by decide), vs 1 (by decide), vs 3 (by decide)]
      omega
    · intro i k; rw [vo 7 _ _ (by decide)]; exact w16 i k
    · intro i k; rw [vo 8 _ _ (by decide)]; exact w17 i k
    · intro i hi
      rw [vs 7 (by decide)] at hi
      have h := w18 i hi
      rw [vo 9 _ _ (by decide), vo 10 _ _ (by decide), vo 11 _ _ (by decide), vs 1 (by decide), vs 4 (by decide)]
      omega
    · intro i k; rw [vo 12 _ _ (by decide)]; exact w19 i k
    · intro i; rw [vo 13 _ _ (by decide)]; exact w20 i
    · intro t i hi
      rw [vo 13 _ _ (by decide)] at hi
      have h := w21 t i hi
      rw [vo 14 _ _ (by decide), vs 4 (by decide)]
      omega
    · intro i hi
      rw [vs 9 (by decide)] at hi
      have h := w22 i hi
      rw [vo 15 _ _ (by decide), vo 16 _ _ (by decide), vs 7 (by decide)]
      omega
    · intro i; rw [vo 17 _ _ (by decide)]; exact w23 i
  have hc8' : V' 0 8 0 = cnz (fun t => V' 13 t 0) 4 := by rw [vs 8 (by decide), hc8]; exact (cnz_eq 4 (fun i _ => vo 13 i 0 (by decide))).symm
  have hc10' : V' 0 10 0 = cnz (fun t => V' 17 t 0) 6 := by rw [vs 10 (by decide), hc10]; exact (cnz_eq 6 (fun i _ => vo 17 i 0 (by decide))).symm
  have hq' : ∀ q ∈ s.2.1, q.2.2 < V' 0 q.2.1 0 := by
    intro q hm
    have := hq q hm
    by_cases z : q.2.1 = 0
    · rw [z] at this ⊢; omega
    · rw [vs _ z]; exact this
  have hl' : s.2.1.length = V' 0 1 0 + V' 0 2 0 + V' 0 3 0 + V' 0 4 0 + V' 0 7 0 := by rw [hl, vs 1 (by decide), vs 2 (by decide), vs 3 (by decide), vs 4 (by decide), vs 7 (by decide)]
  have n1 := nx_le (T := T) (e := e) (a := s.2.2) (by omega)
  have n2 := nx_le (T := T) (e := e) (a := (nx T e s.2.2)) (by omega)
  cases h
  exact ⟨⟨⟨⟨hVW, hl', hq'⟩, hc8', hc10'⟩, by show s.2.2 ≤ (nx T e (nx T e s.2.2)); omega, by show (nx T e (nx T e s.2.2)) ≤ e; omega⟩, by show 0 < V' 0 0 0; rw [vz]; omega⟩
theorem kp_leaves {s s' : pS} (hC : PC s) (he : s.2.2 ≤ e) (hr : s.1 0 6 0 < 8) (h0 : 0 < s.1 0 0 0) (h : rd_leaves T e s = .inr s') : PK T e s s' ∧ 0 < s'.1 0 0 0 := by
  obtain ⟨⟨hV, hl, hq⟩, hc8, hc10⟩ := hC
  unfold rd_leaves at h
  obtain ⟨x1, e1, h⟩ := bnd_r h
  obtain ⟨x2, e2, h⟩ := bnd_r h
  split at h
  rotate_left
  · cases h
  obtain ⟨x3, e3, h⟩ := bnd_r h
  have b3 := pWhole_le e3
  generalize hV' : setV (setV s.1 8 x1 x2 x3) 0 6 0 (s.1 0 6 0 + 1) = V' at h
  have vs : ∀ k, k ≠ 6 → V' 0 k 0 = s.1 0 k 0 := fun k hk => by rw [← hV']; unfold setV; rw [if_neg (fun q => hk q.2.1), if_neg (by omega)]
  have vz : V' 0 6 0 = s.1 0 6 0 + 1 := by rw [← hV']; exact setV_e
  have vo : ∀ k i j, k ≠ 0 → k ≠ 8 → V' k i j = s.1 k i j := fun k i j h0 g8 => by rw [← hV']; unfold setV; rw [if_neg (fun q => h0 q.1), if_neg (fun q => g8 q.1)]
  have hVW : VW V' := by
    obtain ⟨w0, w1, w2, w3, w4, w5, w6, w7, w8, w9, w10, w11, w12, w13, w14, w15, w16, w17, w18, w19, w20, w21, w22, w23⟩ := hV
    refine ⟨?_, ?_, ?_, ?_, ?_, ?_, ?_, ?_, ?_, ?_, ?_, ?_, ?_, ?_, ?_, ?_, ?_, ?_, ?_, ?_, ?_, ?_, ?_, ?_⟩
    · rw [vs 0 (by decide)]; omega
    · rw [vs 1 (by decide)]; omega
    · rw [vs 2 (by decide)]; omega
    · rw [vs 3 (by decide)]; omega
    · rw [vs 4 (by decide)]; omega
    · rw [vs 5 (by decide)]; omega
    · rw [vz]; omega
    · rw [vs 7 (by decide)]; omega
    · rw [vs 8 (by decide)]; omega
    · rw [vs 9 (by decide)]; omega
    · rw [vs 10 (by decide)]; omega
    · rw [vs 11 (by decide)]; omega
    · intro i hi
      rw [vs 1 (by decide)] at hi
      have h := w12 i hi
      rw [vo 1 _ _ (by decide) (by decide)]
      omega
    · intro i hi
      rw [vs 2 (by decide)] at hi
      have h := w13 i hi
      rw [vo 2 _ _ (by decide) (by decide), vo 3 _ _ (by decide) (by decide), vs 1 (by decide)]
      omega
    · intro i hi
      rw [vs 3 (by decide)] at hi
      have h := w14 i hi
      rw [vo 4 _ _ (by decide) (by decide)]
      omega
    · intro i hi
      rw [vs 4 (by decide)] at hi
      have h := w15 i hi
      rw [vo 5 _ _ (by decide) (by decide), vo 6 _ _ (by decide) (by decide), vs 1 (by decide), vs 3 (by decide)]
      omega
    · intro i k; rw [vo 7 _ _ (by decide) (by decide)]; exact w16 i k
    · intro i k
      rw [← hV']
      unfold setV
      rw [if_neg (by omega)]
      split
      · omega
      · exact w17 i k
    · intro i hi
      rw [vs 7 (by decide)] at hi
      have h := w18 i hi
      rw [vo 9 _ _ (by decide) (by decide), vo 10 _ _ (by decide) (by decide), vo 11 _ _ (by decide) (by decide), vs 1 (by decide), vs 4 (by decide)]
      omega
    · intro i k; rw [vo 12 _ _ (by decide) (by decide)]; exact w19 i k
    · intro i; rw [vo 13 _ _ (by decide) (by decide)]; exact w20 i
    · intro t i hi
      rw [vo 13 _ _ (by decide) (by decide)] at hi
      have h := w21 t i hi
      rw [vo 14 _ _ (by decide) (by decide), vs 4 (by decide)]
      omega
    · intro i hi
      rw [vs 9 (by decide)] at hi
      have h := w22 i hi
      rw [vo 15 _ _ (by decide) (by decide), vo 16 _ _ (by decide) (by decide), vs 7 (by decide)]
      omega
    · intro i; rw [vo 17 _ _ (by decide) (by decide)]; exact w23 i
  have hc8' : V' 0 8 0 = cnz (fun t => V' 13 t 0) 4 := by rw [vs 8 (by decide), hc8]; exact (cnz_eq 4 (fun i _ => vo 13 i 0 (by decide) (by decide))).symm
  have hc10' : V' 0 10 0 = cnz (fun t => V' 17 t 0) 6 := by rw [vs 10 (by decide), hc10]; exact (cnz_eq 6 (fun i _ => vo 17 i 0 (by decide) (by decide))).symm
  have hq' : ∀ q ∈ s.2.1, q.2.2 < V' 0 q.2.1 0 := by
    intro q hm
    have := hq q hm
    by_cases z : q.2.1 = 6
    · rw [z] at this ⊢; omega
    · rw [vs _ z]; exact this
  have hl' : s.2.1.length = V' 0 1 0 + V' 0 2 0 + V' 0 3 0 + V' 0 4 0 + V' 0 7 0 := by rw [hl, vs 1 (by decide), vs 2 (by decide), vs 3 (by decide), vs 4 (by decide), vs 7 (by decide)]
  have n1 := nx_le (T := T) (e := e) (a := s.2.2) (by omega)
  have n2 := nx_le (T := T) (e := e) (a := (nx T e s.2.2)) (by omega)
  have n3 := nx_le (T := T) (e := e) (a := (nx T e (nx T e s.2.2))) (by omega)
  cases h
  exact ⟨⟨⟨⟨hVW, hl', hq'⟩, hc8', hc10'⟩, by show s.2.2 ≤ (nx T e (nx T e (nx T e s.2.2))); omega, by show (nx T e (nx T e (nx T e s.2.2))) ≤ e; omega⟩, by show 0 < V' 0 0 0; rw [vs 0 (by decide)]; exact h0⟩
theorem kp_on {s s' : pS} (hC : PC s) (he : s.2.2 ≤ e) (hr : s.1 0 11 0 < 12) (h0 : 0 < s.1 0 0 0) (h : rd_on T e s = .inr s') : PK T e s s' ∧ 0 < s'.1 0 0 0 := by
  obtain ⟨⟨hV, hl, hq⟩, hc8, hc10⟩ := hC
  unfold rd_on at h
  obtain ⟨x1, e1, h⟩ := bnd_r h
  obtain ⟨x2, e2, h⟩ := bnd_r h
  split at h
  rotate_left
  · cases h
  obtain ⟨x3, e3, h⟩ := bnd_r h
  have b3 := pWhole_le e3
  generalize hV' : setV (setV s.1 12 x1 x2 x3) 0 11 0 (s.1 0 11 0 + 1) = V' at h
  have vs : ∀ k, k ≠ 11 → V' 0 k 0 = s.1 0 k 0 := fun k hk => by rw [← hV']; unfold setV; rw [if_neg (fun q => hk q.2.1), if_neg (by omega)]
  have vz : V' 0 11 0 = s.1 0 11 0 + 1 := by rw [← hV']; exact setV_e
  have vo : ∀ k i j, k ≠ 0 → k ≠ 12 → V' k i j = s.1 k i j := fun k i j h0 g12 => by rw [← hV']; unfold setV; rw [if_neg (fun q => h0 q.1), if_neg (fun q => g12 q.1)]
  have hVW : VW V' := by
    obtain ⟨w0, w1, w2, w3, w4, w5, w6, w7, w8, w9, w10, w11, w12, w13, w14, w15, w16, w17, w18, w19, w20, w21, w22, w23⟩ := hV
    refine ⟨?_, ?_, ?_, ?_, ?_, ?_, ?_, ?_, ?_, ?_, ?_, ?_, ?_, ?_, ?_, ?_, ?_, ?_, ?_, ?_, ?_, ?_, ?_, ?_⟩
    · rw [vs 0 (by decide)]; omega
    · rw [vs 1 (by decide)]; omega
    · rw [vs 2 (by decide)]; omega
    · rw [vs 3 (by decide)]; omega
    · rw [vs 4 (by decide)]; omega
    · rw [vs 5 (by decide)]; omega
    · rw [vs 6 (by decide)]; omega
    · rw [vs 7 (by decide)]; omega
    · rw [vs 8 (by decide)]; omega
    · rw [vs 9 (by decide)]; omega
    · rw [vs 10 (by decide)]; omega
    · rw [vz]; omega
    · intro i hi
      rw [vs 1 (by decide)] at hi
      have h := w12 i hi
      rw [vo 1 _ _ (by decide) (by decide)]
      omega
    · intro i hi
      rw [vs 2 (by decide)] at hi
      have h := w13 i hi
      rw [vo 2 _ _ (by decide) (by decide), vo 3 _ _ (by decide) (by decide), vs 1 (by decide)]
      omega
    · intro i hi
      rw [vs 3 (by decide)] at hi
      have h := w14 i hi
      rw [vo 4 _ _ (by decide) (by decide)]
      omega
    · intro i hi
      rw [vs 4 (by decide)] at hi
      have h := w15 i hi
      rw [vo 5 _ _ (by decide) (by decide), vo 6 _ _ (by decide) (by decide), vs 1 (by decide), vs 3 (by decide)]
      omega
    · intro i k; rw [vo 7 _ _ (by decide) (by decide)]; exact w16 i k
    · intro i k; rw [vo 8 _ _ (by decide) (by decide)]; exact w17 i k
    · intro i hi
      rw [vs 7 (by decide)] at hi
      have h := w18 i hi
      rw [vo 9 _ _ (by decide) (by decide), vo 10 _ _ (by decide) (by decide), vo 11 _ _ (by decide) (by decide), vs 1 (by decide), vs 4 (by decide)]
      omega
    · intro i k
      rw [← hV']
      unfold setV
      rw [if_neg (by omega)]
      split
      · omega
      · exact w19 i k
    · intro i; rw [vo 13 _ _ (by decide) (by decide)]; exact w20 i
    · intro t i hi
      rw [vo 13 _ _ (by decide) (by decide)] at hi
      have h := w21 t i hi
      rw [vo 14 _ _ (by decide) (by decide), vs 4 (by decide)]
      omega
    · intro i hi
      rw [vs 9 (by decide)] at hi
      have h := w22 i hi
      rw [vo 15 _ _ (by decide) (by decide), vo 16 _ _ (by decide) (by decide), vs 7 (by decide)]
      omega
    · intro i; rw [vo 17 _ _ (by decide) (by decide)]; exact w23 i
  have hc8' : V' 0 8 0 = cnz (fun t => V' 13 t 0) 4 := by rw [vs 8 (by decide), hc8]; exact (cnz_eq 4 (fun i _ => vo 13 i 0 (by decide) (by decide))).symm
  have hc10' : V' 0 10 0 = cnz (fun t => V' 17 t 0) 6 := by rw [vs 10 (by decide), hc10]; exact (cnz_eq 6 (fun i _ => vo 17 i 0 (by decide) (by decide))).symm
  have hq' : ∀ q ∈ s.2.1, q.2.2 < V' 0 q.2.1 0 := by
    intro q hm
    have := hq q hm
    by_cases z : q.2.1 = 11
    · rw [z] at this ⊢; omega
    · rw [vs _ z]; exact this
  have hl' : s.2.1.length = V' 0 1 0 + V' 0 2 0 + V' 0 3 0 + V' 0 4 0 + V' 0 7 0 := by rw [hl, vs 1 (by decide), vs 2 (by decide), vs 3 (by decide), vs 4 (by decide), vs 7 (by decide)]
  have n1 := nx_le (T := T) (e := e) (a := s.2.2) (by omega)
  have n2 := nx_le (T := T) (e := e) (a := (nx T e s.2.2)) (by omega)
  have n3 := nx_le (T := T) (e := e) (a := (nx T e (nx T e s.2.2))) (by omega)
  cases h
  exact ⟨⟨⟨⟨hVW, hl', hq'⟩, hc8', hc10'⟩, by show s.2.2 ≤ (nx T e (nx T e (nx T e s.2.2))); omega, by show (nx T e (nx T e (nx T e s.2.2))) ≤ e; omega⟩, by show 0 < V' 0 0 0; rw [vs 0 (by decide)]; exact h0⟩
theorem kp_path {s s' : pS} (hC : PC s) (he : s.2.2 ≤ e) (hr : s.1 0 5 0 < 10) (h0 : 0 < s.1 0 0 0) (h : rd_path T e s = .inr s') : PK T e s s' ∧ 0 < s'.1 0 0 0 := by
  obtain ⟨⟨hV, hl, hq⟩, hc8, hc10⟩ := hC
  unfold rd_path at h
  obtain ⟨x1, e1, h⟩ := bnd_r h
  obtain ⟨x2, e2, h⟩ := bnd_r h
  split at h
  · cases h
  obtain ⟨x3, e3, h⟩ := bnd_r h
  obtain ⟨x4, e4, h⟩ := bnd_r h
  have b4 := pWhole_le e4
  generalize hV' : setV (setV (setV s.1 7 x1 x2 x4) 7 x2 x1 x4) 0 5 0 (s.1 0 5 0 + 1) = V' at h
  have vs : ∀ k, k ≠ 5 → V' 0 k 0 = s.1 0 k 0 := fun k hk => by rw [← hV']; unfold setV; rw [if_neg (fun q => hk q.2.1), if_neg (by omega), if_neg (by omega)]
  have vz : V' 0 5 0 = s.1 0 5 0 + 1 := by rw [← hV']; exact setV_e
  have vo : ∀ k i j, k ≠ 0 → k ≠ 7 → V' k i j = s.1 k i j := fun k i j h0 g7 => by rw [← hV']; unfold setV; rw [if_neg (fun q => h0 q.1), if_neg (fun q => g7 q.1), if_neg (fun q => g7 q.1)]
  have hVW : VW V' := by
    obtain ⟨w0, w1, w2, w3, w4, w5, w6, w7, w8, w9, w10, w11, w12, w13, w14, w15, w16, w17, w18, w19, w20, w21, w22, w23⟩ := hV
    refine ⟨?_, ?_, ?_, ?_, ?_, ?_, ?_, ?_, ?_, ?_, ?_, ?_, ?_, ?_, ?_, ?_, ?_, ?_, ?_, ?_, ?_, ?_, ?_, ?_⟩
    · rw [vs 0 (by decide)]; omega
    · rw [vs 1 (by decide)]; omega
    · rw [vs 2 (by decide)]; omega
    · rw [vs 3 (by decide)]; omega
    · rw [vs 4 (by decide)]; omega
    · rw [vz]; omega
    · rw [vs 6 (by decide)]; omega
    · rw [vs 7 (by decide)]; omega
    · rw [vs 8 (by decide)]; omega
    · rw [vs 9 (by decide)]; omega
    · rw [vs 10 (by decide)]; omega
    · rw [vs 11 (by decide)]; omega
    · intro i hi
      rw [vs 1 (by decide)] at hi
      have h := w12 i hi
      rw [vo 1 _ _ (by decide) (by decide)]
      omega
    · intro i hi
      rw [vs 2 (by decide)] at hi
      have h := w13 i hi
      rw [vo 2 _ _ (by decide) (by decide), vo 3 _ _ (by decide) (by decide), vs 1 (by decide)]
      omega
    · intro i hi
      rw [vs 3 (by decide)] at hi
      have h := w14 i hi
      rw [vo 4 _ _ (by decide) (by decide)]
      omega
    · intro i hi
      rw [vs 4 (by decide)] at hi
      have h := w15 i hi
      rw [vo 5 _ _ (by decide) (by decide), vo 6 _ _ (by decide) (by decide), vs 1 (by decide), vs 3 (by decide)]
      omega
    · intro i k
      rw [← hV']
      unfold setV
      rw [if_neg (by omega)]
      split
      · omega
      · split
        · omega
        · exact w16 i k
    · intro i k; rw [vo 8 _ _ (by decide) (by decide)]; exact w17 i k
    · intro i hi
      rw [vs 7 (by decide)] at hi
      have h := w18 i hi
      rw [vo 9 _ _ (by decide) (by decide), vo 10 _ _ (by decide) (by decide), vo 11 _ _ (by decide) (by decide), vs 1 (by decide), vs 4 (by decide)]
      omega
    · intro i k; rw [vo 12 _ _ (by decide) (by decide)]; exact w19 i k
    · intro i; rw [vo 13 _ _ (by decide) (by decide)]; exact w20 i
    · intro t i hi
      rw [vo 13 _ _ (by decide) (by decide)] at hi
      have h := w21 t i hi
      rw [vo 14 _ _ (by decide) (by decide), vs 4 (by decide)]
      omega
    · intro i hi
      rw [vs 9 (by decide)] at hi
      have h := w22 i hi
      rw [vo 15 _ _ (by decide) (by decide), vo 16 _ _ (by decide) (by decide), vs 7 (by decide)]
      omega
    · intro i; rw [vo 17 _ _ (by decide) (by decide)]; exact w23 i
  have hc8' : V' 0 8 0 = cnz (fun t => V' 13 t 0) 4 := by rw [vs 8 (by decide), hc8]; exact (cnz_eq 4 (fun i _ => vo 13 i 0 (by decide) (by decide))).symm
  have hc10' : V' 0 10 0 = cnz (fun t => V' 17 t 0) 6 := by rw [vs 10 (by decide), hc10]; exact (cnz_eq 6 (fun i _ => vo 17 i 0 (by decide) (by decide))).symm
  have hq' : ∀ q ∈ s.2.1, q.2.2 < V' 0 q.2.1 0 := by
    intro q hm
    have := hq q hm
    by_cases z : q.2.1 = 5
    · rw [z] at this ⊢; omega
    · rw [vs _ z]; exact this
  have hl' : s.2.1.length = V' 0 1 0 + V' 0 2 0 + V' 0 3 0 + V' 0 4 0 + V' 0 7 0 := by rw [hl, vs 1 (by decide), vs 2 (by decide), vs 3 (by decide), vs 4 (by decide), vs 7 (by decide)]
  have n1 := nx_le (T := T) (e := e) (a := s.2.2) (by omega)
  have n2 := nx_le (T := T) (e := e) (a := (nx T e s.2.2)) (by omega)
  have n3 := nx_le (T := T) (e := e) (a := (nx T e (nx T e s.2.2))) (by omega)
  have n4 := nx_le (T := T) (e := e) (a := (nx T e (nx T e (nx T e s.2.2)))) (by omega)
  cases h
  exact ⟨⟨⟨⟨hVW, hl', hq'⟩, hc8', hc10'⟩, by show s.2.2 ≤ (nx T e (nx T e (nx T e (nx T e s.2.2)))); omega, by show (nx T e (nx T e (nx T e (nx T e s.2.2)))) ≤ e; omega⟩, by show 0 < V' 0 0 0; rw [vs 0 (by decide)]; exact h0⟩
theorem kp_whiff {s s' : pS} (hC : PC s) (he : s.2.2 ≤ e) (hr : s.1 0 10 0 < 99) (h0 : 0 < s.1 0 0 0) (h : rd_whiff T e s = .inr s') : PK T e s s' ∧ 0 < s'.1 0 0 0 := by
  obtain ⟨⟨hV, hl, hq⟩, hc8, hc10⟩ := hC
  unfold rd_whiff at h
  obtain ⟨x1, e1, h⟩ := bnd_r h
  split at h
  rotate_left
  · cases h
  rename_i hz
  have v2 := hV.2.2.1
  have b1 := pKnown_lt (V := s.1) e1 hq
  obtain ⟨x2, e2, h⟩ := bnd_r h
  have b2 := pWhole_le e2
  generalize hV' : setV (setV s.1 17 x1 0 (x2 + 1)) 0 10 0 (s.1 0 10 0 + 1) = V' at h
  have vs : ∀ k, k ≠ 10 → V' 0 k 0 = s.1 0 k 0 := fun k hk => by rw [← hV']; unfold setV; rw [if_neg (fun q => hk q.2.1), if_neg (by omega)]
  have vz : V' 0 10 0 = s.1 0 10 0 + 1 := by rw [← hV']; exact setV_e
  have vo : ∀ k i j, k ≠ 0 → k ≠ 17 → V' k i j = s.1 k i j := fun k i j h0 g17 => by rw [← hV']; unfold setV; rw [if_neg (fun q => h0 q.1), if_neg (fun q => g17 q.1)]
  have hVW : VW V' := by
    obtain ⟨w0, w1, w2, w3, w4, w5, w6, w7, w8, w9, w10, w11, w12, w13, w14, w15, w16, w17, w18, w19, w20, w21, w22, w23⟩ := hV
    refine ⟨?_, ?_, ?_, ?_, ?_, ?_, ?_, ?_, ?_, ?_, ?_, ?_, ?_, ?_, ?_, ?_, ?_, ?_, ?_, ?_, ?_, ?_, ?_, ?_⟩
    · rw [vs 0 (by decide)]; omega
    · rw [vs 1 (by decide)]; omega
    · rw [vs 2 (by decide)]; omega
    · rw [vs 3 (by decide)]; omega
    · rw [vs 4 (by decide)]; omega
    · rw [vs 5 (by decide)]; omega
    · rw [vs 6 (by decide)]; omega
    · rw [vs 7 (by decide)]; omega
    · rw [vs 8 (by decide)]; omega
    · rw [vs 9 (by decide)]; omega
    · rw [vz]; omega
    · rw [vs 11 (by decide)]; omega
    · intro i hi
      rw [vs 1 (by decide)] at hi
      have h := w12 i hi
      rw [vo 1 _ _ (by decide) (by decide)]
      omega
    · intro i hi
      rw [vs 2 (by decide)] at hi
      have h := w13 i hi
      rw [vo 2 _ _ (by decide) (by decide), vo 3 _ _ (by decide) (by decide), vs 1 (by decide)]
      omega
    · intro i hi
      rw [vs 3 (by decide)] at hi
      have h := w14 i hi
      rw [vo 4 _ _ (by decide) (by decide)]
      omega
    · intro i hi
      rw [vs 4 (by decide)] at hi
      have h := w15 i hi
      rw [vo 5 _ _ (by decide) (by decide), vo 6 _ _ (by decide) (by decide), vs 1 (by decide), vs 3 (by decide)]
      omega
    · intro i k; rw [vo 7 _ _ (by decide) (by decide)]; exact w16 i k
    · intro i k; rw [vo 8 _ _ (by decide) (by decide)]; exact w17 i k
    · intro i hi
      rw [vs 7 (by decide)] at hi
      have h := w18 i hi
      rw [vo 9 _ _ (by decide) (by decide), vo 10 _ _ (by decide) (by decide), vo 11 _ _ (by decide) (by decide), vs 1 (by decide), vs 4 (by decide)]
      omega
    · intro i k; rw [vo 12 _ _ (by decide) (by decide)]; exact w19 i k
    · intro i; rw [vo 13 _ _ (by decide) (by decide)]; exact w20 i
    · intro t i hi
      rw [vo 13 _ _ (by decide) (by decide)] at hi
      have h := w21 t i hi
      rw [vo 14 _ _ (by decide) (by decide), vs 4 (by decide)]
      omega
    · intro i hi
      rw [vs 9 (by decide)] at hi
      have h := w22 i hi
      rw [vo 15 _ _ (by decide) (by decide), vo 16 _ _ (by decide) (by decide), vs 7 (by decide)]
      omega
    · intro i
      rw [← hV']
      unfold setV
      rw [if_neg (by omega)]
      split
      · omega
      · exact w23 i
  have hc8' : V' 0 8 0 = cnz (fun t => V' 13 t 0) 4 := by rw [vs 8 (by decide), hc8]; exact (cnz_eq 4 (fun i _ => vo 13 i 0 (by decide) (by decide))).symm
  have hc10' : V' 0 10 0 = cnz (fun t => V' 17 t 0) 6 := by rw [vz, hc10]; exact (cnz_up (t := x1) hz (by rw [← hV']; unfold setV; rw [if_neg (by omega), if_pos ⟨rfl, rfl, rfl⟩]; omega) (fun i hi => by rw [← hV']; unfold setV; rw [if_neg (by omega), if_neg (fun q => hi q.2.1)]) 6 (by omega)).symm
  have hq' : ∀ q ∈ s.2.1, q.2.2 < V' 0 q.2.1 0 := by
    intro q hm
    have := hq q hm
    by_cases z : q.2.1 = 10
    · rw [z] at this ⊢; omega
    · rw [vs _ z]; exact this
  have hl' : s.2.1.length = V' 0 1 0 + V' 0 2 0 + V' 0 3 0 + V' 0 4 0 + V' 0 7 0 := by rw [hl, vs 1 (by decide), vs 2 (by decide), vs 3 (by decide), vs 4 (by decide), vs 7 (by decide)]
  have n1 := nx_le (T := T) (e := e) (a := s.2.2) (by omega)
  have n2 := nx_le (T := T) (e := e) (a := (nx T e s.2.2)) (by omega)
  cases h
  exact ⟨⟨⟨⟨hVW, hl', hq'⟩, hc8', hc10'⟩, by show s.2.2 ≤ (nx T e (nx T e s.2.2)); omega, by show (nx T e (nx T e s.2.2)) ≤ e; omega⟩, by show 0 < V' 0 0 0; rw [vs 0 (by decide)]; exact h0⟩

theorem kp_rwl {s s' : pS} {t : Nat} (hC : PC s) (h0 : 0 < s.1 0 0 0) (hr : s.1 0 8 0 < 99) (ht : t < s.1 0 7 0) (hz : s.1 13 t 0 = 0) : ∀ (f : Nat) (st : List Nat) (a : Nat), f + st.length = 5 → (∀ i, i < st.length → st.getD i 0 < s.1 0 4 0) → a ≤ e → rwl T e s t f st a = .inr s' → (PC s' ∧ a ≤ s'.2.2 ∧ s'.2.2 ≤ e) ∧ 0 < s'.1 0 0 0
  | 0, st, a, hf, hst, ha, h => by
    unfold rwl at h
    obtain ⟨x, e1, h⟩ := bnd_r h
    cases h
  | f + 1, st, a, hf, hst, ha, h => by
    unfold rwl at h
    obtain ⟨x, e1, h⟩ := bnd_r h
    have bx := pKnown_lt (V := s.1) e1 hC.1.2.2
    have n1 := nx_le (T := T) ha
    have hlen : (st ++ [x]).length = st.length + 1 := by rw [List.length_append]; rfl
    have hst' : ∀ i, i < (st ++ [x]).length → (st ++ [x]).getD i 0 < s.1 0 4 0 := by
      intro i hi
      rw [List.getD_eq_getElem?_getD]
      by_cases q : i = st.length
      · rw [q, List.getElem?_concat_length]; exact bx
      · rw [List.getElem?_append_left (by omega), ← List.getD_eq_getElem?_getD]; exact hst i (by omega)
    split at h
    · have n2 := nx_le (T := T) n1.2
      obtain ⟨⟨h1, h2, h3⟩, h4⟩ := kp_rwl hC h0 hr ht hz f (st ++ [x]) _ (by omega) hst' n2.2 h
      exact ⟨⟨h1, by omega, h3⟩, h4⟩
    · obtain ⟨⟨hV, hl, hq⟩, hc8, hc10⟩ := hC
      cases h
      generalize hst2 : st ++ [x] = st' at *
      generalize hV' : wkV s.1 t st' = V'
      have vs : ∀ k, k ≠ 8 → V' 0 k 0 = s.1 0 k 0 := fun k hk => by rw [← hV']; unfold wkV; rw [if_neg (fun z => hk z.2.1), if_neg (by omega), if_neg (by omega)]
      have vz : V' 0 8 0 = s.1 0 8 0 + 1 := by rw [← hV']; exact if_pos ⟨rfl, rfl, rfl⟩
      have vo : ∀ k i j, k ≠ 0 → k ≠ 13 → k ≠ 14 → V' k i j = s.1 k i j := fun k i j h0 h1 h2 => by rw [← hV']; unfold wkV; rw [if_neg (fun z => h0 z.1), if_neg (fun z => h1 z.1), if_neg (fun z => h2 z.1)]
      have v13 : ∀ u, u ≠ t → V' 13 u 0 = s.1 13 u 0 := fun u hu => by rw [← hV']; unfold wkV; rw [if_neg (by omega), if_neg (fun z => hu z.2.1), if_neg (by omega)]
      have v14 : ∀ u j, u ≠ t → V' 14 u j = s.1 14 u j := fun u j hu => by rw [← hV']; unfold wkV; rw [if_neg (by omega), if_neg (by omega), if_neg (fun z => hu z.2)]
      have u13 : V' 13 t 0 = st'.length := by rw [← hV']; unfold wkV; rw [if_neg (by omega), if_pos ⟨rfl, rfl, rfl⟩]
      have u14 : ∀ j, V' 14 t j = st'.getD j 0 := fun j => by rw [← hV']; unfold wkV; rw [if_neg (by omega), if_neg (by omega), if_pos ⟨rfl, rfl⟩]
      have v7 := hV.2.2.2.2.2.2.2.1
      have hVW : VW V' := by
        obtain ⟨w0, w1, w2, w3, w4, w5, w6, w7, w8, w9, w10, w11, w12, w13, w14, w15, w16, w17, w18, w19, w20, w21, w22, w23⟩ := hV
        refine ⟨?_, ?_, ?_, ?_, ?_, ?_, ?_, ?_, ?_, ?_, ?_, ?_, ?_, ?_, ?_, ?_, ?_, ?_, ?_, ?_, ?_, ?_, ?_, ?_⟩
        · rw [vs 0 (by decide)]; omega
        · rw [vs 1 (by decide)]; omega
        · rw [vs 2 (by decide)]; omega
        · rw [vs 3 (by decide)]; omega
        · rw [vs 4 (by decide)]; omega
        · rw [vs 5 (by decide)]; omega
        · rw [vs 6 (by decide)]; omega
        · rw [vs 7 (by decide)]; omega
        · rw [vz]; omega
        · rw [vs 9 (by decide)]; omega
        · rw [vs 10 (by decide)]; omega
        · rw [vs 11 (by decide)]; omega
        · intro i hi
          rw [vs 1 (by decide)] at hi
          have h := w12 i hi
          rw [vo 1 _ _ (by decide) (by decide) (by decide)]
          omega
        · intro i hi
          rw [vs 2 (by decide)] at hi
          have h := w13 i hi
          rw [vo 2 _ _ (by decide) (by decide) (by decide), vo 3 _ _ (by decide) (by decide) (by decide), vs 1 (by decide)]
          omega
        · intro i hi
          rw [vs 3 (by decide)] at hi
          have h := w14 i hi
          rw [vo 4 _ _ (by decide) (by decide) (by decide)]
          omega
        · intro i hi
          rw [vs 4 (by decide)] at hi
          have h := w15 i hi
          rw [vo 5 _ _ (by decide) (by decide) (by decide), vo 6 _ _ (by decide) (by decide) (by decide), vs 1 (by decide), vs 3 (by decide)]
          omega
        · intro i k; rw [vo 7 _ _ (by decide) (by decide) (by decide)]; exact w16 i k
        · intro i k; rw [vo 8 _ _ (by decide) (by decide) (by decide)]; exact w17 i k
        · intro i hi
          rw [vs 7 (by decide)] at hi
          have h := w18 i hi
          rw [vo 9 _ _ (by decide) (by decide) (by decide), vo 10 _ _ (by decide) (by decide) (by decide), vo 11 _ _ (by decide) (by decide) (by decide), vs 1 (by decide), vs 4 (by decide)]
          omega
        · intro i k; rw [vo 12 _ _ (by decide) (by decide) (by decide)]; exact w19 i k
        · intro u
          by_cases z : u = t
          · rw [z, u13]; omega
          · rw [v13 u z]; exact w20 u
        · intro u i hi
          rw [vs 4 (by decide)]
          by_cases z : u = t
          · rw [z, u13] at hi; rw [z, u14]; exact hst' i hi
          · rw [v13 u z] at hi; rw [v14 u i z]; exact w21 u i hi
        · intro i hi
          rw [vs 9 (by decide)] at hi
          have h := w22 i hi
          rw [vo 15 _ _ (by decide) (by decide) (by decide), vo 16 _ _ (by decide) (by decide) (by decide), vs 7 (by decide)]
          omega
        · intro i; rw [vo 17 _ _ (by decide) (by decide) (by decide)]; exact w23 i
      have hc8' : V' 0 8 0 = cnz (fun t => V' 13 t 0) 4 := by rw [vz, hc8]; exact (cnz_up (t := t) hz (by rw [u13]; omega) (fun i hi => v13 i hi) 4 (by omega)).symm
      have hc10' : V' 0 10 0 = cnz (fun t => V' 17 t 0) 6 := by rw [vs 10 (by decide), hc10]; exact (cnz_eq 6 (fun i _ => vo 17 i 0 (by decide) (by decide) (by decide))).symm
      have hq' : ∀ q ∈ s.2.1, q.2.2 < V' 0 q.2.1 0 := by
        intro q hm
        have := hq q hm
        by_cases z : q.2.1 = 8
        · rw [z] at this ⊢; omega
        · rw [vs _ z]; exact this
      have hl' : s.2.1.length = V' 0 1 0 + V' 0 2 0 + V' 0 3 0 + V' 0 4 0 + V' 0 7 0 := by rw [hl, vs 1 (by decide), vs 2 (by decide), vs 3 (by decide), vs 4 (by decide), vs 7 (by decide)]
      exact ⟨⟨⟨⟨hVW, hl', hq'⟩, hc8', hc10'⟩, by show a ≤ nx T e a; omega, by show nx T e a ≤ e; omega⟩, by show 0 < V' 0 0 0; rw [vs 0 (by decide)]; exact h0⟩
theorem kp_walk {s s' : pS} (hC : PC s) (he : s.2.2 ≤ e) (hr : s.1 0 8 0 < 99) (h0 : 0 < s.1 0 0 0) (h : rd_walk T e s = .inr s') : PK T e s s' ∧ 0 < s'.1 0 0 0 := by
  unfold rd_walk at h
  obtain ⟨t, e1, h⟩ := bnd_r h
  have bt := pKnown_lt (V := s.1) e1 hC.1.2.2
  have n1 := nx_le (T := T) he
  split at h
  · rename_i hz
    obtain ⟨⟨h1, h2, h3⟩, h4⟩ := kp_rwl hC h0 hr bt hz 5 [] _ rfl (fun i hi => absurd hi (Nat.not_lt_zero i)) n1.2 h
    exact ⟨⟨h1, by omega, h3⟩, h4⟩
  · cases h
/-- a line behind its first word -/
def rdL (T : Nat → Nat) (e : Nat) (s : pS) (k : Nat) : lR :=
  if k = 0 then rdWind T e s else if k = 1 then rdLand T e 1 2 0 9 1 s else if k = 2 then rd_smell T e s else if k = 3 then rdLand T e 3 5 1 60 4 s else if k = 4 then rd_place T e s else if k = 5 then rd_path T e s else
  if k = 6 then rd_leaves T e s else if k = 7 then rd_trav T e s else if k = 8 then rd_walk T e s else if k = 9 then rd_asked T e s else if k = 10 then rd_whiff T e s else rd_on T e s
def rmN (k : Nat) : Nat := [1, 4, 6, 4, 6, 10, 8, 4, 99, 4, 99, 12].getD k 0
/-- the sort of a line and one more; 0: none -/
def lw (T : Nat → Nat) (e a : Nat) : Nat := if kd T e a = 1 then wiN 0 (vl T e a) else 0
def rdLn (T : Nat → Nat) (e : Nat) (s : pS) : lR :=
  if lw T e s.2.2 = 0 ∨ 12 < lw T e s.2.2 then .inl (1, tA T e s.2.2)
  else if lw T e s.2.2 = 1 ∧ 0 < s.1 0 0 0 then .inl (3, tA T e s.2.2)
  else if lw T e s.2.2 ≠ 1 ∧ s.1 0 0 0 = 0 then .inl (6, tA T e s.2.2)
  else if rmN (lw T e s.2.2 - 1) ≤ s.1 0 (lw T e s.2.2 - 1) 0 then .inl (5, tA T e s.2.2)
  else rdL T e (s.1, s.2.1, nx T e s.2.2) (lw T e s.2.2 - 1)
theorem kp_ln {s s' : pS} (hC : PC s) (he : s.2.2 ≤ e) (h : rdLn T e s = .inr s') : PK T e s s' ∧ 0 < s'.1 0 0 0 := by
  have n1 := nx_le (T := T) he
  unfold rdLn at h
  split at h
  · cases h
  split at h
  · cases h
  split at h
  · cases h
  split at h
  · cases h
  rename_i q1 q2 q3 q4
  generalize hw : lw T e s.2.2 = w at *
  have hC1 : PC (s.1, s.2.1, nx T e s.2.2) := hC
  have key : PK T e (s.1, s.2.1, nx T e s.2.2) s' ∧ 0 < s'.1 0 0 0 := by
    have hrm : ∀ k, k < 12 → w = k + 1 → s.1 0 k 0 < rmN k := fun k hk hw => by rw [hw, Nat.add_sub_cancel] at q4; omega
    have h00 : ∀ k, k ≠ 0 → w = k + 1 → 0 < s.1 0 0 0 := fun k hk hw => by omega
    unfold rdL at h
    by_cases k0 : w - 1 = 0
    · rw [if_pos k0] at h
      exact kp_wind hC1 n1.2 (hrm 0 (by decide) (by omega)) h
    by_cases k1 : w - 1 = 1
    · rw [if_neg k0, if_pos k1] at h
      exact kp_land hC1 n1.2 (hrm 1 (by decide) (by omega)) (h00 1 (by decide) (by omega)) h
    by_cases k2 : w - 1 = 2
    · rw [if_neg k0, if_neg k1, if_pos k2] at h
      exact kp_smell hC1 n1.2 (hrm 2 (by decide) (by omega)) (h00 2 (by decide) (by omega)) h
    by_cases k3 : w - 1 = 3
    · rw [if_neg k0, if_neg k1, if_neg k2, if_pos k3] at h
      exact kp_nose hC1 n1.2 (hrm 3 (by decide) (by omega)) (h00 3 (by decide) (by omega)) h
    by_cases k4 : w - 1 = 4
    · rw [if_neg k0, if_neg k1, if_neg k2, if_neg k3, if_pos k4] at h
      exact kp_place hC1 n1.2 (hrm 4 (by decide) (by omega)) (h00 4 (by decide) (by omega)) h
    by_cases k5 : w - 1 = 5
    · rw [if_neg k0, if_neg k1, if_neg k2, if_neg k3, if_neg k4, if_pos k5] at h
      exact kp_path hC1 n1.2 (hrm 5 (by decide) (by omega)) (h00 5 (by decide) (by omega)) h
    by_cases k6 : w - 1 = 6
    · rw [if_neg k0, if_neg k1, if_neg k2, if_neg k3, if_neg k4, if_neg k5, if_pos k6] at h
      exact kp_leaves hC1 n1.2 (hrm 6 (by decide) (by omega)) (h00 6 (by decide) (by omega)) h
    by_cases k7 : w - 1 = 7
    · rw [if_neg k0, if_neg k1, if_neg k2, if_neg k3, if_neg k4, if_neg k5, if_neg k6, if_pos k7] at h
      exact kp_trav hC1 n1.2 (hrm 7 (by decide) (by omega)) (h00 7 (by decide) (by omega)) h
    by_cases k8 : w - 1 = 8
    · rw [if_neg k0, if_neg k1, if_neg k2, if_neg k3, if_neg k4, if_neg k5, if_neg k6, if_neg k7, if_pos k8] at h
      exact kp_walk hC1 n1.2 (hrm 8 (by decide) (by omega)) (h00 8 (by decide) (by omega)) h
    by_cases k9 : w - 1 = 9
    · rw [if_neg k0, if_neg k1, if_neg k2, if_neg k3, if_neg k4, if_neg k5, if_neg k6, if_neg k7, if_neg k8, if_pos k9] at h
      exact kp_asked hC1 n1.2 (hrm 9 (by decide) (by omega)) (h00 9 (by decide) (by omega)) h
    by_cases k10 : w - 1 = 10
    · rw [if_neg k0, if_neg k1, if_neg k2, if_neg k3, if_neg k4, if_neg k5, if_neg k6, if_neg k7, if_neg k8, if_neg k9, if_pos k10] at h
      exact kp_whiff hC1 n1.2 (hrm 10 (by decide) (by omega)) (h00 10 (by decide) (by omega)) h
    rw [if_neg k0, if_neg k1, if_neg k2, if_neg k3, if_neg k4, if_neg k5, if_neg k6, if_neg k7, if_neg k8, if_neg k9, if_neg k10] at h
    exact kp_on hC1 n1.2 (hrm 11 (by decide) (by omega)) (h00 11 (by decide) (by omega)) h
  exact ⟨⟨key.1.1, Nat.le_trans n1.1 key.1.2.1, key.1.2.2⟩, key.2⟩

end Tel14
