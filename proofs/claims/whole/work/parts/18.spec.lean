/-! what the two programs reckon, in natural numbers. A border V: V 0 k 0 sizes (0 wind, 1 lands, 2 smells, 3 noses, 4 places, 5 paths, 6 leaves, 7 travellers, 8 walks, 9 asked, 10 whiffs, 11 on), V 1 duty, V 2 kind, V 3 from, V 4 skill, V 5 land of a place, V 6 its nose and one more, V 7 p q hours, V 8 p s leaves, V 9 sort, V 10 home, V 11 start, V 12 t s on, V 13 how long a walk, V 14 t i its stops, V 15 asked of, V 16 asked, V 17 whiff and one more -/
abbrev sV : Type := Nat → Nat → Nat → Nat
def fdL : List Nat := [2, 1, 2, 4, 1]
def fd (k : Nat) : Nat := fdL.getD k 0
theorem xFades_eq : ∀ k, k < 5 → xFadesL.getD k 0 = nI (fd k) := by decide
theorem fd_le : ∀ k, k < 5 → fd k ≤ 4 := by decide
/-- STRENGTH behind H hours, of which winds have blown off w -/
def str (V : sV) (f : Nat → Nat) (H w s : Nat) : Nat := (f s - (fd (V 2 s 0) * H + w)) / 2
/-- the greatest STRENGTH of a cover -/
def cvr (V : sV) (g : Nat → Nat) : Nat → Nat
  | 0 => 0
  | n + 1 => if V 2 n 0 = 2 then max (cvr V g n) (g n) else cvr V g n
/-- COVERED -/
def unc (V : sV) (g : Nat → Nat) (s : Nat) : Nat := if V 2 s 0 = 2 then g s else g s - cvr V g (V 0 2 0) / 2
/-- is DUTY asked of it in this land -/
def dtb (V : sV) (s land : Nat) : Bool := decide (V 2 s 0 ≠ 3) && (decide (V 2 s 0 ≠ 4) && decide (V 3 s 0 ≠ land))
def tls (V : sV) (g : Nat → Nat) (land skill : Nat) : Nat → Nat
  | 0 => 0
  | n + 1 => tls V g land skill n + (if skill ≤ unc V g n ∧ dtb V n land = true then unc V g n * V 1 (V 3 n 0) 0 else 0)
/-- DUTY by a nose of a skill at a place -/
def tol (V : sV) (g : Nat → Nat) (sort p skill : Nat) : Nat :=
  if sort = 3 then 0 else if sort = 1 then 2 * tls V g (V 5 p 0) skill (V 0 2 0) else if sort = 2 then tls V g (V 5 p 0) skill (V 0 2 0) / 2 else tls V g (V 5 p 0) skill (V 0 2 0)
/-- the bounds of a border -/
def VW (V : sV) : Prop :=
  V 0 0 0 ≤ 5 ∧ V 0 1 0 ≤ 4 ∧ V 0 2 0 ≤ 6 ∧ V 0 3 0 ≤ 4 ∧ V 0 4 0 ≤ 6 ∧ V 0 5 0 ≤ 10 ∧ V 0 6 0 ≤ 8 ∧ V 0 7 0 ≤ 4 ∧ V 0 8 0 ≤ 99 ∧ V 0 9 0 ≤ 4 ∧ V 0 10 0 ≤ 99 ∧ V 0 11 0 ≤ 12 ∧
  (∀ l, l < V 0 1 0 → V 1 l 0 ≤ 9) ∧ (∀ s, s < V 0 2 0 → V 2 s 0 < 5 ∧ V 3 s 0 < V 0 1 0) ∧ (∀ n, n < V 0 3 0 → 1 ≤ V 4 n 0 ∧ V 4 n 0 ≤ 60) ∧
  (∀ p, p < V 0 4 0 → V 5 p 0 < V 0 1 0 ∧ V 6 p 0 ≤ V 0 3 0) ∧ (∀ p q, V 7 p q ≤ 40) ∧ (∀ p s, V 8 p s ≤ 60) ∧
  (∀ t, t < V 0 7 0 → V 9 t 0 < 4 ∧ V 10 t 0 < V 0 1 0 ∧ V 11 t 0 < V 0 4 0) ∧ (∀ t s, V 12 t s ≤ 99) ∧ (∀ t, V 13 t 0 ≤ 5) ∧ (∀ t i, i < V 13 t 0 → V 14 t i < V 0 4 0) ∧
  (∀ i, i < V 0 9 0 → V 15 i 0 < V 0 7 0 ∧ V 16 i 0 ≤ 99) ∧ (∀ s, V 17 s 0 ≤ 61)
/-- an int that is a number or, for 0, something else -/
def nO (z : Int32) (n : Nat) : Int32 := if n = 0 then z else nI (n - 1)
/-- the class's border bd holds V -/
def XB (V : sV) (bd : Nat) (I : Nat → Nat → Nat → Int32) : Prop :=
  (∀ k, k < 12 → I 16 bd k = nI (V 0 k 0)) ∧ (∀ l, l < V 0 1 0 → I 17 bd l = nI (V 1 l 0)) ∧ (∀ s, s < V 0 2 0 → I 18 bd s = nI (V 2 s 0) ∧ I 19 bd s = nI (V 3 s 0)) ∧
  (∀ n, n < V 0 3 0 → I 20 bd n = nI (V 4 n 0)) ∧ (∀ p, p < V 0 4 0 → I 21 bd p = nI (V 5 p 0) ∧ I 22 bd p = nO (-2) (V 6 p 0)) ∧
  (∀ t, t < V 0 7 0 → I 23 bd t = nI (V 9 t 0) ∧ I 24 bd t = nI (V 10 t 0) ∧ I 25 bd t = nI (V 11 t 0)) ∧ (∀ t, t < 4 → I 26 bd t = nI (V 13 t 0)) ∧
  (∀ i, i < V 0 9 0 → I 27 bd i = nI (V 15 i 0) ∧ I 28 bd i = nI (V 16 i 0)) ∧ (∀ s, s < 6 → 0 < V 0 0 0 → I 29 bd s = nO (-1) (V 17 s 0)) ∧
  (∀ p q, p < 6 → q < 6 → I 31 (p + 6 * bd) q = nI (V 7 p q) ∧ I 33 (p + 6 * bd) q = nI (2 * V 8 p q)) ∧ (∀ t s, t < 4 → s < 6 → I 35 (t + 4 * bd) s = nI (2 * V 12 t s)) ∧
  (∀ t i, t < 4 → i < V 13 t 0 → I 37 (t + 4 * bd) i = nI (V 14 t i))
/-- nothing but segments of P has changed -/
def Sm (P : Nat → Prop) (I I' : Nat → Nat → Nat → Int32) : Prop := ∀ s, ¬ P s → I' s = I s
theorem Sm.rf {P : Nat → Prop} {I : Nat → Nat → Nat → Int32} : Sm P I I := fun _ _ => rfl
theorem Sm.tr {P : Nat → Prop} {I I1 I2 : Nat → Nat → Nat → Int32} (h1 : Sm P I I1) (h2 : Sm P I1 I2) : Sm P I I2 := fun s h => (h2 s h).trans (h1 s h)
theorem Sm.wk {P P' : Nat → Prop} {I I' : Nat → Nat → Nat → Int32} (h : Sm P I I') (hp : ∀ s, P s → P' s) : Sm P' I I' := fun s h1 => h s (fun z => h1 (hp s z))
theorem Sm.xu {P : Nat → Prop} {I I' : Nat → Nat → Nat → Int32} {s i k : Nat} {v : Int32} (h : Sm P I I') (hp : P s) : Sm P I (xu I' s i k v) := by
  intro a ha
  funext b c
  rw [xu_ns (fun e => ha (by rw [e]; exact hp)), h a ha]
theorem Sm.xur {P : Nat → Prop} {I I' : Nat → Nat → Nat → Int32} {s i : Nat} {f : Nat → Int32} (h : Sm P I I') (hp : P s) : Sm P I (xur I' s i f) := by
  intro a ha
  funext b
  rw [xur_ns (fun e => ha (by rw [e]; exact hp)), h a ha]
theorem XB.sm {V : sV} {bd : Nat} {I I' : Nat → Nat → Nat → Int32} (h : XB V bd I) (hs : ∀ s, 16 ≤ s → s ≤ 37 → I' s = I s) : XB V bd I' := by
  unfold XB at h ⊢
  simp only [hs 16 (by omega) (by omega), hs 17 (by omega) (by omega), hs 18 (by omega) (by omega), hs 19 (by omega) (by omega), hs 20 (by omega) (by omega), hs 21 (by omega) (by omega), hs 22 (by omega) (by omega), hs 23 (by omega) (by omega), hs 24 (by omega) (by omega), hs 25 (by omega) (by omega), hs 26 (by omega) (by omega), hs 27 (by omega) (by omega), hs 28 (by omega) (by omega), hs 29 (by omega) (by omega), hs 31 (by omega) (by omega), hs 33 (by omega) (by omega), hs 35 (by omega) (by omega), hs 37 (by omega) (by omega)]
  exact h
/-- numbers: differences that stop at 0 -/
theorem i32_sub_sub (a b c : Int32) : a - b - c = a - (b + c) := by
  apply Int32.toBitVec_inj.mp
  simp only [Int32.toBitVec_sub, Int32.toBitVec_add]
  bv_omega
theorem mx0 {a b : Nat} (ha : a < 2 ^ 30) (hb : b < 2 ^ 30) : (if nI 0 < nI a - nI b then nI a - nI b else nI 0) = nI (a - b) := by
  by_cases h : b < a
  · rw [pk_sub (Nat.le_of_lt h), if_pos (nI_lt (by omega) (by omega))]
  · rw [if_neg, show a - b = 0 by omega]
    intro q
    have h1 := pk_sub_toInt ha hb
    have h2 := Int32.lt_iff_toInt_lt.mp q
    rw [h1, nI_toInt (by omega)] at h2
    omega
theorem nI_max {a b : Nat} (ha : a < 2 ^ 31) (hb : b < 2 ^ 31) : (if nI a < nI b then nI b else nI a) = nI (max a b) := by
  by_cases h : a < b
  · rw [if_pos (nI_lt h hb), show max a b = b by omega]
  · rw [if_neg (nI_nlt (by omega) ha), show max a b = a by omega]
theorem nI_min {a b : Nat} (ha : a < 2 ^ 31) (hb : b < 2 ^ 31) : (if nI b < nI a then nI b else nI a) = nI (min a b) := by
  by_cases h : b < a
  · rw [if_pos (nI_lt h ha), show min a b = b by omega]
  · rw [if_neg (nI_nlt (by omega) hb), show min a b = a by omega]
theorem str_le {V : sV} {f : Nat → Nat} {H w s : Nat} (h : f s ≤ 198) : str V f H w s ≤ 99 := by unfold str; omega
theorem cvr_le {V : sV} {g : Nat → Nat} : ∀ n, (∀ s, s < n → g s ≤ 99) → cvr V g n ≤ 99
  | 0, _ => by simp [cvr]
  | n + 1, h => by
    have := cvr_le (V := V) n (fun s hs => h s (by omega))
    have := h n (by omega)
    unfold cvr
    split <;> omega
