section Bcp
variable {G : xG} {ad : Nat → Nat → Nat} {nb : Nat} {b r : Option Nat} {L : Nat → Nat → Nat → Int64} {V : sV} {I : Nat → Nat → Nat → Int32} {d : Nat}

/-- rows of a segment of borders, and how long they are -/
def rwN (h : Nat) : Nat := if h = 31 ∨ h = 33 then 6 else if h = 35 ∨ h = 37 then 4 else 1
def lnN (h : Nat) : Nat := match xsh h with
  | .inl q => q.2
  | .inr _ => 0
/-- the segments of S have been copied from border 1 to border 0 -/
def CP (S : List Nat) (I I' : Nat → Nat → Nat → Int32) : Prop := (∀ h ∈ S, ∀ c k, c < rwN h → k < lnN h → I' h c k = I h (c + rwN h) k) ∧ ∀ a c, ¬ (a ∈ S ∧ c < rwN a) → I' a c = I a c
theorem CP.nil : CP [] I I := ⟨fun _ h => absurd h List.not_mem_nil, fun _ _ _ => rfl⟩
theorem CP.add {S : List Nat} {h : Nat} {I1 I2 : Nat → Nat → Nat → Int32} (hc : CP S I I1) (hn : h ∉ S) (k1 : ∀ c k, c < rwN h → k < lnN h → I2 h c k = I1 h (c + rwN h) k) (k2 : ∀ a c, ¬ (a = h ∧ c < rwN h) → I2 a c = I1 a c) : CP (h :: S) I I2 := by
  refine ⟨fun g hg c k h1 h2 => ?_, fun a c hac => ?_⟩
  · rcases List.mem_cons.mp hg with rfl | hg
    · rw [k1 c k h1 h2, hc.2 _ _ (fun z => hn z.1)]
    · rw [k2 g c (fun z => hn (z.1 ▸ hg))]
      exact hc.1 g hg c k h1 h2
  · rw [k2 a c (fun z => hac ⟨List.mem_cons.mpr (Or.inl z.1), by rw [z.1]; exact z.2⟩)]
    exact hc.2 a c (fun z => hac ⟨List.mem_cons.mpr (Or.inr z.1), z.2⟩)
def cpS : List Nat := [29, 28, 27, 37, 26, 35, 25, 24, 23, 33, 31, 22, 21, 20, 19, 18, 17, 16]
theorem CP.xb {I' : Nat → Nat → Nat → Int32} (hc : CP cpS I I') (hV : VW V) (hX : XB V 1 I) : XB V 0 I' := by
  have v1 := hV.2.1
  have v2 := hV.2.2.1
  have v3 := hV.2.2.2.1
  have v4 := hV.2.2.2.2.1
  have v7 := hV.2.2.2.2.2.2.2.1
  have v9 := hV.2.2.2.2.2.2.2.2.2.1
  have v13 := hV.2.2.2.2.2.2.2.2.2.2.2.2.2.2.2.2.2.2.2.2.1
  obtain ⟨x0, x1, x2, x3, x4, x5, x6, x7, x8, x9, x10, x11⟩ := hX
  have e1 : ∀ h, h ∈ cpS → rwN h = 1 → ∀ k, k < lnN h → I' h 0 k = I h 1 k := fun h h1 h2 k h3 => by
    have := hc.1 h h1 0 k (by omega) h3
    rwa [h2] at this
  refine ⟨fun k hk => ?_, fun l hl => ?_, fun s hs => ⟨?_, ?_⟩, fun n hn => ?_, fun q hq => ⟨?_, ?_⟩, fun t ht => ⟨?_, ?_, ?_⟩, fun t ht => ?_, fun i hi => ⟨?_, ?_⟩, fun s hs h0 => ?_, fun a c ha hb => ⟨?_, ?_⟩, fun t s ht hs => ?_, fun t i ht hi => ?_⟩
  · rw [e1 16 (by decide) rfl k (show k < 12 from hk)]; exact x0 k hk
  · rw [e1 17 (by decide) rfl l (show l < 4 by omega)]; exact x1 l hl
  · rw [e1 18 (by decide) rfl s (show s < 6 by omega)]; exact (x2 s hs).1
  · rw [e1 19 (by decide) rfl s (show s < 6 by omega)]; exact (x2 s hs).2
  · rw [e1 20 (by decide) rfl n (show n < 4 by omega)]; exact x3 n hn
  · rw [e1 21 (by decide) rfl q (show q < 6 by omega)]; exact (x4 q hq).1
  · rw [e1 22 (by decide) rfl q (show q < 6 by omega)]; exact (x4 q hq).2
  · rw [e1 23 (by decide) rfl t (show t < 4 by omega)]; exact (x5 t ht).1
  · rw [e1 24 (by decide) rfl t (show t < 4 by omega)]; exact (x5 t ht).2.1
  · rw [e1 25 (by decide) rfl t (show t < 4 by omega)]; exact (x5 t ht).2.2
  · rw [e1 26 (by decide) rfl t ht]; exact x6 t ht
  · rw [e1 27 (by decide) rfl i (show i < 4 by omega)]; exact (x7 i hi).1
  · rw [e1 28 (by decide) rfl i (show i < 4 by omega)]; exact (x7 i hi).2
  · rw [e1 29 (by decide) rfl s hs]; exact x8 s hs h0
  · have := hc.1 31 (by decide) a c (show a < 6 from ha) (show c < 6 from hb)
    rw [show a + 6 * 0 = a by omega, this]; exact (x9 a c ha hb).1
  · have := hc.1 33 (by decide) a c (show a < 6 from ha) (show c < 6 from hb)
    rw [show a + 6 * 0 = a by omega, this]; exact (x9 a c ha hb).2
  · have := hc.1 35 (by decide) t s (show t < 4 from ht) (show s < 6 from hs)
    rw [show t + 4 * 0 = t by omega, this]; exact x10 t s ht hs
  · have h5 := v13 t
    have := hc.1 37 (by decide) t i (show t < 4 from ht) (show i < 5 by omega)
    rw [show t + 4 * 0 = t by omega, this]; exact x11 t i ht hi
def tb (a c : Nat) : Prop := (16 ≤ a ∧ a ≤ 29 ∧ c = 0) ∨ ((a = 31 ∨ a = 33) ∧ c < 6) ∨ ((a = 35 ∨ a = 37) ∧ c < 4)
def db (a c : Nat) : Prop := (16 ≤ a ∧ a ≤ 29 ∧ c = 1) ∨ ((a = 31 ∨ a = 33) ∧ 6 ≤ c) ∨ ((a = 35 ∨ a = 37) ∧ 4 ≤ c)
theorem CP.fr {I' : Nat → Nat → Nat → Int32} (hc : CP cpS I I') : ∀ a c, ¬ tb a c → I' a c = I a c := by
  intro a c h
  refine hc.2 a c (fun z => h ?_)
  obtain ⟨z1, z2⟩ := z
  unfold cpS at z1
  simp only [List.mem_cons, List.not_mem_nil, or_false] at z1
  unfold tb
  unfold rwN at z2
  rcases z1 with rfl | rfl | rfl | rfl | rfl | rfl | rfl | rfl | rfl | rfl | rfl | rfl | rfl | rfl | rfl | rfl | rfl | rfl <;> simp at z2 <;> omega

set_option maxRecDepth 100000 in
set_option maxHeartbeats 4000000 in
theorem c_copyRow {h j0 j1 m : Nat} (hh : xsh h = .inl (0, m)) (hm : m < 2 ^ 31) (h0 : j0 < CC nb h) (h1 : j1 < CC nb h) : Mt G vX2_copyRow (d + 1) (0, 0) [.ref (ad h j1), .ref (ad h j0)] (MM ad nb b r I L) (qV (fun M' => ∃ I', M' = MM ad nb b r I' L ∧ (∀ k, k < m → I' h j0 k = I h j1 k) ∧ ∀ a c, ¬ (a = h ∧ c = j0) → I' a c = I a c)) := by
  refine x_start (by decide) (Nat.le_of_ble_eq_true rfl) ?_
  refine x_aload_n dX2_copyRow_0 rfl ?_
  refine x_iconst dX2_copyRow_1 li_0 ?_
  refine x_aload_n dX2_copyRow_2 rfl ?_
  refine x_iconst dX2_copyRow_3 li_0 ?_
  refine x_aload_n dX2_copyRow_4 rfl ?_
  refine x_alen dX2_copyRow_5 hh (by decide) h1 ?_
  refine x_aload_n dX2_copyRow_6 rfl ?_
  refine x_alen dX2_copyRow_7 hh (by decide) h0 ?_
  refine x_min dX2_copyRow_8 (xm3 235 rfl rfl) (Nat.le_of_ble_eq_true rfl) ?_
  rw [nI_min hm hm, Nat.min_self]
  refine x_copy dX2_copyRow_11 (xm3 236 rfl rfl) rfl rfl rfl hh hh h1 h0 (by omega) (by omega) (Nat.le_of_ble_eq_true rfl) ?_
  refine x_vret dX2_copyRow_14 rfl ?_
  refine ⟨rfl, _, rfl, fun k hk => ?_, fun a c hac => xur_n hac⟩
  rw [xur_s, pk_cpy_in (by omega) (by omega)]
  simp
set_option maxRecDepth 100000 in
set_option maxHeartbeats 4000000 in
theorem c_copyRows_hours  : Mt G vX2_copyRows (d + 1 + 1) (0, 0) [.ref (ad 30 1), .ref (ad 30 0)] (MM ad nb b r I L) (qV (fun M' => ∃ I', M' = MM ad nb b r I' L ∧ (∀ c k, c < 6 → k < 6 → I' 31 c k = I 31 (c + 6) k) ∧ ∀ a c, ¬ (a = 31 ∧ c < 6) → I' a c = I a c)) := by
  have loop2 : ∀ (n : Nat) (q : Nat) (I1 : Nat → Nat → Nat → Int32), 6 - q < n → q ≤ 6 → ((∀ c k, c < q → k < 6 → I1 31 c k = I 31 (c + 6) k) ∧ ∀ a c, ¬ (a = 31 ∧ c < q) → I1 a c = I a c) → X G vX2_copyRows (d + 1 + 1) (0, 0) 2 [(0, some (.ref (ad 30 1))), (1, some (.ref (ad 30 0))), (2, some (.int (nI (q))))] [] (MM ad nb b r I1 L) (xT G (qV (fun M' => ∃ I', M' = MM ad nb b r I' L ∧ (∀ c k, c < 6 → k < 6 → I' 31 c k = I 31 (c + 6) k) ∧ ∀ a c, ¬ (a = 31 ∧ c < 6) → I' a c = I a c))) := by
    intro n
    induction n with
    | zero => intro q I1 h0; omega
    | succ n ih =>
      intro q I1 hn hq0 hi
      obtain ⟨i1, i2⟩ := hi
      refine x_iload_n dX2_copyRows_2 rfl ?_
      refine x_aload_n dX2_copyRows_3 rfl ?_
      refine x_alen dX2_copyRows_4 rfl (by decide) (Nat.lt_of_lt_of_le (by first | assumption | omega | decide) (Nat.le_refl 2)) ?_
      refine x_icN_ge 29 dX2_copyRows_5 (by decide) (by omega) (by omega) (fun h5 => ?_) (fun h5 => ?_)
      · refine x_vret dX2_copyRows_29 rfl ?_
        have eq : q = 6 := by omega
        subst eq
        exact ⟨rfl, _, rfl, i1, i2⟩
      · refine x_iload_n dX2_copyRows_8 rfl ?_
        refine x_aload_n dX2_copyRows_9 rfl ?_
        refine x_alen dX2_copyRows_10 rfl (by decide) (Nat.lt_of_lt_of_le (by first | assumption | omega | decide) (Nat.le_refl 2)) ?_
        refine x_icN_ge 29 dX2_copyRows_11 (by decide) (by omega) (by omega) (fun h11 => absurd h11 (by omega)) (fun h11 => ?_)
        refine x_aload_n dX2_copyRows_14 rfl ?_
        refine x_iload_n dX2_copyRows_15 rfl ?_
        refine aa_Border_hours1 dX2_copyRows_16 rfl (by first | exact Nat.le_of_ble_eq_true rfl | assumption | omega) ?_
        refine x_aload_n dX2_copyRows_17 rfl ?_
        refine x_iload_n dX2_copyRows_18 rfl ?_
        refine aa_Border_hours0 dX2_copyRows_19 rfl (by first | exact Nat.le_of_ble_eq_true rfl | assumption | omega) ?_
        refine x_csv (c_copyRow (h := 31) (j0 := q) (j1 := q + 6) rfl (by omega) (Nat.lt_of_lt_of_le (show q < 12 by omega) (Nat.le_of_ble_eq_true rfl)) (Nat.lt_of_lt_of_le (show q + 6 < 12 by omega) (Nat.le_of_ble_eq_true rfl))) kX2_72 dX2_copyRows_20 rfl rfl (Nat.le_of_ble_eq_true rfl) (fun M2 hq2 => ?_)
        obtain ⟨I2, rfl, k1, k2⟩ := hq2
        refine x_iincN 1 dX2_copyRows_23 li_1 rfl (by decide) rfl ?_
        refine x_goto 2 dX2_copyRows_26 (by decide) ?_
        refine x_ls ?_ (ih (q + 1) I2 (by omega) (by omega) ⟨?_, ?_⟩)
        · exact ⟨rfl, rfl, rfl, trivial⟩
        · intro c k hc hk
          by_cases e : c = q
          · subst e; rw [k1 k hk, i2 31 (c + 6) (by omega)]
          · rw [k2 31 c (by omega)]; exact i1 c k (by omega) hk
        · intro a c hac; rw [k2 a c (by omega)]; exact i2 a c (by omega)
  refine x_start (by decide) (Nat.le_of_ble_eq_true rfl) ?_
  refine x_iconst dX2_copyRows_0 li_0 ?_
  refine x_istore_n dX2_copyRows_1 (by decide) rfl ?_
  refine x_ls ?_ (loop2 7 0 I (by omega) (by omega) ⟨fun c k hc => absurd hc (Nat.not_lt_zero c), fun _ _ _ => rfl⟩)
  exact ⟨rfl, rfl, rfl, trivial⟩
set_option maxRecDepth 100000 in
set_option maxHeartbeats 4000000 in
theorem c_copyRows_leaves  : Mt G vX2_copyRows (d + 1 + 1) (0, 0) [.ref (ad 32 1), .ref (ad 32 0)] (MM ad nb b r I L) (qV (fun M' => ∃ I', M' = MM ad nb b r I' L ∧ (∀ c k, c < 6 → k < 6 → I' 33 c k = I 33 (c + 6) k) ∧ ∀ a c, ¬ (a = 33 ∧ c < 6) → I' a c = I a c)) := by
  have loop2 : ∀ (n : Nat) (q : Nat) (I1 : Nat → Nat → Nat → Int32), 6 - q < n → q ≤ 6 → ((∀ c k, c < q → k < 6 → I1 33 c k = I 33 (c + 6) k) ∧ ∀ a c, ¬ (a = 33 ∧ c < q) → I1 a c = I a c) → X G vX2_copyRows (d + 1 + 1) (0, 0) 2 [(0, some (.ref (ad 32 1))), (1, some (.ref (ad 32 0))), (2, some (.int (nI (q))))] [] (MM ad nb b r I1 L) (xT G (qV (fun M' => ∃ I', M' = MM ad nb b r I' L ∧ (∀ c k, c < 6 → k < 6 → I' 33 c k = I 33 (c + 6) k) ∧ ∀ a c, ¬ (a = 33 ∧ c < 6) → I' a c = I a c))) := by
    intro n
    induction n with
    | zero => intro q I1 h0; omega
    | succ n ih =>
      intro q I1 hn hq0 hi
      obtain ⟨i1, i2⟩ := hi
      refine x_iload_n dX2_copyRows_2 rfl ?_
      refine x_aload_n dX2_copyRows_3 rfl ?_
      refine x_alen dX2_copyRows_4 rfl (by decide) (Nat.lt_of_lt_of_le (by first | assumption | omega | decide) (Nat.le_refl 2)) ?_
      refine x_icN_ge 29 dX2_copyRows_5 (by decide) (by omega) (by omega) (fun h5 => ?_) (fun h5 => ?_)
      · refine x_vret dX2_copyRows_29 rfl ?_
        have eq : q = 6 := by omega
        subst eq
        exact ⟨rfl, _, rfl, i1, i2⟩
      · refine x_iload_n dX2_copyRows_8 rfl ?_
        refine x_aload_n dX2_copyRows_9 rfl ?_
        refine x_alen dX2_copyRows_10 rfl (by decide) (Nat.lt_of_lt_of_le (by first | assumption | omega | decide) (Nat.le_refl 2)) ?_
        refine x_icN_ge 29 dX2_copyRows_11 (by decide) (by omega) (by omega) (fun h11 => absurd h11 (by omega)) (fun h11 => ?_)
        refine x_aload_n dX2_copyRows_14 rfl ?_
        refine x_iload_n dX2_copyRows_15 rfl ?_
        refine aa_Border_leaves1 dX2_copyRows_16 rfl (by first | exact Nat.le_of_ble_eq_true rfl | assumption | omega) ?_
        refine x_aload_n dX2_copyRows_17 rfl ?_
        refine x_iload_n dX2_copyRows_18 rfl ?_
        refine aa_Border_leaves0 dX2_copyRows_19 rfl (by first | exact Nat.le_of_ble_eq_true rfl | assumption | omega) ?_
        refine x_csv (c_copyRow (h := 33) (j0 := q) (j1 := q + 6) rfl (by omega) (Nat.lt_of_lt_of_le (show q < 12 by omega) (Nat.le_of_ble_eq_true rfl)) (Nat.lt_of_lt_of_le (show q + 6 < 12 by omega) (Nat.le_of_ble_eq_true rfl))) kX2_72 dX2_copyRows_20 rfl rfl (Nat.le_of_ble_eq_true rfl) (fun M2 hq2 => ?_)
        obtain ⟨I2, rfl, k1, k2⟩ := hq2
        refine x_iincN 1 dX2_copyRows_23 li_1 rfl (by decide) rfl ?_
        refine x_goto 2 dX2_copyRows_26 (by decide) ?_
        refine x_ls ?_ (ih (q + 1) I2 (by omega) (by omega) ⟨?_, ?_⟩)
        · exact ⟨rfl, rfl, rfl, trivial⟩
        · intro c k hc hk
          by_cases e : c = q
          · subst e; rw [k1 k hk, i2 33 (c + 6) (by omega)]
          · rw [k2 33 c (by omega)]; exact i1 c k (by omega) hk
        · intro a c hac; rw [k2 a c (by omega)]; exact i2 a c (by omega)
  refine x_start (by decide) (Nat.le_of_ble_eq_true rfl) ?_
  refine x_iconst dX2_copyRows_0 li_0 ?_
  refine x_istore_n dX2_copyRows_1 (by decide) rfl ?_
  refine x_ls ?_ (loop2 7 0 I (by omega) (by omega) ⟨fun c k hc => absurd hc (Nat.not_lt_zero c), fun _ _ _ => rfl⟩)
  exact ⟨rfl, rfl, rfl, trivial⟩
set_option maxRecDepth 100000 in
set_option maxHeartbeats 4000000 in
theorem c_copyRows_on  : Mt G vX2_copyRows (d + 1 + 1) (0, 0) [.ref (ad 34 1), .ref (ad 34 0)] (MM ad nb b r I L) (qV (fun M' => ∃ I', M' = MM ad nb b r I' L ∧ (∀ c k, c < 4 → k < 6 → I' 35 c k = I 35 (c + 4) k) ∧ ∀ a c, ¬ (a = 35 ∧ c < 4) → I' a c = I a c)) := by
  have loop2 : ∀ (n : Nat) (q : Nat) (I1 : Nat → Nat → Nat → Int32), 4 - q < n → q ≤ 4 → ((∀ c k, c < q → k < 6 → I1 35 c k = I 35 (c + 4) k) ∧ ∀ a c, ¬ (a = 35 ∧ c < q) → I1 a c = I a c) → X G vX2_copyRows (d + 1 + 1) (0, 0) 2 [(0, some (.ref (ad 34 1))), (1, some (.ref (ad 34 0))), (2, some (.int (nI (q))))] [] (MM ad nb b r I1 L) (xT G (qV (fun M' => ∃ I', M' = MM ad nb b r I' L ∧ (∀ c k, c < 4 → k < 6 → I' 35 c k = I 35 (c + 4) k) ∧ ∀ a c, ¬ (a = 35 ∧ c < 4) → I' a c = I a c))) := by
    intro n
    induction n with
    | zero => intro q I1 h0; omega
    | succ n ih =>
      intro q I1 hn hq0 hi
      obtain ⟨i1, i2⟩ := hi
      refine x_iload_n dX2_copyRows_2 rfl ?_
      refine x_aload_n dX2_copyRows_3 rfl ?_
      refine x_alen dX2_copyRows_4 rfl (by decide) (Nat.lt_of_lt_of_le (by first | assumption | omega | decide) (Nat.le_refl 2)) ?_
      refine x_icN_ge 29 dX2_copyRows_5 (by decide) (by omega) (by omega) (fun h5 => ?_) (fun h5 => ?_)
      · refine x_vret dX2_copyRows_29 rfl ?_
        have eq : q = 4 := by omega
        subst eq
        exact ⟨rfl, _, rfl, i1, i2⟩
      · refine x_iload_n dX2_copyRows_8 rfl ?_
        refine x_aload_n dX2_copyRows_9 rfl ?_
        refine x_alen dX2_copyRows_10 rfl (by decide) (Nat.lt_of_lt_of_le (by first | assumption | omega | decide) (Nat.le_refl 2)) ?_
        refine x_icN_ge 29 dX2_copyRows_11 (by decide) (by omega) (by omega) (fun h11 => absurd h11 (by omega)) (fun h11 => ?_)
        refine x_aload_n dX2_copyRows_14 rfl ?_
        refine x_iload_n dX2_copyRows_15 rfl ?_
        refine aa_Border_on1 dX2_copyRows_16 rfl (by first | exact Nat.le_of_ble_eq_true rfl | assumption | omega) ?_
        refine x_aload_n dX2_copyRows_17 rfl ?_
        refine x_iload_n dX2_copyRows_18 rfl ?_
        refine aa_Border_on0 dX2_copyRows_19 rfl (by first | exact Nat.le_of_ble_eq_true rfl | assumption | omega) ?_
        refine x_csv (c_copyRow (h := 35) (j0 := q) (j1 := q + 4) rfl (by omega) (Nat.lt_of_lt_of_le (show q < 8 by omega) (Nat.le_of_ble_eq_true rfl)) (Nat.lt_of_lt_of_le (show q + 4 < 8 by omega) (Nat.le_of_ble_eq_true rfl))) kX2_72 dX2_copyRows_20 rfl rfl (Nat.le_of_ble_eq_true rfl) (fun M2 hq2 => ?_)
        obtain ⟨I2, rfl, k1, k2⟩ := hq2
        refine x_iincN 1 dX2_copyRows_23 li_1 rfl (by decide) rfl ?_
        refine x_goto 2 dX2_copyRows_26 (by decide) ?_
        refine x_ls ?_ (ih (q + 1) I2 (by omega) (by omega) ⟨?_, ?_⟩)
        · exact ⟨rfl, rfl, rfl, trivial⟩
        · intro c k hc hk
          by_cases e : c = q
          · subst e; rw [k1 k hk, i2 35 (c + 4) (by omega)]
          · rw [k2 35 c (by omega)]; exact i1 c k (by omega) hk
        · intro a c hac; rw [k2 a c (by omega)]; exact i2 a c (by omega)
  refine x_start (by decide) (Nat.le_of_ble_eq_true rfl) ?_
  refine x_iconst dX2_copyRows_0 li_0 ?_
  refine x_istore_n dX2_copyRows_1 (by decide) rfl ?_
  refine x_ls ?_ (loop2 5 0 I (by omega) (by omega) ⟨fun c k hc => absurd hc (Nat.not_lt_zero c), fun _ _ _ => rfl⟩)
  exact ⟨rfl, rfl, rfl, trivial⟩
set_option maxRecDepth 100000 in
set_option maxHeartbeats 4000000 in
theorem c_copyRows_walk  : Mt G vX2_copyRows (d + 1 + 1) (0, 0) [.ref (ad 36 1), .ref (ad 36 0)] (MM ad nb b r I L) (qV (fun M' => ∃ I', M' = MM ad nb b r I' L ∧ (∀ c k, c < 4 → k < 5 → I' 37 c k = I 37 (c + 4) k) ∧ ∀ a c, ¬ (a = 37 ∧ c < 4) → I' a c = I a c)) := by
  have loop2 : ∀ (n : Nat) (q : Nat) (I1 : Nat → Nat → Nat → Int32), 4 - q < n → q ≤ 4 → ((∀ c k, c < q → k < 5 → I1 37 c k = I 37 (c + 4) k) ∧ ∀ a c, ¬ (a = 37 ∧ c < q) → I1 a c = I a c) → X G vX2_copyRows (d + 1 + 1) (0, 0) 2 [(0, some (.ref (ad 36 1))), (1, some (.ref (ad 36 0))), (2, some (.int (nI (q))))] [] (MM ad nb b r I1 L) (xT G (qV (fun M' => ∃ I', M' = MM ad nb b r I' L ∧ (∀ c k, c < 4 → k < 5 → I' 37 c k = I 37 (c + 4) k) ∧ ∀ a c, ¬ (a = 37 ∧ c < 4) → I' a c = I a c))) := by
    intro n
    induction n with
    | zero => intro q I1 h0; omega
    | succ n ih =>
      intro q I1 hn hq0 hi
      obtain ⟨i1, i2⟩ := hi
      refine x_iload_n dX2_copyRows_2 rfl ?_
      refine x_aload_n dX2_copyRows_3 rfl ?_
      refine x_alen dX2_copyRows_4 rfl (by decide) (Nat.lt_of_lt_of_le (by first | assumption | omega | decide) (Nat.le_refl 2)) ?_
      refine x_icN_ge 29 dX2_copyRows_5 (by decide) (by omega) (by omega) (fun h5 => ?_) (fun h5 => ?_)
      · refine x_vret dX2_copyRows_29 rfl ?_
        have eq : q = 4 := by omega
        subst eq
        exact ⟨rfl, _, rfl, i1, i2⟩
      · refine x_iload_n dX2_copyRows_8 rfl ?_
        refine x_aload_n dX2_copyRows_9 rfl ?_
        refine x_alen dX2_copyRows_10 rfl (by decide) (Nat.lt_of_lt_of_le (by first | assumption | omega | decide) (Nat.le_refl 2)) ?_
        refine x_icN_ge 29 dX2_copyRows_11 (by decide) (by omega) (by omega) (fun h11 => absurd h11 (by omega)) (fun h11 => ?_)
        refine x_aload_n dX2_copyRows_14 rfl ?_
        refine x_iload_n dX2_copyRows_15 rfl ?_
        refine aa_Border_walk1 dX2_copyRows_16 rfl (by first | exact Nat.le_of_ble_eq_true rfl | assumption | omega) ?_
        refine x_aload_n dX2_copyRows_17 rfl ?_
        refine x_iload_n dX2_copyRows_18 rfl ?_
        refine aa_Border_walk0 dX2_copyRows_19 rfl (by first | exact Nat.le_of_ble_eq_true rfl | assumption | omega) ?_
        refine x_csv (c_copyRow (h := 37) (j0 := q) (j1 := q + 4) rfl (by omega) (Nat.lt_of_lt_of_le (show q < 8 by omega) (Nat.le_of_ble_eq_true rfl)) (Nat.lt_of_lt_of_le (show q + 4 < 8 by omega) (Nat.le_of_ble_eq_true rfl))) kX2_72 dX2_copyRows_20 rfl rfl (Nat.le_of_ble_eq_true rfl) (fun M2 hq2 => ?_)
        obtain ⟨I2, rfl, k1, k2⟩ := hq2
        refine x_iincN 1 dX2_copyRows_23 li_1 rfl (by decide) rfl ?_
        refine x_goto 2 dX2_copyRows_26 (by decide) ?_
        refine x_ls ?_ (ih (q + 1) I2 (by omega) (by omega) ⟨?_, ?_⟩)
        · exact ⟨rfl, rfl, rfl, trivial⟩
        · intro c k hc hk
          by_cases e : c = q
          · subst e; rw [k1 k hk, i2 37 (c + 4) (by omega)]
          · rw [k2 37 c (by omega)]; exact i1 c k (by omega) hk
        · intro a c hac; rw [k2 a c (by omega)]; exact i2 a c (by omega)
  refine x_start (by decide) (Nat.le_of_ble_eq_true rfl) ?_
  refine x_iconst dX2_copyRows_0 li_0 ?_
  refine x_istore_n dX2_copyRows_1 (by decide) rfl ?_
  refine x_ls ?_ (loop2 5 0 I (by omega) (by omega) ⟨fun c k hc => absurd hc (Nat.not_lt_zero c), fun _ _ _ => rfl⟩)
  exact ⟨rfl, rfl, rfl, trivial⟩
set_option maxRecDepth 100000 in
set_option maxHeartbeats 4000000 in
theorem c_bcopy  : Mt G vX2_copy (d + 1 + 1 + 1) (0, 0) [.ref (ad 2 0), .ref (ad 2 1)] (MM ad nb b r I L) (qV (fun M' => ∃ I', M' = MM ad nb b r I' L ∧ (∀ V, VW V → XB V 1 I → XB V 0 I') ∧ ∀ a c, ¬ tb a c → I' a c = I a c)) := by
  have hc0 : CP [] I I := CP.nil
  refine x_start (by decide) (Nat.le_of_ble_eq_true rfl) ?_
  refine x_aload_n dX2_copy_0 rfl ?_
  refine g_Border_sizes fX2_9 dX2_copy_1 (by first | exact Nat.le_of_ble_eq_true rfl | assumption | omega) ?_
  refine x_aload_n dX2_copy_4 rfl ?_
  refine g_Border_sizes fX2_9 dX2_copy_5 (by first | exact Nat.le_of_ble_eq_true rfl | assumption | omega) ?_
  refine x_csv (c_copyRow (d := d + 1) (h := 16) (j0 := 0) (j1 := 1) rfl (by omega) (Nat.le_of_ble_eq_true rfl) (Nat.le_of_ble_eq_true rfl)) kX2_72 dX2_copy_8 rfl rfl (Nat.le_of_ble_eq_true rfl) (fun Mu hu => ?_)
  obtain ⟨I1, rfl, k1, k2⟩ := hu
  have hc1 := hc0.add (h := 16) (by decide) (fun c k hc hk => by have e : c = 0 := Nat.lt_one_iff.mp hc; subst e; exact k1 k hk) (fun a c z => k2 a c (fun y => z ⟨y.1, by rw [y.2]; decide⟩))
  refine x_aload_n dX2_copy_11 rfl ?_
  refine g_Border_landDuty fX2_15 dX2_copy_12 (by first | exact Nat.le_of_ble_eq_true rfl | assumption | omega) ?_
  refine x_aload_n dX2_copy_15 rfl ?_
  refine g_Border_landDuty fX2_15 dX2_copy_16 (by first | exact Nat.le_of_ble_eq_true rfl | assumption | omega) ?_
  refine x_csv (c_copyRow (d := d + 1) (h := 17) (j0 := 0) (j1 := 1) rfl (by omega) (Nat.le_of_ble_eq_true rfl) (Nat.le_of_ble_eq_true rfl)) kX2_72 dX2_copy_19 rfl rfl (Nat.le_of_ble_eq_true rfl) (fun Mu hu => ?_)
  obtain ⟨I2, rfl, k1, k2⟩ := hu
  have hc2 := hc1.add (h := 17) (by decide) (fun c k hc hk => by have e : c = 0 := Nat.lt_one_iff.mp hc; subst e; exact k1 k hk) (fun a c z => k2 a c (fun y => z ⟨y.1, by rw [y.2]; decide⟩))
  refine x_aload_n dX2_copy_22 rfl ?_
  refine g_Border_smellKind fX2_18 dX2_copy_23 (by first | exact Nat.le_of_ble_eq_true rfl | assumption | omega) ?_
  refine x_aload_n dX2_copy_26 rfl ?_
  refine g_Border_smellKind fX2_18 dX2_copy_27 (by first | exact Nat.le_of_ble_eq_true rfl | assumption | omega) ?_
  refine x_csv (c_copyRow (d := d + 1) (h := 18) (j0 := 0) (j1 := 1) rfl (by omega) (Nat.le_of_ble_eq_true rfl) (Nat.le_of_ble_eq_true rfl)) kX2_72 dX2_copy_30 rfl rfl (Nat.le_of_ble_eq_true rfl) (fun Mu hu => ?_)
  obtain ⟨I3, rfl, k1, k2⟩ := hu
  have hc3 := hc2.add (h := 18) (by decide) (fun c k hc hk => by have e : c = 0 := Nat.lt_one_iff.mp hc; subst e; exact k1 k hk) (fun a c z => k2 a c (fun y => z ⟨y.1, by rw [y.2]; decide⟩))
  refine x_aload_n dX2_copy_33 rfl ?_
  refine g_Border_smellLand fX2_21 dX2_copy_34 (by first | exact Nat.le_of_ble_eq_true rfl | assumption | omega) ?_
  refine x_aload_n dX2_copy_37 rfl ?_
  refine g_Border_smellLand fX2_21 dX2_copy_38 (by first | exact Nat.le_of_ble_eq_true rfl | assumption | omega) ?_
  refine x_csv (c_copyRow (d := d + 1) (h := 19) (j0 := 0) (j1 := 1) rfl (by omega) (Nat.le_of_ble_eq_true rfl) (Nat.le_of_ble_eq_true rfl)) kX2_72 dX2_copy_41 rfl rfl (Nat.le_of_ble_eq_true rfl) (fun Mu hu => ?_)
  obtain ⟨I4, rfl, k1, k2⟩ := hu
  have hc4 := hc3.add (h := 19) (by decide) (fun c k hc hk => by have e : c = 0 := Nat.lt_one_iff.mp hc; subst e; exact k1 k hk) (fun a c z => k2 a c (fun y => z ⟨y.1, by rw [y.2]; decide⟩))
  refine x_aload_n dX2_copy_44 rfl ?_
  refine g_Border_noseSkill fX2_24 dX2_copy_45 (by first | exact Nat.le_of_ble_eq_true rfl | assumption | omega) ?_
  refine x_aload_n dX2_copy_48 rfl ?_
  refine g_Border_noseSkill fX2_24 dX2_copy_49 (by first | exact Nat.le_of_ble_eq_true rfl | assumption | omega) ?_
  refine x_csv (c_copyRow (d := d + 1) (h := 20) (j0 := 0) (j1 := 1) rfl (by omega) (Nat.le_of_ble_eq_true rfl) (Nat.le_of_ble_eq_true rfl)) kX2_72 dX2_copy_52 rfl rfl (Nat.le_of_ble_eq_true rfl) (fun Mu hu => ?_)
  obtain ⟨I5, rfl, k1, k2⟩ := hu
  have hc5 := hc4.add (h := 20) (by decide) (fun c k hc hk => by have e : c = 0 := Nat.lt_one_iff.mp hc; subst e; exact k1 k hk) (fun a c z => k2 a c (fun y => z ⟨y.1, by rw [y.2]; decide⟩))
  refine x_aload_n dX2_copy_55 rfl ?_
  refine g_Border_placeLand fX2_27 dX2_copy_56 (by first | exact Nat.le_of_ble_eq_true rfl | assumption | omega) ?_
  refine x_aload_n dX2_copy_59 rfl ?_
  refine g_Border_placeLand fX2_27 dX2_copy_60 (by first | exact Nat.le_of_ble_eq_true rfl | assumption | omega) ?_
  refine x_csv (c_copyRow (d := d + 1) (h := 21) (j0 := 0) (j1 := 1) rfl (by omega) (Nat.le_of_ble_eq_true rfl) (Nat.le_of_ble_eq_true rfl)) kX2_72 dX2_copy_63 rfl rfl (Nat.le_of_ble_eq_true rfl) (fun Mu hu => ?_)
  obtain ⟨I6, rfl, k1, k2⟩ := hu
  have hc6 := hc5.add (h := 21) (by decide) (fun c k hc hk => by have e : c = 0 := Nat.lt_one_iff.mp hc; subst e; exact k1 k hk) (fun a c z => k2 a c (fun y => z ⟨y.1, by rw [y.2]; decide⟩))
  refine x_aload_n dX2_copy_66 rfl ?_
  refine g_Border_placeNose fX2_30 dX2_copy_67 (by first | exact Nat.le_of_ble_eq_true rfl | assumption | omega) ?_
  refine x_aload_n dX2_copy_70 rfl ?_
  refine g_Border_placeNose fX2_30 dX2_copy_71 (by first | exact Nat.le_of_ble_eq_true rfl | assumption | omega) ?_
  refine x_csv (c_copyRow (d := d + 1) (h := 22) (j0 := 0) (j1 := 1) rfl (by omega) (Nat.le_of_ble_eq_true rfl) (Nat.le_of_ble_eq_true rfl)) kX2_72 dX2_copy_74 rfl rfl (Nat.le_of_ble_eq_true rfl) (fun Mu hu => ?_)
  obtain ⟨I7, rfl, k1, k2⟩ := hu
  have hc7 := hc6.add (h := 22) (by decide) (fun c k hc hk => by have e : c = 0 := Nat.lt_one_iff.mp hc; subst e; exact k1 k hk) (fun a c z => k2 a c (fun y => z ⟨y.1, by rw [y.2]; decide⟩))
  refine x_aload_n dX2_copy_77 rfl ?_
  refine g_Border_hours fX2_35 dX2_copy_78 (by first | exact Nat.le_of_ble_eq_true rfl | assumption | omega) ?_
  refine x_aload_n dX2_copy_81 rfl ?_
  refine g_Border_hours fX2_35 dX2_copy_82 (by first | exact Nat.le_of_ble_eq_true rfl | assumption | omega) ?_
  refine x_csv (c_copyRows_hours (d := d)) kX2_76 dX2_copy_85 rfl rfl (Nat.le_of_ble_eq_true rfl) (fun Mu hu => ?_)
  obtain ⟨I8, rfl, k1, k2⟩ := hu
  have hc8 := hc7.add (h := 31) (by decide) k1 k2
  refine x_aload_n dX2_copy_88 rfl ?_
  refine g_Border_leaves fX2_38 dX2_copy_89 (by first | exact Nat.le_of_ble_eq_true rfl | assumption | omega) ?_
  refine x_aload_n dX2_copy_92 rfl ?_
  refine g_Border_leaves fX2_38 dX2_copy_93 (by first | exact Nat.le_of_ble_eq_true rfl | assumption | omega) ?_
  refine x_csv (c_copyRows_leaves (d := d)) kX2_76 dX2_copy_96 rfl rfl (Nat.le_of_ble_eq_true rfl) (fun Mu hu => ?_)
  obtain ⟨I9, rfl, k1, k2⟩ := hu
  have hc9 := hc8.add (h := 33) (by decide) k1 k2
  refine x_aload_n dX2_copy_99 rfl ?_
  refine g_Border_sort fX2_41 dX2_copy_100 (by first | exact Nat.le_of_ble_eq_true rfl | assumption | omega) ?_
  refine x_aload_n dX2_copy_103 rfl ?_
  refine g_Border_sort fX2_41 dX2_copy_104 (by first | exact Nat.le_of_ble_eq_true rfl | assumption | omega) ?_
  refine x_csv (c_copyRow (d := d + 1) (h := 23) (j0 := 0) (j1 := 1) rfl (by omega) (Nat.le_of_ble_eq_true rfl) (Nat.le_of_ble_eq_true rfl)) kX2_72 dX2_copy_107 rfl rfl (Nat.le_of_ble_eq_true rfl) (fun Mu hu => ?_)
  obtain ⟨I10, rfl, k1, k2⟩ := hu
  have hc10 := hc9.add (h := 23) (by decide) (fun c k hc hk => by have e : c = 0 := Nat.lt_one_iff.mp hc; subst e; exact k1 k hk) (fun a c z => k2 a c (fun y => z ⟨y.1, by rw [y.2]; decide⟩))
  refine x_aload_n dX2_copy_110 rfl ?_
  refine g_Border_home fX2_44 dX2_copy_111 (by first | exact Nat.le_of_ble_eq_true rfl | assumption | omega) ?_
  refine x_aload_n dX2_copy_114 rfl ?_
  refine g_Border_home fX2_44 dX2_copy_115 (by first | exact Nat.le_of_ble_eq_true rfl | assumption | omega) ?_
  refine x_csv (c_copyRow (d := d + 1) (h := 24) (j0 := 0) (j1 := 1) rfl (by omega) (Nat.le_of_ble_eq_true rfl) (Nat.le_of_ble_eq_true rfl)) kX2_72 dX2_copy_118 rfl rfl (Nat.le_of_ble_eq_true rfl) (fun Mu hu => ?_)
  obtain ⟨I11, rfl, k1, k2⟩ := hu
  have hc11 := hc10.add (h := 24) (by decide) (fun c k hc hk => by have e : c = 0 := Nat.lt_one_iff.mp hc; subst e; exact k1 k hk) (fun a c z => k2 a c (fun y => z ⟨y.1, by rw [y.2]; decide⟩))
  refine x_aload_n dX2_copy_121 rfl ?_
  refine g_Border_start fX2_47 dX2_copy_122 (by first | exact Nat.le_of_ble_eq_true rfl | assumption | omega) ?_
  refine x_aload_n dX2_copy_125 rfl ?_
  refine g_Border_start fX2_47 dX2_copy_126 (by first | exact Nat.le_of_ble_eq_true rfl | assumption | omega) ?_
  refine x_csv (c_copyRow (d := d + 1) (h := 25) (j0 := 0) (j1 := 1) rfl (by omega) (Nat.le_of_ble_eq_true rfl) (Nat.le_of_ble_eq_true rfl)) kX2_72 dX2_copy_129 rfl rfl (Nat.le_of_ble_eq_true rfl) (fun Mu hu => ?_)
  obtain ⟨I12, rfl, k1, k2⟩ := hu
  have hc12 := hc11.add (h := 25) (by decide) (fun c k hc hk => by have e : c = 0 := Nat.lt_one_iff.mp hc; subst e; exact k1 k hk) (fun a c z => k2 a c (fun y => z ⟨y.1, by rw [y.2]; decide⟩))
  refine x_aload_n dX2_copy_132 rfl ?_
  refine g_Border_on fX2_50 dX2_copy_133 (by first | exact Nat.le_of_ble_eq_true rfl | assumption | omega) ?_
  refine x_aload_n dX2_copy_136 rfl ?_
  refine g_Border_on fX2_50 dX2_copy_137 (by first | exact Nat.le_of_ble_eq_true rfl | assumption | omega) ?_
  refine x_csv (c_copyRows_on (d := d)) kX2_76 dX2_copy_140 rfl rfl (Nat.le_of_ble_eq_true rfl) (fun Mu hu => ?_)
  obtain ⟨I13, rfl, k1, k2⟩ := hu
  have hc13 := hc12.add (h := 35) (by decide) k1 k2
  refine x_aload_n dX2_copy_143 rfl ?_
  refine g_Border_walkLength fX2_53 dX2_copy_144 (by first | exact Nat.le_of_ble_eq_true rfl | assumption | omega) ?_
  refine x_aload_n dX2_copy_147 rfl ?_
  refine g_Border_walkLength fX2_53 dX2_copy_148 (by first | exact Nat.le_of_ble_eq_true rfl | assumption | omega) ?_
  refine x_csv (c_copyRow (d := d + 1) (h := 26) (j0 := 0) (j1 := 1) rfl (by omega) (Nat.le_of_ble_eq_true rfl) (Nat.le_of_ble_eq_true rfl)) kX2_72 dX2_copy_151 rfl rfl (Nat.le_of_ble_eq_true rfl) (fun Mu hu => ?_)
  obtain ⟨I14, rfl, k1, k2⟩ := hu
  have hc14 := hc13.add (h := 26) (by decide) (fun c k hc hk => by have e : c = 0 := Nat.lt_one_iff.mp hc; subst e; exact k1 k hk) (fun a c z => k2 a c (fun y => z ⟨y.1, by rw [y.2]; decide⟩))
  refine x_aload_n dX2_copy_154 rfl ?_
  refine g_Border_walk fX2_56 dX2_copy_155 (by first | exact Nat.le_of_ble_eq_true rfl | assumption | omega) ?_
  refine x_aload_n dX2_copy_158 rfl ?_
  refine g_Border_walk fX2_56 dX2_copy_159 (by first | exact Nat.le_of_ble_eq_true rfl | assumption | omega) ?_
  refine x_csv (c_copyRows_walk (d := d)) kX2_76 dX2_copy_162 rfl rfl (Nat.le_of_ble_eq_true rfl) (fun Mu hu => ?_)
  obtain ⟨I15, rfl, k1, k2⟩ := hu
  have hc15 := hc14.add (h := 37) (by decide) k1 k2
  refine x_aload_n dX2_copy_165 rfl ?_
  refine g_Border_askedOf fX2_59 dX2_copy_166 (by first | exact Nat.le_of_ble_eq_true rfl | assumption | omega) ?_
  refine x_aload_n dX2_copy_169 rfl ?_
  refine g_Border_askedOf fX2_59 dX2_copy_170 (by first | exact Nat.le_of_ble_eq_true rfl | assumption | omega) ?_
  refine x_csv (c_copyRow (d := d + 1) (h := 27) (j0 := 0) (j1 := 1) rfl (by omega) (Nat.le_of_ble_eq_true rfl) (Nat.le_of_ble_eq_true rfl)) kX2_72 dX2_copy_173 rfl rfl (Nat.le_of_ble_eq_true rfl) (fun Mu hu => ?_)
  obtain ⟨I16, rfl, k1, k2⟩ := hu
  have hc16 := hc15.add (h := 27) (by decide) (fun c k hc hk => by have e : c = 0 := Nat.lt_one_iff.mp hc; subst e; exact k1 k hk) (fun a c z => k2 a c (fun y => z ⟨y.1, by rw [y.2]; decide⟩))
  refine x_aload_n dX2_copy_176 rfl ?_
  refine g_Border_askedWhole fX2_62 dX2_copy_177 (by first | exact Nat.le_of_ble_eq_true rfl | assumption | omega) ?_
  refine x_aload_n dX2_copy_180 rfl ?_
  refine g_Border_askedWhole fX2_62 dX2_copy_181 (by first | exact Nat.le_of_ble_eq_true rfl | assumption | omega) ?_
  refine x_csv (c_copyRow (d := d + 1) (h := 28) (j0 := 0) (j1 := 1) rfl (by omega) (Nat.le_of_ble_eq_true rfl) (Nat.le_of_ble_eq_true rfl)) kX2_72 dX2_copy_184 rfl rfl (Nat.le_of_ble_eq_true rfl) (fun Mu hu => ?_)
  obtain ⟨I17, rfl, k1, k2⟩ := hu
  have hc17 := hc16.add (h := 28) (by decide) (fun c k hc hk => by have e : c = 0 := Nat.lt_one_iff.mp hc; subst e; exact k1 k hk) (fun a c z => k2 a c (fun y => z ⟨y.1, by rw [y.2]; decide⟩))
  refine x_aload_n dX2_copy_187 rfl ?_
  refine g_Border_whiff fX2_65 dX2_copy_188 (by first | exact Nat.le_of_ble_eq_true rfl | assumption | omega) ?_
  refine x_aload_n dX2_copy_191 rfl ?_
  refine g_Border_whiff fX2_65 dX2_copy_192 (by first | exact Nat.le_of_ble_eq_true rfl | assumption | omega) ?_
  refine x_csv (c_copyRow (d := d + 1) (h := 29) (j0 := 0) (j1 := 1) rfl (by omega) (Nat.le_of_ble_eq_true rfl) (Nat.le_of_ble_eq_true rfl)) kX2_72 dX2_copy_195 rfl rfl (Nat.le_of_ble_eq_true rfl) (fun Mu hu => ?_)
  obtain ⟨I18, rfl, k1, k2⟩ := hu
  have hc18 := hc17.add (h := 29) (by decide) (fun c k hc hk => by have e : c = 0 := Nat.lt_one_iff.mp hc; subst e; exact k1 k hk) (fun a c z => k2 a c (fun y => z ⟨y.1, by rw [y.2]; decide⟩))
  refine x_vret dX2_copy_198 rfl ?_
  exact ⟨rfl, _, rfl, fun V hV hX => CP.xb hc18 hV hX, CP.fr hc18⟩
set_option maxRecDepth 100000 in
set_option maxHeartbeats 4000000 in
theorem lp_clr_hours  {q : Nat} {Iq : Nat → Nat → Nat → Int32} (hq : q < 6) (kc : ∀ I', (∀ k, k < 6 → I' 31 (q + 6) k = nI 0) → (∀ a c, ¬ (a = 31 ∧ c = q + 6) → I' a c = Iq a c) → X G vX2_clearRows d (0, 0) 2 [(0, some (.ref (ad 30 1))), (1, some (.int (nI (q + 1))))] [] (MM ad nb b r I' L) (xT G (qV (fun M' => ∃ I', M' = MM ad nb b r I' L ∧ (∀ c k, c < 6 → k < 6 → I' 31 (c + 6) k = nI 0) ∧ ∀ a c, ¬ (a = 31 ∧ 6 ≤ c ∧ c < 12) → I' a c = I a c)))) : ∀ (n : Nat) (k : Nat) (I1 : Nat → Nat → Nat → Int32), 6 - k < n → k ≤ 6 → (∀ j, j < k → I1 31 (q + 6) j = nI 0) → (∀ a c, ¬ (a = 31 ∧ c = q + 6) → I1 a c = Iq a c) → X G vX2_clearRows (d) (0, 0) 10 [(0, some (.ref (ad 30 1))), (1, some (.int (nI (q)))), (2, some (.int (nI (k))))] [] (MM ad nb b r I1 L) (xT G (qV (fun M' => ∃ I', M' = MM ad nb b r I' L ∧ (∀ c k, c < 6 → k < 6 → I' 31 (c + 6) k = nI 0) ∧ ∀ a c, ¬ (a = 31 ∧ 6 ≤ c ∧ c < 12) → I' a c = I a c))) := by
  intro n
  induction n with
  | zero => intro k I1 h0; omega
  | succ n ih =>
    intro k I1 hn hk hi1 hi2
    refine x_iload_n dX2_clearRows_10 rfl ?_
    refine x_aload_n dX2_clearRows_11 rfl ?_
    refine x_iload_n dX2_clearRows_12 rfl ?_
    refine aa_Border_hours1 dX2_clearRows_13 rfl (by first | exact Nat.le_of_ble_eq_true rfl | assumption | omega) ?_
    refine x_alen dX2_clearRows_14 rfl (by decide) (Nat.lt_of_lt_of_le (show q + 6 < 12 by omega) (Nat.le_of_ble_eq_true rfl)) ?_
    refine x_icN_ge 30 dX2_clearRows_15 (by decide) (by omega) (by omega) (fun h15 => ?_) (fun h15 => ?_)
    · refine x_iincN 1 dX2_clearRows_30 li_1 rfl (by decide) rfl ?_
      refine x_goto 2 dX2_clearRows_33 (by decide) ?_
      refine x_ls ?_ (kc I1 (fun j hj => hi1 j (by omega)) hi2)
      exact ⟨rfl, rfl, trivial⟩
    · refine x_aload_n dX2_clearRows_18 rfl ?_
      refine x_iload_n dX2_clearRows_19 rfl ?_
      refine aa_Border_hours1 dX2_clearRows_20 rfl (by first | exact Nat.le_of_ble_eq_true rfl | assumption | omega) ?_
      refine x_iload_n dX2_clearRows_21 rfl ?_
      refine x_iconst dX2_clearRows_22 li_0 ?_
      refine x_iast dX2_clearRows_23 rfl rfl (Nat.lt_of_lt_of_le (show q + 6 < 12 by omega) (Nat.le_of_ble_eq_true rfl)) (by first | exact Nat.le_of_ble_eq_true rfl | assumption | omega) ?_
      refine x_iincN 1 dX2_clearRows_24 li_1 rfl (by decide) rfl ?_
      refine x_goto 10 dX2_clearRows_27 (by decide) ?_
      refine x_ls ?_ (ih (k + 1) _ (by omega) (by omega) ?_ ?_)
      · exact ⟨rfl, rfl, rfl, trivial⟩
      · intro j hj
        rw [xu_at]
        by_cases e : j = k
        · rw [if_pos e]
        · rw [if_neg e]; exact hi1 j (by omega)
      · intro a c hac
        rw [← hi2 a c hac]
        funext x
        by_cases e : a = 31
        · subst e; exact xu_ni (fun y => hac ⟨rfl, y⟩)
        · exact xu_ns e
set_option maxRecDepth 100000 in
set_option maxHeartbeats 4000000 in
theorem c_clearRows_hours  : Mt G vX2_clearRows (d) (0, 0) [.ref (ad 30 1)] (MM ad nb b r I L) (qV (fun M' => ∃ I', M' = MM ad nb b r I' L ∧ (∀ c k, c < 6 → k < 6 → I' 31 (c + 6) k = nI 0) ∧ ∀ a c, ¬ (a = 31 ∧ 6 ≤ c ∧ c < 12) → I' a c = I a c)) := by
  have loop2 : ∀ (n : Nat) (q : Nat) (I1 : Nat → Nat → Nat → Int32), 6 - q < n → q ≤ 6 → ((∀ c k, c < q → k < 6 → I1 31 (c + 6) k = nI 0) ∧ ∀ a c, ¬ (a = 31 ∧ 6 ≤ c ∧ c < q + 6) → I1 a c = I a c) → X G vX2_clearRows (d) (0, 0) 2 [(0, some (.ref (ad 30 1))), (1, some (.int (nI (q))))] [] (MM ad nb b r I1 L) (xT G (qV (fun M' => ∃ I', M' = MM ad nb b r I' L ∧ (∀ c k, c < 6 → k < 6 → I' 31 (c + 6) k = nI 0) ∧ ∀ a c, ¬ (a = 31 ∧ 6 ≤ c ∧ c < 12) → I' a c = I a c))) := by
    intro n
    induction n with
    | zero => intro q I1 h0; omega
    | succ n ih =>
      intro q I1 hn hq0 hi
      obtain ⟨i1, i2⟩ := hi
      refine x_iload_n dX2_clearRows_2 rfl ?_
      refine x_aload_n dX2_clearRows_3 rfl ?_
      refine x_alen dX2_clearRows_4 rfl (by decide) (Nat.lt_of_lt_of_le (by first | assumption | omega | decide) (Nat.le_refl 2)) ?_
      refine x_icN_ge 36 dX2_clearRows_5 (by decide) (by omega) (by omega) (fun h5 => ?_) (fun h5 => ?_)
      · refine x_vret dX2_clearRows_36 rfl ?_
        have eq : q = 6 := by omega
        subst eq
        exact ⟨rfl, _, rfl, i1, i2⟩
      · refine x_iconst dX2_clearRows_8 li_0 ?_
        refine x_istore_n dX2_clearRows_9 (by decide) rfl ?_
        refine x_ls ?_ (lp_clr_hours (I := I) (q := q) (Iq := I1) h5 (fun I' j1 j2 => ih (q + 1) I' (by omega) (by omega) ⟨fun c k hc hk => ?_, fun a c hac => ?_⟩) 7 0 I1 (by omega) (by omega) (fun j hj => absurd hj (Nat.not_lt_zero j)) (fun _ _ _ => rfl))
        · exact ⟨rfl, rfl, rfl, trivial⟩
        · by_cases e : c = q
          · subst e; exact j1 k hk
          · rw [j2 _ _ (by omega)]; exact i1 c k (by omega) hk
        · rw [j2 a c (by omega)]; exact i2 a c (by omega)
  refine x_start (by decide) (Nat.le_of_ble_eq_true rfl) ?_
  refine x_iconst dX2_clearRows_0 li_0 ?_
  refine x_istore_n dX2_clearRows_1 (by decide) rfl ?_
  refine x_ls ?_ (loop2 7 0 I (by omega) (by omega) ⟨fun c k hc => absurd hc (Nat.not_lt_zero c), fun _ _ _ => rfl⟩)
  exact ⟨rfl, rfl, trivial⟩
set_option maxRecDepth 100000 in
set_option maxHeartbeats 4000000 in
theorem lp_clr_leaves  {q : Nat} {Iq : Nat → Nat → Nat → Int32} (hq : q < 6) (kc : ∀ I', (∀ k, k < 6 → I' 33 (q + 6) k = nI 0) → (∀ a c, ¬ (a = 33 ∧ c = q + 6) → I' a c = Iq a c) → X G vX2_clearRows d (0, 0) 2 [(0, some (.ref (ad 32 1))), (1, some (.int (nI (q + 1))))] [] (MM ad nb b r I' L) (xT G (qV (fun M' => ∃ I', M' = MM ad nb b r I' L ∧ (∀ c k, c < 6 → k < 6 → I' 33 (c + 6) k = nI 0) ∧ ∀ a c, ¬ (a = 33 ∧ 6 ≤ c ∧ c < 12) → I' a c = I a c)))) : ∀ (n : Nat) (k : Nat) (I1 : Nat → Nat → Nat → Int32), 6 - k < n → k ≤ 6 → (∀ j, j < k → I1 33 (q + 6) j = nI 0) → (∀ a c, ¬ (a = 33 ∧ c = q + 6) → I1 a c = Iq a c) → X G vX2_clearRows (d) (0, 0) 10 [(0, some (.ref (ad 32 1))), (1, some (.int (nI (q)))), (2, some (.int (nI (k))))] [] (MM ad nb b r I1 L) (xT G (qV (fun M' => ∃ I', M' = MM ad nb b r I' L ∧ (∀ c k, c < 6 → k < 6 → I' 33 (c + 6) k = nI 0) ∧ ∀ a c, ¬ (a = 33 ∧ 6 ≤ c ∧ c < 12) → I' a c = I a c))) := by
  intro n
  induction n with
  | zero => intro k I1 h0; omega
  | succ n ih =>
    intro k I1 hn hk hi1 hi2
    refine x_iload_n dX2_clearRows_10 rfl ?_
    refine x_aload_n dX2_clearRows_11 rfl ?_
    refine x_iload_n dX2_clearRows_12 rfl ?_
    refine aa_Border_leaves1 dX2_clearRows_13 rfl (by first | exact Nat.le_of_ble_eq_true rfl | assumption | omega) ?_
    refine x_alen dX2_clearRows_14 rfl (by decide) (Nat.lt_of_lt_of_le (show q + 6 < 12 by omega) (Nat.le_of_ble_eq_true rfl)) ?_
    refine x_icN_ge 30 dX2_clearRows_15 (by decide) (by omega) (by omega) (fun h15 => ?_) (fun h15 => ?_)
    · refine x_iincN 1 dX2_clearRows_30 li_1 rfl (by decide) rfl ?_
      refine x_goto 2 dX2_clearRows_33 (by decide) ?_
      refine x_ls ?_ (kc I1 (fun j hj => hi1 j (by omega)) hi2)
      exact ⟨rfl, rfl, trivial⟩
    · refine x_aload_n dX2_clearRows_18 rfl ?_
      refine x_iload_n dX2_clearRows_19 rfl ?_
      refine aa_Border_leaves1 dX2_clearRows_20 rfl (by first | exact Nat.le_of_ble_eq_true rfl | assumption | omega) ?_
      refine x_iload_n dX2_clearRows_21 rfl ?_
      refine x_iconst dX2_clearRows_22 li_0 ?_
      refine x_iast dX2_clearRows_23 rfl rfl (Nat.lt_of_lt_of_le (show q + 6 < 12 by omega) (Nat.le_of_ble_eq_true rfl)) (by first | exact Nat.le_of_ble_eq_true rfl | assumption | omega) ?_
      refine x_iincN 1 dX2_clearRows_24 li_1 rfl (by decide) rfl ?_
      refine x_goto 10 dX2_clearRows_27 (by decide) ?_
      refine x_ls ?_ (ih (k + 1) _ (by omega) (by omega) ?_ ?_)
      · exact ⟨rfl, rfl, rfl, trivial⟩
      · intro j hj
        rw [xu_at]
        by_cases e : j = k
        · rw [if_pos e]
        · rw [if_neg e]; exact hi1 j (by omega)
      · intro a c hac
        rw [← hi2 a c hac]
        funext x
        by_cases e : a = 33
        · subst e; exact xu_ni (fun y => hac ⟨rfl, y⟩)
        · exact xu_ns e
set_option maxRecDepth 100000 in
set_option maxHeartbeats 4000000 in
theorem c_clearRows_leaves  : Mt G vX2_clearRows (d) (0, 0) [.ref (ad 32 1)] (MM ad nb b r I L) (qV (fun M' => ∃ I', M' = MM ad nb b r I' L ∧ (∀ c k, c < 6 → k < 6 → I' 33 (c + 6) k = nI 0) ∧ ∀ a c, ¬ (a = 33 ∧ 6 ≤ c ∧ c < 12) → I' a c = I a c)) := by
  have loop2 : ∀ (n : Nat) (q : Nat) (I1 : Nat → Nat → Nat → Int32), 6 - q < n → q ≤ 6 → ((∀ c k, c < q → k < 6 → I1 33 (c + 6) k = nI 0) ∧ ∀ a c, ¬ (a = 33 ∧ 6 ≤ c ∧ c < q + 6) → I1 a c = I a c) → X G vX2_clearRows (d) (0, 0) 2 [(0, some (.ref (ad 32 1))), (1, some (.int (nI (q))))] [] (MM ad nb b r I1 L) (xT G (qV (fun M' => ∃ I', M' = MM ad nb b r I' L ∧ (∀ c k, c < 6 → k < 6 → I' 33 (c + 6) k = nI 0) ∧ ∀ a c, ¬ (a = 33 ∧ 6 ≤ c ∧ c < 12) → I' a c = I a c))) := by
    intro n
    induction n with
    | zero => intro q I1 h0; omega
    | succ n ih =>
      intro q I1 hn hq0 hi
      obtain ⟨i1, i2⟩ := hi
      refine x_iload_n dX2_clearRows_2 rfl ?_
      refine x_aload_n dX2_clearRows_3 rfl ?_
      refine x_alen dX2_clearRows_4 rfl (by decide) (Nat.lt_of_lt_of_le (by first | assumption | omega | decide) (Nat.le_refl 2)) ?_
      refine x_icN_ge 36 dX2_clearRows_5 (by decide) (by omega) (by omega) (fun h5 => ?_) (fun h5 => ?_)
      · refine x_vret dX2_clearRows_36 rfl ?_
        have eq : q = 6 := by omega
        subst eq
        exact ⟨rfl, _, rfl, i1, i2⟩
      · refine x_iconst dX2_clearRows_8 li_0 ?_
        refine x_istore_n dX2_clearRows_9 (by decide) rfl ?_
        refine x_ls ?_ (lp_clr_leaves (I := I) (q := q) (Iq := I1) h5 (fun I' j1 j2 => ih (q + 1) I' (by omega) (by omega) ⟨fun c k hc hk => ?_, fun a c hac => ?_⟩) 7 0 I1 (by omega) (by omega) (fun j hj => absurd hj (Nat.not_lt_zero j)) (fun _ _ _ => rfl))
        · exact ⟨rfl, rfl, rfl, trivial⟩
        · by_cases e : c = q
          · subst e; exact j1 k hk
          · rw [j2 _ _ (by omega)]; exact i1 c k (by omega) hk
        · rw [j2 a c (by omega)]; exact i2 a c (by omega)
  refine x_start (by decide) (Nat.le_of_ble_eq_true rfl) ?_
  refine x_iconst dX2_clearRows_0 li_0 ?_
  refine x_istore_n dX2_clearRows_1 (by decide) rfl ?_
  refine x_ls ?_ (loop2 7 0 I (by omega) (by omega) ⟨fun c k hc => absurd hc (Nat.not_lt_zero c), fun _ _ _ => rfl⟩)
  exact ⟨rfl, rfl, trivial⟩
set_option maxRecDepth 100000 in
set_option maxHeartbeats 4000000 in
theorem lp_clr_on  {q : Nat} {Iq : Nat → Nat → Nat → Int32} (hq : q < 4) (kc : ∀ I', (∀ k, k < 6 → I' 35 (q + 4) k = nI 0) → (∀ a c, ¬ (a = 35 ∧ c = q + 4) → I' a c = Iq a c) → X G vX2_clearRows d (0, 0) 2 [(0, some (.ref (ad 34 1))), (1, some (.int (nI (q + 1))))] [] (MM ad nb b r I' L) (xT G (qV (fun M' => ∃ I', M' = MM ad nb b r I' L ∧ (∀ c k, c < 4 → k < 6 → I' 35 (c + 4) k = nI 0) ∧ ∀ a c, ¬ (a = 35 ∧ 4 ≤ c ∧ c < 8) → I' a c = I a c)))) : ∀ (n : Nat) (k : Nat) (I1 : Nat → Nat → Nat → Int32), 6 - k < n → k ≤ 6 → (∀ j, j < k → I1 35 (q + 4) j = nI 0) → (∀ a c, ¬ (a = 35 ∧ c = q + 4) → I1 a c = Iq a c) → X G vX2_clearRows (d) (0, 0) 10 [(0, some (.ref (ad 34 1))), (1, some (.int (nI (q)))), (2, some (.int (nI (k))))] [] (MM ad nb b r I1 L) (xT G (qV (fun M' => ∃ I', M' = MM ad nb b r I' L ∧ (∀ c k, c < 4 → k < 6 → I' 35 (c + 4) k = nI 0) ∧ ∀ a c, ¬ (a = 35 ∧ 4 ≤ c ∧ c < 8) → I' a c = I a c))) := by
  intro n
  induction n with
  | zero => intro k I1 h0; omega
  | succ n ih =>
    intro k I1 hn hk hi1 hi2
    refine x_iload_n dX2_clearRows_10 rfl ?_
    refine x_aload_n dX2_clearRows_11 rfl ?_
    refine x_iload_n dX2_clearRows_12 rfl ?_
    refine aa_Border_on1 dX2_clearRows_13 rfl (by first | exact Nat.le_of_ble_eq_true rfl | assumption | omega) ?_
    refine x_alen dX2_clearRows_14 rfl (by decide) (Nat.lt_of_lt_of_le (show q + 4 < 8 by omega) (Nat.le_of_ble_eq_true rfl)) ?_
    refine x_icN_ge 30 dX2_clearRows_15 (by decide) (by omega) (by omega) (fun h15 => ?_) (fun h15 => ?_)
    · refine x_iincN 1 dX2_clearRows_30 li_1 rfl (by decide) rfl ?_
      refine x_goto 2 dX2_clearRows_33 (by decide) ?_
      refine x_ls ?_ (kc I1 (fun j hj => hi1 j (by omega)) hi2)
      exact ⟨rfl, rfl, trivial⟩
    · refine x_aload_n dX2_clearRows_18 rfl ?_
      refine x_iload_n dX2_clearRows_19 rfl ?_
      refine aa_Border_on1 dX2_clearRows_20 rfl (by first | exact Nat.le_of_ble_eq_true rfl | assumption | omega) ?_
      refine x_iload_n dX2_clearRows_21 rfl ?_
      refine x_iconst dX2_clearRows_22 li_0 ?_
      refine x_iast dX2_clearRows_23 rfl rfl (Nat.lt_of_lt_of_le (show q + 4 < 8 by omega) (Nat.le_of_ble_eq_true rfl)) (by first | exact Nat.le_of_ble_eq_true rfl | assumption | omega) ?_
      refine x_iincN 1 dX2_clearRows_24 li_1 rfl (by decide) rfl ?_
      refine x_goto 10 dX2_clearRows_27 (by decide) ?_
      refine x_ls ?_ (ih (k + 1) _ (by omega) (by omega) ?_ ?_)
      · exact ⟨rfl, rfl, rfl, trivial⟩
      · intro j hj
        rw [xu_at]
        by_cases e : j = k
        · rw [if_pos e]
        · rw [if_neg e]; exact hi1 j (by omega)
      · intro a c hac
        rw [← hi2 a c hac]
        funext x
        by_cases e : a = 35
        · subst e; exact xu_ni (fun y => hac ⟨rfl, y⟩)
        · exact xu_ns e
set_option maxRecDepth 100000 in
set_option maxHeartbeats 4000000 in
theorem c_clearRows_on  : Mt G vX2_clearRows (d) (0, 0) [.ref (ad 34 1)] (MM ad nb b r I L) (qV (fun M' => ∃ I', M' = MM ad nb b r I' L ∧ (∀ c k, c < 4 → k < 6 → I' 35 (c + 4) k = nI 0) ∧ ∀ a c, ¬ (a = 35 ∧ 4 ≤ c ∧ c < 8) → I' a c = I a c)) := by
  have loop2 : ∀ (n : Nat) (q : Nat) (I1 : Nat → Nat → Nat → Int32), 4 - q < n → q ≤ 4 → ((∀ c k, c < q → k < 6 → I1 35 (c + 4) k = nI 0) ∧ ∀ a c, ¬ (a = 35 ∧ 4 ≤ c ∧ c < q + 4) → I1 a c = I a c) → X G vX2_clearRows (d) (0, 0) 2 [(0, some (.ref (ad 34 1))), (1, some (.int (nI (q))))] [] (MM ad nb b r I1 L) (xT G (qV (fun M' => ∃ I', M' = MM ad nb b r I' L ∧ (∀ c k, c < 4 → k < 6 → I' 35 (c + 4) k = nI 0) ∧ ∀ a c, ¬ (a = 35 ∧ 4 ≤ c ∧ c < 8) → I' a c = I a c))) := by
    intro n
    induction n with
    | zero => intro q I1 h0; omega
    | succ n ih =>
      intro q I1 hn hq0 hi
      obtain ⟨i1, i2⟩ := hi
      refine x_iload_n dX2_clearRows_2 rfl ?_
      refine x_aload_n dX2_clearRows_3 rfl ?_
      refine x_alen dX2_clearRows_4 rfl (by decide) (Nat.lt_of_lt_of_le (by first | assumption | omega | decide) (Nat.le_refl 2)) ?_
      refine x_icN_ge 36 dX2_clearRows_5 (by decide) (by omega) (by omega) (fun h5 => ?_) (fun h5 => ?_)
      · refine x_vret dX2_clearRows_36 rfl ?_
        have eq : q = 4 := by omega
        subst eq
        exact ⟨rfl, _, rfl, i1, i2⟩
      · refine x_iconst dX2_clearRows_8 li_0 ?_
        refine x_istore_n dX2_clearRows_9 (by decide) rfl ?_
        refine x_ls ?_ (lp_clr_on (I := I) (q := q) (Iq := I1) h5 (fun I' j1 j2 => ih (q + 1) I' (by omega) (by omega) ⟨fun c k hc hk => ?_, fun a c hac => ?_⟩) 7 0 I1 (by omega) (by omega) (fun j hj => absurd hj (Nat.not_lt_zero j)) (fun _ _ _ => rfl))
        · exact ⟨rfl, rfl, rfl, trivial⟩
        · by_cases e : c = q
          · subst e; exact j1 k hk
          · rw [j2 _ _ (by omega)]; exact i1 c k (by omega) hk
        · rw [j2 a c (by omega)]; exact i2 a c (by omega)
  refine x_start (by decide) (Nat.le_of_ble_eq_true rfl) ?_
  refine x_iconst dX2_clearRows_0 li_0 ?_
  refine x_istore_n dX2_clearRows_1 (by decide) rfl ?_
  refine x_ls ?_ (loop2 5 0 I (by omega) (by omega) ⟨fun c k hc => absurd hc (Nat.not_lt_zero c), fun _ _ _ => rfl⟩)
  exact ⟨rfl, rfl, trivial⟩
set_option maxRecDepth 100000 in
set_option maxHeartbeats 4000000 in
theorem lp_clear2  {Iq : Nat → Nat → Nat → Int32} (kc : ∀ I', (∀ k, k < 12 → I' 16 1 k = nI 0) → (∀ a c, ¬ (a = 16 ∧ c = 1) → I' a c = Iq a c) → X G vX2_clear (d + 1) (0, 0) 21 [(0, some (.ref (ad 2 1)))] [] (MM ad nb b r I' L) (xT G (qV (fun M' => ∃ I', M' = MM ad nb b r I' L ∧ XB (fun _ _ _ => 0) 1 I' ∧ (∀ s, s < 6 → I' 29 1 s = -1) ∧ ∀ a c, ¬ db a c → I' a c = I a c)))) : ∀ (n : Nat) (k : Nat) (I1 : Nat → Nat → Nat → Int32), 12 - k < n → k ≤ 12 → (∀ j, j < k → I1 16 1 j = nI 0) → (∀ a c, ¬ (a = 16 ∧ c = 1) → I1 a c = Iq a c) → X G vX2_clear (d + 1) (0, 0) 2 [(0, some (.ref (ad 2 1))), (1, some (.int (nI (k))))] [] (MM ad nb b r I1 L) (xT G (qV (fun M' => ∃ I', M' = MM ad nb b r I' L ∧ XB (fun _ _ _ => 0) 1 I' ∧ (∀ s, s < 6 → I' 29 1 s = -1) ∧ ∀ a c, ¬ db a c → I' a c = I a c))) := by
  intro n
  induction n with
  | zero => intro k I1 h0; omega
  | succ n ih =>
    intro k I1 hn hk hi1 hi2
    refine x_iload_n dX2_clear_2 rfl ?_
    refine x_bipush dX2_clear_3 lb_12 ?_
    refine x_icN_ge 21 dX2_clear_5 (by decide) (by omega) (by omega) (fun h5 => ?_) (fun h5 => ?_)
    · refine x_ls ?_ (kc I1 (fun j hj => hi1 j (by omega)) hi2)
      exact ⟨rfl, trivial⟩
    · refine x_aload_n dX2_clear_8 rfl ?_
      refine g_Border_sizes fX2_9 dX2_clear_9 (by first | exact Nat.le_of_ble_eq_true rfl | assumption | omega) ?_
      refine x_iload_n dX2_clear_12 rfl ?_
      refine x_iconst dX2_clear_13 li_0 ?_
      refine x_iast dX2_clear_14 rfl rfl (Nat.lt_of_lt_of_le (by first | assumption | omega | decide) (Nat.le_refl 2)) (by first | exact Nat.le_of_ble_eq_true rfl | assumption | omega) ?_
      refine x_iincN 1 dX2_clear_15 li_1 rfl (by decide) rfl ?_
      refine x_goto 2 dX2_clear_18 (by decide) ?_
      refine x_ls ?_ (ih (k + 1) _ (by omega) (by omega) ?_ ?_)
      · exact ⟨rfl, rfl, trivial⟩
      · intro j hj
        rw [xu_at]
        by_cases e : j = k
        · rw [if_pos e]
        · rw [if_neg e]; exact hi1 j (by omega)
      · intro a c hac
        rw [← hi2 a c hac]
        funext x
        by_cases e : a = 16
        · subst e; exact xu_ni (fun y => hac ⟨rfl, y⟩)
        · exact xu_ns e
set_option maxRecDepth 100000 in
set_option maxHeartbeats 4000000 in
theorem lp_clear23  {Iq : Nat → Nat → Nat → Int32} (kc : ∀ I', (∀ k, k < 4 → I' 26 1 k = nI 0) → (∀ a c, ¬ (a = 26 ∧ c = 1) → I' a c = Iq a c) → X G vX2_clear (d + 1) (0, 0) 41 [(0, some (.ref (ad 2 1)))] [] (MM ad nb b r I' L) (xT G (qV (fun M' => ∃ I', M' = MM ad nb b r I' L ∧ XB (fun _ _ _ => 0) 1 I' ∧ (∀ s, s < 6 → I' 29 1 s = -1) ∧ ∀ a c, ¬ db a c → I' a c = I a c)))) : ∀ (n : Nat) (k : Nat) (I1 : Nat → Nat → Nat → Int32), 4 - k < n → k ≤ 4 → (∀ j, j < k → I1 26 1 j = nI 0) → (∀ a c, ¬ (a = 26 ∧ c = 1) → I1 a c = Iq a c) → X G vX2_clear (d + 1) (0, 0) 23 [(0, some (.ref (ad 2 1))), (1, some (.int (nI (k))))] [] (MM ad nb b r I1 L) (xT G (qV (fun M' => ∃ I', M' = MM ad nb b r I' L ∧ XB (fun _ _ _ => 0) 1 I' ∧ (∀ s, s < 6 → I' 29 1 s = -1) ∧ ∀ a c, ¬ db a c → I' a c = I a c))) := by
  intro n
  induction n with
  | zero => intro k I1 h0; omega
  | succ n ih =>
    intro k I1 hn hk hi1 hi2
    refine x_iload_n dX2_clear_23 rfl ?_
    refine x_iconst dX2_clear_24 li_4 ?_
    refine x_icN_ge 41 dX2_clear_25 (by decide) (by omega) (by omega) (fun h25 => ?_) (fun h25 => ?_)
    · refine x_ls ?_ (kc I1 (fun j hj => hi1 j (by omega)) hi2)
      exact ⟨rfl, trivial⟩
    · refine x_aload_n dX2_clear_28 rfl ?_
      refine g_Border_walkLength fX2_53 dX2_clear_29 (by first | exact Nat.le_of_ble_eq_true rfl | assumption | omega) ?_
      refine x_iload_n dX2_clear_32 rfl ?_
      refine x_iconst dX2_clear_33 li_0 ?_
      refine x_iast dX2_clear_34 rfl rfl (Nat.lt_of_lt_of_le (by first | assumption | omega | decide) (Nat.le_refl 2)) (by first | exact Nat.le_of_ble_eq_true rfl | assumption | omega) ?_
      refine x_iincN 1 dX2_clear_35 li_1 rfl (by decide) rfl ?_
      refine x_goto 23 dX2_clear_38 (by decide) ?_
      refine x_ls ?_ (ih (k + 1) _ (by omega) (by omega) ?_ ?_)
      · exact ⟨rfl, rfl, trivial⟩
      · intro j hj
        rw [xu_at]
        by_cases e : j = k
        · rw [if_pos e]
        · rw [if_neg e]; exact hi1 j (by omega)
      · intro a c hac
        rw [← hi2 a c hac]
        funext x
        by_cases e : a = 26
        · subst e; exact xu_ni (fun y => hac ⟨rfl, y⟩)
        · exact xu_ns e
set_option maxRecDepth 100000 in
set_option maxHeartbeats 4000000 in
theorem lp_clear43  {Iq : Nat → Nat → Nat → Int32} (kc : ∀ I', (∀ k, k < 6 → I' 29 1 k = -1) → (∀ a c, ¬ (a = 29 ∧ c = 1) → I' a c = Iq a c) → X G vX2_clear (d + 1) (0, 0) 62 [(0, some (.ref (ad 2 1)))] [] (MM ad nb b r I' L) (xT G (qV (fun M' => ∃ I', M' = MM ad nb b r I' L ∧ XB (fun _ _ _ => 0) 1 I' ∧ (∀ s, s < 6 → I' 29 1 s = -1) ∧ ∀ a c, ¬ db a c → I' a c = I a c)))) : ∀ (n : Nat) (k : Nat) (I1 : Nat → Nat → Nat → Int32), 6 - k < n → k ≤ 6 → (∀ j, j < k → I1 29 1 j = -1) → (∀ a c, ¬ (a = 29 ∧ c = 1) → I1 a c = Iq a c) → X G vX2_clear (d + 1) (0, 0) 43 [(0, some (.ref (ad 2 1))), (1, some (.int (nI (k))))] [] (MM ad nb b r I1 L) (xT G (qV (fun M' => ∃ I', M' = MM ad nb b r I' L ∧ XB (fun _ _ _ => 0) 1 I' ∧ (∀ s, s < 6 → I' 29 1 s = -1) ∧ ∀ a c, ¬ db a c → I' a c = I a c))) := by
  intro n
  induction n with
  | zero => intro k I1 h0; omega
  | succ n ih =>
    intro k I1 hn hk hi1 hi2
    refine x_iload_n dX2_clear_43 rfl ?_
    refine x_bipush dX2_clear_44 lb_6 ?_
    refine x_icN_ge 62 dX2_clear_46 (by decide) (by omega) (by omega) (fun h46 => ?_) (fun h46 => ?_)
    · refine x_ls ?_ (kc I1 (fun j hj => hi1 j (by omega)) hi2)
      exact ⟨rfl, trivial⟩
    · refine x_aload_n dX2_clear_49 rfl ?_
      refine g_Border_whiff fX2_65 dX2_clear_50 (by first | exact Nat.le_of_ble_eq_true rfl | assumption | omega) ?_
      refine x_iload_n dX2_clear_53 rfl ?_
      refine x_iconst dX2_clear_54 li_m1 ?_
      refine x_iast dX2_clear_55 rfl rfl (Nat.lt_of_lt_of_le (by first | assumption | omega | decide) (Nat.le_refl 2)) (by first | exact Nat.le_of_ble_eq_true rfl | assumption | omega) ?_
      refine x_iincN 1 dX2_clear_56 li_1 rfl (by decide) rfl ?_
      refine x_goto 43 dX2_clear_59 (by decide) ?_
      refine x_ls ?_ (ih (k + 1) _ (by omega) (by omega) ?_ ?_)
      · exact ⟨rfl, rfl, trivial⟩
      · intro j hj
        rw [xu_at]
        by_cases e : j = k
        · rw [if_pos e]
        · rw [if_neg e]; exact hi1 j (by omega)
      · intro a c hac
        rw [← hi2 a c hac]
        funext x
        by_cases e : a = 29
        · subst e; exact xu_ni (fun y => hac ⟨rfl, y⟩)
        · exact xu_ns e
set_option maxRecDepth 100000 in
set_option maxHeartbeats 4000000 in
theorem c_bclear : Mt G vX2_clear (d + 1) (0, 0) [.ref (ad 2 1)] (MM ad nb b r I L) (qV (fun M' => ∃ I', M' = MM ad nb b r I' L ∧ XB (fun _ _ _ => 0) 1 I' ∧ (∀ s, s < 6 → I' 29 1 s = -1) ∧ ∀ a c, ¬ db a c → I' a c = I a c)) := by
  refine x_start (by decide) (Nat.le_of_ble_eq_true rfl) ?_
  refine x_iconst dX2_clear_0 li_0 ?_
  refine x_istore_n dX2_clear_1 (by decide) rfl ?_
  refine x_ls ?_ (lp_clear2 (Iq := I) (fun Ia a1 a2 => ?_) 13 0 I (by omega) (by omega) (fun j hj => absurd hj (Nat.not_lt_zero j)) (fun _ _ _ => rfl))
  · exact ⟨rfl, rfl, trivial⟩
  refine x_iconst dX2_clear_21 li_0 ?_
  refine x_istore_n dX2_clear_22 (by decide) rfl ?_
  refine x_ls ?_ (lp_clear23 (Iq := Ia) (fun Ib b1 b2 => ?_) 5 0 Ia (by omega) (by omega) (fun j hj => absurd hj (Nat.not_lt_zero j)) (fun _ _ _ => rfl))
  · exact ⟨rfl, rfl, trivial⟩
  refine x_iconst dX2_clear_41 li_0 ?_
  refine x_istore_n dX2_clear_42 (by decide) rfl ?_
  refine x_ls ?_ (lp_clear43 (Iq := Ib) (fun Ic c1 c2 => ?_) 7 0 Ib (by omega) (by omega) (fun j hj => absurd hj (Nat.not_lt_zero j)) (fun _ _ _ => rfl))
  · exact ⟨rfl, rfl, trivial⟩
  refine x_aload_n dX2_clear_62 rfl ?_
  refine g_Border_hours fX2_35 dX2_clear_63 (by first | exact Nat.le_of_ble_eq_true rfl | assumption | omega) ?_
  refine x_csv (c_clearRows_hours (d := d)) kX2_68 dX2_clear_66 rfl rfl (Nat.le_of_ble_eq_true rfl) (fun M1 h1 => ?_)
  obtain ⟨Id, rfl, d1, d2⟩ := h1
  refine x_aload_n dX2_clear_69 rfl ?_
  refine g_Border_leaves fX2_38 dX2_clear_70 (by first | exact Nat.le_of_ble_eq_true rfl | assumption | omega) ?_
  refine x_csv (c_clearRows_leaves (d := d)) kX2_68 dX2_clear_73 rfl rfl (Nat.le_of_ble_eq_true rfl) (fun M1 h1 => ?_)
  obtain ⟨Ie, rfl, e1, e2⟩ := h1
  refine x_aload_n dX2_clear_76 rfl ?_
  refine g_Border_on fX2_50 dX2_clear_77 (by first | exact Nat.le_of_ble_eq_true rfl | assumption | omega) ?_
  refine x_csv (c_clearRows_on (d := d)) kX2_68 dX2_clear_80 rfl rfl (Nat.le_of_ble_eq_true rfl) (fun M1 h1 => ?_)
  obtain ⟨If, rfl, f1, f2⟩ := h1
  refine x_vret dX2_clear_83 rfl ?_
  refine ⟨rfl, _, rfl, ⟨fun k hk => ?_, fun l hl => absurd hl (Nat.not_lt_zero l), fun l hl => absurd hl (Nat.not_lt_zero l), fun l hl => absurd hl (Nat.not_lt_zero l), fun l hl => absurd hl (Nat.not_lt_zero l), fun l hl => absurd hl (Nat.not_lt_zero l), fun t ht => ?_, fun l hl => absurd hl (Nat.not_lt_zero l), fun s hs h0 => absurd h0 (Nat.lt_irrefl 0), fun q c hq hc => ⟨?_, ?_⟩, fun t s ht hs => ?_, fun t i ht hi => absurd hi (Nat.not_lt_zero i)⟩, fun s hs => ?_, fun a c hac => ?_⟩
  · rw [f2 16 1 (by omega), e2 16 1 (by omega), d2 16 1 (by omega), c2 16 1 (by omega), b2 16 1 (by omega)]; exact a1 k hk
  · rw [f2 26 1 (by omega), e2 26 1 (by omega), d2 26 1 (by omega), c2 26 1 (by omega)]; exact b1 t ht
  · rw [show q + 6 * 1 = q + 6 by omega, f2 31 _ (by omega), e2 31 _ (by omega)]; exact d1 q c hq hc
  · rw [show q + 6 * 1 = q + 6 by omega, f2 33 _ (by omega)]; exact e1 q c hq hc
  · rw [show t + 4 * 1 = t + 4 by omega]; exact f1 t s ht hs
  · rw [f2 29 1 (by omega), e2 29 1 (by omega), d2 29 1 (by omega)]; exact c1 s hs
  · unfold db at hac
    rw [f2 a c (by omega), e2 a c (by omega), d2 a c (by omega), c2 a c (by omega), b2 a c (by omega)]; exact a2 a c (by omega)
end Bcp
