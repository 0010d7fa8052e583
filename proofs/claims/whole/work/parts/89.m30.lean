section M30
variable {G : xG} {ad : Nat → Nat → Nat} {nb : Nat} {b r : Option Nat} {L : Nat → Nat → Nat → Int64} {V : sV} {I : Nat → Nat → Nat → Int32} {d : Nat}

variable {T : Nat → Nat} {e a : Nat}
/-- the number of a string that is one word -/
def pkw (k : Nat) : Nat → Int64
  | 0 => lN 0
  | j + 1 => pkw k j <<< ((nI 5).toInt64 &&& 63) ||| (nI (sch k j - 97 + 1)).toInt64
def pkS (k : Nat) : Int64 := pkw k (xsb k).length
theorem sch_w : ∀ k, k < 41 → 12 ≤ k → ∀ j, j < (xsb k).length → 97 ≤ sch k j ∧ sch k j ≤ 122 := by decide +kernel
abbrev cS : Type := (Nat × Nat) ⊕ Nat
/-- where the model's reading stands: a fault and where, or the token behind so many bytes -/
def RSt (T : Nat → Nat) (e : Nat) (c : cS) (I : Nat → Nat → Nat → Int32) (L : Nat → Nat → Nat → Int64) : Prop := match c with
  | .inl f => I 13 0 7 = nI e ∧ I 13 0 9 = nI 5 ∧ I 13 0 13 = nI f.1 ∧ I 13 0 14 = nI f.2
  | .inr a => a ≤ e ∧ YTK T e a I L ∧ I 13 0 13 = nI 0
def FR (I I' : Nat → Nat → Nat → Int32) (L L' : Nat → Nat → Nat → Int64) : Prop := (∀ s, s ≠ 13 → I' s = I s) ∧ (∀ k, ¬ (8 ≤ k ∧ k ≤ 14) → I' 13 0 k = I 13 0 k) ∧ ∀ s, s ≠ 13 → L' s = L s
theorem FR.rf : FR I I L L := ⟨fun _ _ => rfl, fun _ _ => rfl, fun _ _ => rfl⟩
theorem FR.tr {I1 I2 : Nat → Nat → Nat → Int32} {L1 L2 : Nat → Nat → Nat → Int64} (h1 : FR I I1 L L1) (h2 : FR I1 I2 L1 L2) : FR I I2 L L2 := ⟨fun s a => (h2.1 s a).trans (h1.1 s a), fun k a => (h2.2.1 k a).trans (h1.2.1 k a), fun s a => (h2.2.2 s a).trans (h1.2.2 s a)⟩
theorem FG.fr {I' : Nat → Nat → Nat → Int32} {L' : Nat → Nat → Nat → Int64} (h : FG I I' L L') : FR I I' L L' := ⟨h.1, fun k hk => h.2.1 k (by omega), h.2.2⟩
theorem YTp.fr {I' : Nat → Nat → Nat → Int32} {L' : Nat → Nat → Nat → Int64} (h : YTp T e I) (hf : FR I I' L L') : YTp T e I' := ⟨fun i hi => by rw [hf.1 84 (by decide)]; exact h.1 i hi, h.2⟩
theorem mso_le : ∀ k, k ≤ 5 → mso k < 5 := by decide
theorem mso_2 : ∀ k, k ≤ 5 → (mso k = 2 ↔ k = 1) := by decide
theorem mso_3 : ∀ k, k ≤ 5 → (mso k = 3 ↔ k = 2) := by decide
theorem mso_4 : ∀ k, k ≤ 5 → (mso k = 4 ↔ k = 3 ∨ k = 4) := by decide
theorem mso_1 : ∀ k, k ≤ 5 → (mso k = 1 ↔ k = 0) := by decide
/-- go on, if nothing is wrong -/
def cn_ (T : Nat → Nat) (e : Nat) (c : cS) : cS := match c with
  | .inl f => .inl f
  | .inr a => .inr (nx T e a)
/-- a fault of a kind, if nothing is wrong -/
def cf (T : Nat → Nat) (e f : Nat) (c : cS) : cS := match c with
  | .inl g => .inl g
  | .inr a => .inl (f, tA T e a)

set_option maxRecDepth 100000 in
set_option maxHeartbeats 600000 in
theorem m_packed {i : Nat} (h12 : 12 ≤ i) (hi : i < 41) : Mt G vX13_packed (d + 4) (0, 0) [.ref (G.2.2.1 i)] (MM ad nb b r I L) (qL (fun rr M' => rr = pkS i ∧ M' = MM ad nb b r I L)) := by
  have loop4 : ∀ (n : Nat) (j : Nat), (xsb i).length - j < n → j ≤ (xsb i).length → X G vX13_packed (d + 4) (0, 0) 4 [(0, some (.ref (G.2.2.1 i))), (1, some (.long (pkw i j))), (3, some (.int (nI (j))))] [] (MM ad nb b r I L) (xT G (qL (fun rr M' => rr = pkS i ∧ M' = MM ad nb b r I L))) := by
    intro n
    induction n with
    | zero => intro j h0; omega
    | succ n ih =>
      intro j hn hj
      have hl := xsb_len i hi
      refine x_iload_n dX13_packed_4 rfl ?_
      refine x_aload_n dX13_packed_5 rfl ?_
      refine x_cSi (c_strlen (d := d + 2) hi) kX13_88 dX13_packed_6 hi rfl rfl (Nat.le_of_ble_eq_true rfl) (fun ru Mu hq => ?_)
      obtain ⟨rfl, rfl⟩ := hq
      refine x_icN_ge 36 dX13_packed_9 (by decide) (by omega) (by omega) (fun h9 => ?_) (fun h9 => ?_)
      · refine x_lload_n dX13_packed_36 rfl ?_
        refine x_lret dX13_packed_37 rfl ?_
        obtain rfl : j = (xsb i).length := by omega
        exact ⟨_, rfl, rfl, rfl⟩
      · refine x_ldc2 dX13_packed_12 (xm7 38 rfl rfl) ?_
        refine x_lload_n dX13_packed_15 rfl ?_
        refine x_lmul dX13_packed_16 ?_
        refine x_aload_n dX13_packed_17 rfl ?_
        refine x_iload_n dX13_packed_18 rfl ?_
        refine x_cSi (c_charAt (d := d) hi (j := j) h9) kX13_96 dX13_packed_19 hi rfl rfl (Nat.le_of_ble_eq_true rfl) (fun ru Mu hq => ?_)
        obtain ⟨rfl, rfl⟩ := hq
        have hc := sch_w i hi h12 j h9
        refine x_bipush dX13_packed_22 lb_97 ?_
        refine x_isubN dX13_packed_24 (by omega) ?_
        refine x_iconst dX13_packed_25 li_1 ?_
        refine x_iaddN dX13_packed_26 ?_
        refine x_i2l dX13_packed_27 rfl ?_
        refine x_ladd dX13_packed_28 ?_
        refine x_topL (v := pkw i (j + 1)) (sh5 _ (by omega)) ?_
        refine x_lstore_n dX13_packed_29 (by decide) rfl ?_
        refine x_iincN 1 dX13_packed_30 li_1 rfl (by decide) rfl ?_
        refine x_goto 4 dX13_packed_33 (by decide) ?_
        refine x_ls ?_ (ih (j + 1) (by omega) (by omega))
        exact ⟨rfl, rfl, rfl, trivial⟩
  refine x_start (by decide) (Nat.le_of_ble_eq_true rfl) ?_
  refine x_lconst dX13_packed_0 (v := lN 0) rfl ?_
  refine x_lstore_n dX13_packed_1 (by decide) rfl ?_
  refine x_iconst dX13_packed_2 li_0 ?_
  refine x_istore_n dX13_packed_3 (by decide) rfl ?_
  refine x_ls ?_ (loop4 ((xsb i).length + 1) 0 (by omega) (by omega))
  exact ⟨rfl, rfl, rfl, trivial⟩
set_option maxRecDepth 100000 in
set_option maxHeartbeats 600000 in
theorem m_flaw_o {f : Nat} {g : Nat × Nat} (hR : RSt T e (.inl g) I L) : Mt G vX13_flaw (d) (0, 0) [.ref (ad 13 0), .int (nI (f))] (MM ad nb b r I L) (qV (fun M' => ∃ I', M' = MM ad nb b r I' L ∧ RSt T e (.inl g) I' L ∧ FR I I' L L)) := by
  refine x_start (by decide) (Nat.le_of_ble_eq_true rfl) ?_
  refine x_aload_n dX13_flaw_0 rfl ?_
  refine g_M_sort fX13_100 dX13_flaw_1 ?_
  refine x_top (hR.2.1) ?_
  refine x_iconst dX13_flaw_4 li_5 ?_
  refine x_icN_ne 9 dX13_flaw_5 (by decide) (by omega) (by omega) (fun h5 => absurd rfl h5) (fun h5 => ?_)
  refine x_vret dX13_flaw_8 rfl ?_
  exact ⟨rfl, _, rfl, hR, FR.rf⟩
set_option maxRecDepth 100000 in
set_option maxHeartbeats 600000 in
theorem m_flaw_k {f : Nat} (hR : RSt T e (.inr a) I L) : Mt G vX13_flaw (d) (0, 0) [.ref (ad 13 0), .int (nI (f))] (MM ad nb b r I L) (qV (fun M' => ∃ I', M' = MM ad nb b r I' L ∧ RSt T e (.inl (f, tA T e a)) I' L ∧ FR I I' L L)) := by
  have hm := mso_le _ (kd_le (T := T) (e := e) (a := a))
  refine x_start (by decide) (Nat.le_of_ble_eq_true rfl) ?_
  refine x_aload_n dX13_flaw_0 rfl ?_
  refine g_M_sort fX13_100 dX13_flaw_1 ?_
  refine x_top (hR.2.1.1.2.2) ?_
  refine x_iconst dX13_flaw_4 li_5 ?_
  refine x_icN_ne 9 dX13_flaw_5 (by decide) (by omega) (by omega) (fun h5 => ?_) (fun h5 => absurd h5 (by omega))
  refine x_aload_n dX13_flaw_9 rfl ?_
  refine x_iload_n dX13_flaw_10 rfl ?_
  refine p_M_fault fX13_129 dX13_flaw_11 ?_
  refine x_aload_n dX13_flaw_14 rfl ?_
  refine x_aload_n dX13_flaw_15 rfl ?_
  refine g_M_place fX13_109 dX13_flaw_16 ?_
  rw [xu_nk (by decide), hR.2.1.1.2.1]
  refine p_M_wrongAt fX13_132 dX13_flaw_19 ?_
  refine x_aload_n dX13_flaw_22 rfl ?_
  refine x_iconst dX13_flaw_23 li_5 ?_
  refine p_M_sort fX13_100 dX13_flaw_24 ?_
  refine x_vret dX13_flaw_27 rfl ?_
  exact ⟨rfl, _, rfl, ⟨by rw [xu_nk (by decide), xu_nk (by decide), xu_nk (by decide)]; exact hR.2.1.1.1, xu_s, by rw [xu_nk (by decide), xu_nk (by decide), xu_s], by rw [xu_nk (by decide), xu_s]⟩, fun s hs => by funext x y; rw [xu_ns hs, xu_ns hs, xu_ns hs], fun k hk => by rw [xu_nk (by omega), xu_nk (by omega), xu_nk (by omega)], fun _ _ => rfl⟩
theorem m_flaw {f : Nat} {c : cS} (hR : RSt T e c I L) : Mt G vX13_flaw d (0, 0) [.ref (ad 13 0), .int (nI f)] (MM ad nb b r I L) (qV (fun M' => ∃ I', M' = MM ad nb b r I' L ∧ RSt T e (cf T e f c) I' L ∧ FR I I' L L)) := by
  cases c with
  | inl g => exact m_flaw_o hR
  | inr a => exact m_flaw_k hR
theorem m_next {c : cS} (hT : YTp T e I) (hR : RSt T e c I L) (h5 : ∀ a, c = .inr a → kd T e a ≠ 5) : Mt G vX13_goesOn (d + 1) (0, 0) [.ref (ad 13 0)] (MM ad nb b r I L) (qV (fun M' => ∃ I' L', M' = MM ad nb b r I' L' ∧ RSt T e (cn_ T e c) I' L' ∧ FR I I' L L')) := by
  cases c with
  | inl g => exact (m_goesOn' hR.2.1).wk (fun v M' h => ⟨h.1, _, _, h.2, hR, FR.rf⟩)
  | inr a =>
    have hm := mso_le _ (kd_le (T := T) (e := e) (a := a))
    refine (m_goesOn hT (nx_le (T := T) hR.1).2 hR.2.1.1.1 (hR.2.1.2.1 (h5 a rfl)) hR.2.1.1.2.2 hm).wk (fun v M' h => ?_)
    obtain ⟨h1, I', L', h2, h3, h4⟩ := h
    exact ⟨h1, I', L', h2, ⟨(nx_le hR.1).2, h3, by rw [h4.2.1 13 (by omega)]; exact hR.2.2⟩, h4.fr⟩
def isW (T : Nat → Nat) (e k : Nat) (c : cS) : Bool := match c with
  | .inl _ => false
  | .inr a => decide (kd T e a = 1) && decide (vl T e a = pkS k)
set_option maxRecDepth 100000 in
set_option maxHeartbeats 600000 in
theorem m_isWord_o {i : Nat} (h12 : 12 ≤ i) (hi : i < 41) {g : Nat × Nat} (hR : RSt T e (.inl g) I L) : Mt G vX13_isWord (d + 5) (0, 0) [.ref (ad 13 0), .ref (G.2.2.1 i)] (MM ad nb b r I L) (qE (nI 0) (MM ad nb b r I L)) := by
  refine x_start (by decide) (Nat.le_of_ble_eq_true rfl) ?_
  refine x_aload_n dX13_isWord_0 rfl ?_
  refine g_M_sort fX13_100 dX13_isWord_1 ?_
  refine x_top (hR.2.1) ?_
  refine x_iconst dX13_isWord_4 li_2 ?_
  refine x_icN_ne 24 dX13_isWord_5 (by decide) (by omega) (by omega) (fun h5 => ?_) (fun h5 => absurd h5 (by omega))
  refine x_iconst dX13_isWord_24 li_0 ?_
  refine x_zret dX13_isWord_25 rfl rfl ?_
  exact ⟨_, rfl, rfl, rfl⟩
set_option maxRecDepth 100000 in
set_option maxHeartbeats 600000 in
theorem m_isWord_k {i : Nat} (h12 : 12 ≤ i) (hi : i < 41) (hR : RSt T e (.inr a) I L) : Mt G vX13_isWord (d + 5) (0, 0) [.ref (ad 13 0), .ref (G.2.2.1 i)] (MM ad nb b r I L) (qE (bI (isW T e i (.inr a))) (MM ad nb b r I L)) := by
  have hkl := kd_le (T := T) (e := e) (a := a)
  have hm := mso_le _ hkl
  have h2 := mso_2 _ hkl
  refine x_start (by decide) (Nat.le_of_ble_eq_true rfl) ?_
  refine x_aload_n dX13_isWord_0 rfl ?_
  refine g_M_sort fX13_100 dX13_isWord_1 ?_
  refine x_top (hR.2.1.1.2.2) ?_
  refine x_iconst dX13_isWord_4 li_2 ?_
  refine x_icN_ne 24 dX13_isWord_5 (by decide) (by omega) (by omega) (fun h5 => ?_) (fun h5 => ?_)
  · have hw : isW T e i (.inr a) = false := by show (decide (kd T e a = 1) && _) = false; rw [decide_eq_false (fun z => h5 (h2.mpr z))]; rfl
    refine x_iconst dX13_isWord_24 li_0 ?_
    refine x_zret dX13_isWord_25 rfl rfl ?_
    rw [hw]
    exact ⟨_, rfl, rfl, rfl⟩
  · refine x_aload_n dX13_isWord_8 rfl ?_
    refine g_M_word fX13_119 dX13_isWord_9 ?_
    rw [hR.2.1.2.2.1 (h2.mp h5)]
    refine x_aload_n dX13_isWord_12 rfl ?_
    refine x_csl (m_packed (d := d) h12 hi) kX13_135 dX13_isWord_13 rfl rfl (Nat.le_of_ble_eq_true rfl) (fun ru Mu hq => ?_)
    obtain ⟨rfl, rfl⟩ := hq
    refine x_lcmp dX13_isWord_16 ?_
    refine x_if_ne 24 dX13_isWord_17 (by decide) (fun h17 => ?_) (fun h17 => ?_)
    · have hw : isW T e i (.inr a) = false := by show (_ && decide (vl T e a = pkS i)) = false; rw [decide_eq_false (fun z => h17 ((lg_cmp_eq _ _).mpr z)), Bool.and_false]
      refine x_iconst dX13_isWord_24 li_0 ?_
      refine x_zret dX13_isWord_25 rfl rfl ?_
      rw [hw]
      exact ⟨_, rfl, rfl, rfl⟩
    · have hw : isW T e i (.inr a) = true := by show (decide (kd T e a = 1) && decide (vl T e a = pkS i)) = true; rw [decide_eq_true (h2.mp h5), decide_eq_true ((lg_cmp_eq _ _).mp (by first | exact h17 | exact Decidable.of_not_not h17))]; rfl
      refine x_iconst dX13_isWord_20 li_1 ?_
      refine x_goto 25 dX13_isWord_21 (by decide) ?_
      refine x_zret dX13_isWord_25 rfl rfl ?_
      rw [hw]
      exact ⟨_, rfl, rfl, rfl⟩
theorem m_isWord {i : Nat} {c : cS} (h12 : 12 ≤ i) (hi : i < 41) (hR : RSt T e c I L) : Mt G vX13_isWord (d + 5) (0, 0) [.ref (ad 13 0), .ref (G.2.2.1 i)] (MM ad nb b r I L) (qE (bI (isW T e i c)) (MM ad nb b r I L)) := by
  cases c with
  | inl g => exact m_isWord_o h12 hi hR
  | inr a => exact m_isWord_k h12 hi hR
def cneed (T : Nat → Nat) (e k : Nat) (c : cS) : cS := if isW T e k c = true then cn_ T e c else cf T e 1 c
set_option maxRecDepth 100000 in
set_option maxHeartbeats 600000 in
theorem m_needs {i : Nat} {c : cS} (h12 : 12 ≤ i) (hi : i < 41) (hT : YTp T e I) (hR : RSt T e c I L) : Mt G vX13_needs (d + 6) (0, 0) [.ref (ad 13 0), .ref (G.2.2.1 i)] (MM ad nb b r I L) (qV (fun M' => ∃ I' L', M' = MM ad nb b r I' L' ∧ RSt T e (cneed T e i c) I' L' ∧ FR I I' L L')) := by
  refine x_start (by decide) (Nat.le_of_ble_eq_true rfl) ?_
  refine x_aload_n dX13_needs_0 rfl ?_
  refine x_aload_n dX13_needs_1 rfl ?_
  refine x_cvi (m_isWord (d := d) h12 hi hR) kX13_142 dX13_needs_2 rfl (Nat.le_of_ble_eq_true rfl) rfl rfl (Nat.le_of_ble_eq_true rfl) (fun ru Mu hq => ?_)
  obtain ⟨rfl, rfl⟩ := hq
  refine x_if_ne 13 dX13_needs_5 (by decide) (fun h5 => ?_) (fun h5 => ?_)
  · have hw := bI_ne.mp h5
    have hck : ∀ a, c = .inr a → kd T e a ≠ 5 := fun a z => by
      subst z
      have := of_decide_eq_true (Bool.and_eq_true_iff.mp (show (decide (kd T e a = 1) && decide (vl T e a = pkS i)) = true from hw)).1
      omega
    refine x_aload_n dX13_needs_13 rfl ?_
    refine x_cvv ((by first | exact m_next (d := d + 4) (hT.fr f1) r1 hcf | exact m_next (d := d + 4) hT hR hck)) kX13_139 dX13_needs_14 rfl (Nat.le_of_ble_eq_true rfl) rfl rfl (Nat.le_of_ble_eq_true rfl) (fun Mu hq => ?_)
    obtain ⟨I2, L2, rfl, r2, f2⟩ := hq
    refine x_vret dX13_needs_17 rfl ?_
    first
      | (refine ⟨rfl, _, _, rfl, ?_, f1.tr f2⟩; unfold cneed; rw [if_neg (by rw [hw]; decide)]; cases c <;> exact r2)
      | (refine ⟨rfl, _, _, rfl, ?_, f2⟩; unfold cneed; rw [if_pos hw]; exact r2)
  · have hw := bI_eq.mp h5
    refine x_aload_n dX13_needs_8 rfl ?_
    refine x_iconst dX13_needs_9 li_1 ?_
    refine x_cvv (m_flaw (d := d + 5) hR) kX13_146 dX13_needs_10 rfl (Nat.le_of_ble_eq_true rfl) rfl rfl (Nat.le_of_ble_eq_true rfl) (fun Mu hq => ?_)
    obtain ⟨I1, rfl, r1, f1⟩ := hq
    have hcf : ∀ a, cf T e 1 c = .inr a → kd T e a ≠ 5 := fun a z => by cases c <;> cases z
    refine x_aload_n dX13_needs_13 rfl ?_
    refine x_cvv ((by first | exact m_next (d := d + 4) (hT.fr f1) r1 hcf | exact m_next (d := d + 4) hT hR hck)) kX13_139 dX13_needs_14 rfl (Nat.le_of_ble_eq_true rfl) rfl rfl (Nat.le_of_ble_eq_true rfl) (fun Mu hq => ?_)
    obtain ⟨I2, L2, rfl, r2, f2⟩ := hq
    refine x_vret dX13_needs_17 rfl ?_
    first
      | (refine ⟨rfl, _, _, rfl, ?_, f1.tr f2⟩; unfold cneed; rw [if_neg (by rw [hw]; decide)]; cases c <;> exact r2)
      | (refine ⟨rfl, _, _, rfl, ?_, f2⟩; unfold cneed; rw [if_pos hw]; exact r2)
end M30
