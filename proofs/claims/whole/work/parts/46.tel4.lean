section Tel4
variable {G : xG} {ad : Nat → Nat → Nat} {nb : Nat} {b r : Option Nat} {L : Nat → Nat → Nat → Int64} {V : sV} {I : Nat → Nat → Nat → Int32} {d : Nat}

/-- a step's end, in one form for both ways -/
def qU (T : Nat → Nat) (e a : Nat) (ad : Nat → Nat → Nat) (nb : Nat) (b r : Option Nat) (I : Nat → Nat → Nat → Int32) (L : Nat → Nat → Nat → Int64) (q : pR) : Option Value → xM → Prop := qI (fun rr M' => rr = bI q.isRight ∧ ∃ I' L', M' = MM ad nb b r I' L' ∧ FP I I' ∧ FL L L' ∧ (∀ f, q = .inl f → I' 6 0 1 = nI f.1 ∧ I' 6 0 2 = nI f.2) ∧ ∀ num, q = .inr num → TK T e (nx T e a) I' L' ∧ I' 6 0 8 = nI num ∧ I' 6 0 9 = nI (tA T e a) ∧ (∀ k, k ≠ 8 → k ≠ 9 → I' 6 0 k = I 6 0 k) ∧ F67 I I' ∧ F7 L L')
theorem F67.fp {I' : Nat → Nat → Nat → Int32} (h : F67 I I') : FP I I' := fun a c hac => by rw [h a (by omega) (by omega)]
theorem F7.fl {L' : Nat → Nat → Nat → Int64} (h : F7 L L') : FL L L' := fun s h7 _ => h s h7
theorem qP.un {T : Nat → Nat} {e a : Nat} {q : pR} {v : Option Value} {M' : xM} (h : qP T e a ad nb b r I L q v M') : qU T e a ad nb b r I L q v M' := by
  cases q with
  | inl f =>
    obtain ⟨rr, h1, h2, I', L', h3, h4, h5, h6, h7⟩ := h
    exact ⟨rr, h1, h2, I', L', h3, h6, h7, fun g hg => by cases hg; exact ⟨h4, h5⟩, fun num hn => by cases hn⟩
  | inr num =>
    obtain ⟨rr, h1, h2, I', L', h3, h4, h5, h6, h7, h8, h9⟩ := h
    exact ⟨rr, h1, h2, I', L', h3, h8.fp, h9.fl, (fun g hg => nomatch hg), fun n hn => by cases hn; exact ⟨h4, h5, h6, h7, h8, h9⟩⟩
def qV2 (T : Nat → Nat) (e a so : Nat) (nm : List (Nat × Nat × Nat)) (ad : Nat → Nat → Nat) (nb : Nat) (b r : Option Nat) (I : Nat → Nat → Nat → Int32) (L : Nat → Nat → Nat → Int64) (q : pR) : Option Value → xM → Prop := qI (fun rr M' => rr = bI q.isRight ∧ ∃ I' L', M' = MM ad nb b r I' L' ∧ FP I I' ∧ FL L L' ∧ (∀ f, q = .inl f → I' 6 0 1 = nI f.1 ∧ I' 6 0 2 = nI f.2) ∧ ∀ num, q = .inr num → TK T e (nx T e a) I' L' ∧ I' 6 0 8 = nI num ∧ I' 6 0 9 = nI (tA T e a) ∧ XNm T e (nm ++ [(a, so, num)]) I' L' ∧ I' 6 0 1 = I 6 0 1 ∧ I' 6 0 2 = I 6 0 2 ∧ F4 I I')
theorem qN.un {T : Nat → Nat} {e a so : Nat} {nm : List (Nat × Nat × Nat)} {q : pR} {v : Option Value} {M' : xM} (h : qN T e a so nm ad nb b r I L q v M') : qV2 T e a so nm ad nb b r I L q v M' := by
  cases q with
  | inl f =>
    obtain ⟨rr, h1, h2, I', L', h3, h4, h5, h6, h7⟩ := h
    exact ⟨rr, h1, h2, I', L', h3, h6, h7, fun g hg => by cases hg; exact ⟨h4, h5⟩, fun num hn => by cases hn⟩
  | inr num =>
    obtain ⟨rr, h1, h2, I', L', h3, h4, h5, h6, h7, h8, h9, h10, h11⟩ := h
    exact ⟨rr, h1, h2, I', L', h3, fun a c hac => by rw [h10 a (by omega) (by omega) (by omega) (by omega)], h11, (fun g hg => nomatch hg), fun n hn => by cases hn; exact ⟨h4, h5, h6, h7, h8, h9, h10⟩⟩
/-- what has been read of a text: a border, names, where the next token is looked for -/
abbrev pS : Type := sV × List (Nat × Nat × Nat) × Nat
def PSt (T : Nat → Nat) (e : Nat) (s : pS) (I : Nat → Nat → Nat → Int32) (L : Nat → Nat → Nat → Int64) : Prop := s.2.2 ≤ e ∧ TK T e s.2.2 I L ∧ XB s.1 1 I ∧ (∀ i, i < 6 → I 29 1 i = nO (-1) (s.1 17 i 0)) ∧ XNm T e s.2.1 I L
/-- its bounds -/
def PW (s : pS) : Prop := VW s.1 ∧ s.2.1.length = s.1 0 1 0 + s.1 0 2 0 + s.1 0 3 0 + s.1 0 4 0 + s.1 0 7 0 ∧ ∀ q ∈ s.2.1, q.2.2 < s.1 0 q.2.1 0
abbrev lR : Type := (Nat × Nat) ⊕ pS
def qR2 (T : Nat → Nat) (e : Nat) (ad : Nat → Nat → Nat) (nb : Nat) (b r : Option Nat) (I : Nat → Nat → Nat → Int32) (L : Nat → Nat → Nat → Int64) (q : lR) : Option Value → xM → Prop := qI (fun rr M' => rr = bI q.isRight ∧ ∃ I' L', M' = MM ad nb b r I' L' ∧ FP I I' ∧ FL L L' ∧ (∀ f, q = .inl f → I' 6 0 1 = nI f.1 ∧ I' 6 0 2 = nI f.2) ∧ ∀ s, q = .inr s → PSt T e s I' L' ∧ I' 6 0 1 = I 6 0 1 ∧ I' 6 0 2 = I 6 0 2)
def setV (V : sV) (k i j x : Nat) : sV := fun a b c => if a = k ∧ b = i ∧ c = j then x else V a b c
def bnd {α : Type} (q : pR) (k : Nat → (Nat × Nat) ⊕ α) : (Nat × Nat) ⊕ α := match q with
  | .inl f => .inl f
  | .inr x => k x
theorem FP.tr {I1 I2 : Nat → Nat → Nat → Int32} (h1 : FP I I1) (h2 : FP I1 I2) : FP I I2 := fun a c h => (h2 a c h).trans (h1 a c h)
theorem FL.tr {L1 L2 : Nat → Nat → Nat → Int64} (h1 : FL L L1) (h2 : FL L1 L2) : FL L L2 := fun s a b => (h2 s a b).trans (h1 s a b)
theorem qR2_no {T : Nat → Nat} {e : Nat} {q : lR} {f : Nat × Nat} {I' : Nat → Nat → Nat → Int32} {L' : Nat → Nat → Nat → Int64} (h : q = .inl f) (h1 : I' 6 0 1 = nI f.1 ∧ I' 6 0 2 = nI f.2) (h2 : FP I I') (h3 : FL L L') : qR2 T e ad nb b r I L q (some (.int (nI 0))) (MM ad nb b r I' L') := by
  subst h
  exact ⟨_, rfl, rfl, _, _, rfl, h2, h3, fun g hg => by cases hg; exact h1, fun s hs => by cases hs⟩
theorem qR2_ok {T : Nat → Nat} {e : Nat} {q : lR} {s : pS} {I' : Nat → Nat → Nat → Int32} {L' : Nat → Nat → Nat → Int64} (h : q = .inr s) (h1 : PSt T e s I' L') (h2 : FP I I') (h3 : FL L L') (h4 : I' 6 0 1 = I 6 0 1) (h5 : I' 6 0 2 = I 6 0 2) : qR2 T e ad nb b r I L q (some (.int (nI 1))) (MM ad nb b r I' L') := by
  subst h
  exact ⟨_, rfl, rfl, _, _, rfl, h2, h3, (fun g hg => nomatch hg), fun s hs => by cases hs; exact ⟨h1, h4, h5⟩⟩
theorem pR_l {q : pR} (h : bI q.isRight = 0) : ∃ f, q = .inl f := by
  cases q with
  | inl f => exact ⟨f, rfl⟩
  | inr x => exact absurd (show nI 1 = 0 from h) (by decide)
theorem pR_r {q : pR} (h : ¬ bI q.isRight = 0) : ∃ x, q = .inr x := by
  cases q with
  | inl f => exact absurd rfl h
  | inr x => exact ⟨x, rfl⟩
/-- what a line does to a border: one number more of a sort, told by one number -/
theorem XB.wind {x : Nat} (h : XB V 1 I) (hw : ∀ i, i < 6 → I 29 1 i = nO (-1) (V 17 i 0)) : XB (setV V 0 0 0 x) 1 (xu I 16 1 0 (nI x)) := by
  obtain ⟨x0, x1, x2, x3, x4, x5, x6, x7, x8, x9, x10, x11⟩ := h
  have e : ∀ s c, s ≠ 16 → xu I 16 1 0 (nI x) s c = I s c := fun s c hs => funext fun k => xu_ns hs
  have v : ∀ k i j, k ≠ 0 → setV V 0 0 0 x k i j = V k i j := fun k i j hk => if_neg (fun q => hk q.1)
  have v0 : ∀ k, k ≠ 0 → setV V 0 0 0 x 0 k 0 = V 0 k 0 := fun k hk => if_neg (fun q => hk q.2.1)
  refine ⟨fun k hk => ?_, ?_, ?_, ?_, ?_, ?_, ?_, ?_, fun s hs _ => ?_, ?_, ?_, ?_⟩
  · rw [xu_at]
    by_cases e0 : k = 0
    · subst e0; rw [if_pos rfl]; unfold setV; rw [if_pos ⟨rfl, rfl, rfl⟩]
    · rw [if_neg e0, v0 k e0]; exact x0 k hk
  · simp only [v0 1 (by decide), e 17 1 (by decide), v 1 _ _ (by decide)]; exact x1
  · simp only [v0 2 (by decide), e 18 1 (by decide), e 19 1 (by decide), v 2 _ _ (by decide), v 3 _ _ (by decide)]; exact x2
  · simp only [v0 3 (by decide), e 20 1 (by decide), v 4 _ _ (by decide)]; exact x3
  · simp only [v0 4 (by decide), e 21 1 (by decide), e 22 1 (by decide), v 5 _ _ (by decide), v 6 _ _ (by decide)]; exact x4
  · simp only [v0 7 (by decide), e 23 1 (by decide), e 24 1 (by decide), e 25 1 (by decide), v 9 _ _ (by decide), v 10 _ _ (by decide), v 11 _ _ (by decide)]; exact x5
  · simp only [e 26 1 (by decide), v 13 _ _ (by decide)]; exact x6
  · simp only [v0 9 (by decide), e 27 1 (by decide), e 28 1 (by decide), v 15 _ _ (by decide), v 16 _ _ (by decide)]; exact x7
  · rw [e 29 1 (by decide), v 17 _ _ (by decide)]; exact hw s hs
  · simp only [e 31 _ (by decide), e 33 _ (by decide), v 7 _ _ (by decide), v 8 _ _ (by decide)]; exact x9
  · simp only [e 35 _ (by decide), v 12 _ _ (by decide)]; exact x10
  · simp only [e 37 _ (by decide), v 13 _ _ (by decide), v 14 _ _ (by decide)]; exact x11
def rdWind (T : Nat → Nat) (e : Nat) (s : pS) : lR := bnd (pChoice T e 1 s.2.2) (fun _ => bnd (pWhole T e 1 5 (nx T e s.2.2)) (fun x => .inr (setV s.1 0 0 0 x, s.2.1, nx T e (nx T e s.2.2))))
theorem XNm.sm {T : Nat → Nat} {e : Nat} {nm : List (Nat × Nat × Nat)} {I' : Nat → Nat → Nat → Int32} {L' : Nat → Nat → Nat → Int64} (h : XNm T e nm I L) (h7 : I' 6 0 7 = I 6 0 7) (h39 : I' 39 = I 39) (h40 : I' 40 = I 40) (h38 : L' 38 = L 38) : XNm T e nm I' L' := by
  unfold XNm at h ⊢
  rw [h7, h39, h40, h38]
  exact h
theorem TK.sm {T : Nat → Nat} {e a : Nat} {I' : Nat → Nat → Nat → Int32} {L' : Nat → Nat → Nat → Int64} (h : TK T e a I L) (h7 : I' 7 = I 7) (h8 : L' 7 = L 7) : TK T e a I' L' := by
  unfold TK TKF at h ⊢
  rw [h7, h8]
  exact h

set_option maxRecDepth 100000 in
set_option maxHeartbeats 4000000 in
theorem c_readWind {T : Nat → Nat} {e : Nat} (hE : e ≤ 1100) (hT : ∀ i, i < e → I 14 0 i = nI (T i)) (hT2 : ∀ i, T i < 256) {s : pS} (hP : PSt T e s I L) (hW : PW s) : Mt G vX6_readWind (d + 6) (0, 0) [.ref (ad 6 0)] (MM ad nb b r I L) (qR2 T e ad nb b r I L (rdWind T e s)) := by
  obtain ⟨ha, hK, hB, hw, hN⟩ := hP
  have ha2 := (nx_le (T := T) ha).2
  refine x_start (by decide) (Nat.le_of_ble_eq_true rfl) ?_
  refine x_aload_n dX6_readWind_0 rfl ?_
  refine x_ldcS (n := 1) dX6_readWind_1 rfl ?_
  refine x_cvi ((c_choice (d := d) (k := 1) hE hT hT2 ha hK (by omega)).wk (fun _ _ h => h.un)) kX6_130 dX6_readWind_3 rfl (Nat.le_of_ble_eq_true rfl) rfl rfl (Nat.le_of_ble_eq_true rfl) (fun ru Mu hq => ?_)
  obtain ⟨rfl, Ia, La, rfl, p1, p2, p3, p4⟩ := hq
  refine x_if_eq 18 dX6_readWind_6 (by decide) (fun h6 => ?_) (fun h6 => ?_)
  · obtain ⟨f, hf⟩ := pR_l h6
    refine x_iconst dX6_readWind_18 li_0 ?_
    refine x_zret dX6_readWind_19 rfl rfl ?_
    first
      | (refine qR2_no (f := f) ?_ (r3 f hf) (p1.tr r1) (p2.tr r2); unfold rdWind; rw [hx1]; unfold bnd; rw [hf])
      | (refine qR2_no (f := f) ?_ (p3 f hf) p1 p2; unfold rdWind; rw [hf]; rfl)
  · obtain ⟨x1, hx1⟩ := pR_r h6
    obtain ⟨ka, -, -, ga, fa, la⟩ := p4 x1 hx1
    refine x_aload_n dX6_readWind_9 rfl ?_
    refine x_iconst dX6_readWind_10 li_1 ?_
    refine x_iconst dX6_readWind_11 li_5 ?_
    refine x_cvi ((c_whole (d := d + 3) (lo := 1) (hi := 5) hE (fun i hi => by rw [fa 14 (by decide) (by decide)]; exact hT i hi) hT2 ha2 ka (by omega) (by omega)).wk (fun _ _ h => h.un)) kX6_134 dX6_readWind_12 rfl (Nat.le_of_ble_eq_true rfl) rfl rfl (Nat.le_of_ble_eq_true rfl) (fun ru Mu hq => ?_)
    obtain ⟨rfl, Ib, Lb, rfl, r1, r2, r3, r4⟩ := hq
    refine x_if_ne 20 dX6_readWind_15 (by decide) (fun h15 => ?_) (fun h15 => ?_)
    · obtain ⟨x2, hx2⟩ := pR_r h15
      obtain ⟨kb, gb8, -, gb, fb, lb⟩ := r4 x2 hx2
      refine x_aload_n dX6_readWind_20 rfl ?_
      refine g_Teller_draft fX6_12 dX6_readWind_21 ?_
      refine g_Border_sizes fX6_72 dX6_readWind_24 (by first | exact Nat.le_of_ble_eq_true rfl | assumption | omega) ?_
      refine x_iconst dX6_readWind_27 li_0 ?_
      refine x_aload_n dX6_readWind_28 rfl ?_
      refine g_Teller_found fX6_137 dX6_readWind_29 ?_
      rw [gb8]
      refine x_iast dX6_readWind_32 rfl rfl (Nat.lt_of_lt_of_le (by first | assumption | omega | decide) (Nat.le_refl 2)) (by first | exact Nat.le_of_ble_eq_true rfl | assumption | omega) ?_
      refine x_iconst dX6_readWind_33 li_1 ?_
      refine x_zret dX6_readWind_34 rfl rfl ?_
      have hI : ∀ q, q ≠ 6 → q ≠ 7 → Ib q = I q := fun q h6 h7 => (fb q h6 h7).trans (fa q h6 h7)
      have hBb : XB s.1 1 Ib := hB.sm (fun q h1 h2 => hI q (by omega) (by omega))
      have hwb : ∀ i, i < 6 → Ib 29 1 i = nO (-1) (s.1 17 i 0) := fun i hi => by rw [hI 29 (by decide) (by decide)]; exact hw i hi
      have e16 : ∀ q, q ≠ 16 → xu Ib 16 1 0 (nI x2) q = Ib q := fun q h => by funext x y; rw [xu_ns h]
      refine qR2_ok (s := (setV s.1 0 0 0 x2, s.2.1, nx T e (nx T e s.2.2))) ?_ ⟨(nx_le ha2).2, kb.sm (e16 7 (by decide)) rfl, hBb.wind hwb, ?_, hN.sm ?_ ?_ ?_ ?_⟩ ?_ (p2.tr r2) ?_ ?_
      · unfold rdWind; rw [hx1]; unfold bnd; rw [hx2]
      · intro i hi; rw [e16 29 (by decide)]; exact hwb i hi
      · rw [e16 6 (by decide), gb 7 (by decide) (by decide), ga 7 (by decide) (by decide)]
      · rw [e16 39 (by decide), hI 39 (by decide) (by decide)]
      · rw [e16 40 (by decide), hI 40 (by decide) (by decide)]
      · rw [lb 38 (by decide), la 38 (by decide)]
      · refine (p1.tr r1).tr (fun q c hqc => ?_)
        by_cases e0 : q = 16
        · subst e0
          have hc : c ≠ 1 := fun z => hqc (by subst z; exact Or.inr (Or.inr (Or.inr (Or.inr (Or.inl ⟨by decide, by decide, rfl⟩)))))
          funext x; exact xu_ni hc
        · rw [e16 q e0]
      · rw [e16 6 (by decide), gb 1 (by decide) (by decide), ga 1 (by decide) (by decide)]
      · rw [e16 6 (by decide), gb 2 (by decide) (by decide), ga 2 (by decide) (by decide)]
    · obtain ⟨f, hf⟩ := pR_l h15
      refine x_iconst dX6_readWind_18 li_0 ?_
      refine x_zret dX6_readWind_19 rfl rfl ?_
      first
        | (refine qR2_no (f := f) ?_ (r3 f hf) (p1.tr r1) (p2.tr r2); unfold rdWind; rw [hx1]; unfold bnd; rw [hf])
        | (refine qR2_no (f := f) ?_ (p3 f hf) p1 p2; unfold rdWind; rw [hf]; rfl)
end Tel4
