section M37
variable {G : xG} {ad : Nat → Nat → Nat} {nb : Nat} {b r : Option Nat} {L : Nat → Nat → Nat → Int64} {V : sV} {I : Nat → Nat → Nat → Int32} {d : Nat}

variable {T : Nat → Nat} {e a : Nat} {nm : List (Nat × Nat × Nat)} {ri : Nat} {c : cS} {s : pS}
def lcur (q : lR) : cS := match q with
  | .inl f => .inl f
  | .inr s => .inr s.2.2
theorem lcur_l {q : lR} {f : Nat × Nat} (h : lcur q = .inl f) : q = .inl f := by
  cases q with
  | inl g => cases h; rfl
  | inr s => cases h
theorem lcur_r {q : lR} {x : Nat} (h : lcur q = .inr x) : ∃ s, q = .inr s ∧ s.2.2 = x := by
  cases q with
  | inl g => cases h
  | inr s => cases h; exact ⟨s, rfl, rfl⟩
theorem lc_step {q : Nat → pR} {k : Nat → lR} {F : cS → cS} (hF : ∀ f, F (.inl f) = .inl f) (hk : ∀ x, q a = .inr x → lcur (k x) = F (.inr (nx T e a))) : lcur (bnd (q a) k) = F (cst T e q (.inr a)) := by
  cases h : q a with
  | inl f => rw [cst_f h, hF]; rfl
  | inr x => rw [cst_r h]; exact hk x h
theorem cst_l {q : Nat → pR} (f : Nat × Nat) : cst T e q (.inl f) = .inl f := rfl
theorem cst_inv {q : Nat → pR} {x : Nat} (h : cst T e q c = .inr x) : ∃ a n, c = .inr a ∧ q a = .inr n ∧ x = nx T e a := by
  cases c with
  | inl f => cases h
  | inr a =>
    cases hq : q a with
    | inl f => rw [cst_f hq] at h; cases h
    | inr n => rw [cst_r hq] at h; cases h; exact ⟨a, n, rfl, hq, rfl⟩
theorem cst_fr {so : Nat} {V : sV} : cst T e (pFr T e nm) c = cst T e (pNew V T e nm so) c := by
  cases c with
  | inl f => rfl
  | inr a =>
    show (match pFr T e nm a with | .inl f => _ | .inr _ => _) = (match pNew V T e nm so a with | .inl f => _ | .inr _ => _)
    unfold pFr pNew
    by_cases h1 : isN T e a = true
    · rw [if_pos h1, if_pos h1]
      by_cases h2 : nmA T e nm a < nm.length
      · rw [if_pos h2, if_pos h2]
      · rw [if_neg h2, if_neg h2]
    · rw [if_neg h1, if_neg h1]
theorem pFr_new {so n : Nat} {V : sV} (h : pNew V T e nm so a = .inr n) : pFr T e nm a = .inr 0 := by
  unfold pNew at h
  unfold pFr
  split at h
  · split at h
    · cases h
    · rename_i h1 h2; rw [if_pos h1, if_neg h2]
  · cases h
theorem cneed_ch {i k : Nat} (hk : ∀ v, wiN k v ≠ 0 ↔ v = pkS i) : cneed T e i c = cst T e (pChoice T e k) c := by
  unfold cneed
  cases c with
  | inl f => rfl
  | inr a =>
    cases h : isW T e i (.inr a) with
    | true =>
      have h1 := isW_k h
      have hp : pChoice T e k a = .inr (wiN k (vl T e a) - 1) := if_pos ⟨h1.1, (hk _).mpr h1.2⟩
      rw [cst_r hp]; rfl
    | false =>
      have hp : pChoice T e k a = .inl (1, tA T e a) := if_neg (fun z => by
        have h2 : (decide (kd T e a = 1) && decide (vl T e a = pkS i)) = false := h
        rw [decide_eq_true z.1, decide_eq_true ((hk _).mp z.2)] at h2
        exact absurd h2 (by decide))
      rw [cst_f hp]; rfl
/-- what has been read, in the model -/
def YPS (T : Nat → Nat) (e : Nat) (s : pS) (ri : Nat) (I : Nat → Nat → Nat → Int32) (L : Nat → Nat → Nat → Int64) : Prop := RSt T e (.inr s.2.2) I L ∧ YB s.1 ri I ∧ YNm T e s.2.1 ri I L
def FQ (ri : Nat) (I I' : Nat → Nat → Nat → Int32) (L L' : Nat → Nat → Nat → Int64) : Prop := (∀ s c, s ≠ 13 → ¬ ((s = 12 ∨ (64 ≤ s ∧ s ≤ 83)) ∧ c = ri) → I' s c = I s c) ∧ (∀ k, ¬ (8 ≤ k ∧ k ≤ 14) → I' 13 0 k = I 13 0 k) ∧ ∀ s c, s ≠ 13 → ¬ (s = 81 ∧ c = ri) → L' s c = L s c
theorem FR.fq {I' : Nat → Nat → Nat → Int32} {L' : Nat → Nat → Nat → Int64} (h : FR I I' L L') : FQ ri I I' L L' := ⟨fun s c h1 _ => by rw [h.1 s h1], h.2.1, fun s c h1 _ => by rw [h.2.2 s h1]⟩
theorem FQ.tr {I1 I2 : Nat → Nat → Nat → Int32} {L1 L2 : Nat → Nat → Nat → Int64} (h1 : FQ ri I I1 L L1) (h2 : FQ ri I1 I2 L1 L2) : FQ ri I I2 L L2 := ⟨fun s c a d => (h2.1 s c a d).trans (h1.1 s c a d), fun k a => (h2.2.1 k a).trans (h1.2.1 k a), fun s c a d => (h2.2.2 s c a d).trans (h1.2.2 s c a d)⟩
theorem FQ.xu {I1 : Nat → Nat → Nat → Int32} {L1 : Nat → Nat → Nat → Int64} {s k : Nat} {v : Int32} (h : FQ ri I I1 L L1) (hs : s = 12 ∨ (64 ≤ s ∧ s ≤ 83)) : FQ ri I (xu I1 s ri k v) L L1 := h.tr ⟨fun t c h1 h2 => by funext y; rw [xu_n (by omega)], fun j _ => by rw [xu_ns (by omega)], fun _ _ _ _ => rfl⟩
def qLn (T : Nat → Nat) (e : Nat) (ad : Nat → Nat → Nat) (nb : Nat) (b r : Option Nat) (ri : Nat) (I : Nat → Nat → Nat → Int32) (L : Nat → Nat → Nat → Int64) (q : lR) : Option Value → xM → Prop := qV (fun M' => ∃ I' L', M' = MM ad nb b r I' L' ∧ FQ ri I I' L L' ∧ (∀ f, q = .inl f → RSt T e (.inl f) I' L') ∧ ∀ s, q = .inr s → YPS T e s ri I' L')
/-- the first line sets the wind; before it nothing has been told -/
def PZ (s : pS) : Prop := s.1 0 0 0 = 0 → s.1 = V00
theorem rdLn_so {so : Nat} (h0 : so ≠ 0) (h12 : so < 12) (hl : lw T e s.2.2 = so + 1) : rdLn T e s = if s.1 0 0 0 = 0 then .inl (6, tA T e s.2.2) else if rmN so ≤ s.1 0 so 0 then .inl (5, tA T e s.2.2) else rdL T e (s.1, s.2.1, nx T e s.2.2) so := by
  unfold rdLn
  rw [hl, if_neg (by omega), if_neg (by omega), Nat.add_sub_cancel]
  by_cases z : s.1 0 0 0 = 0
  · rw [if_pos ⟨by omega, z⟩, if_pos z]
  · rw [if_neg (fun y => z y.2), if_neg z]
theorem lc_begin {so cap : Nat} {F : cS → cS} (hF : ∀ f, F (.inl f) = .inl f) (h0 : so ≠ 0) (h12 : so < 12) (hl : lw T e s.2.2 = so + 1) (hZ : PZ s) (hcap : 0 < cap) (hrm : rmN so = cap) (hle : s.1 0 so 0 ≤ cap) (hk : lcur (rdL T e (s.1, s.2.1, nx T e s.2.2) so) = F (.inr (nx T e s.2.2))) : lcur (rdLn T e s) = F (cbg T e (decide (s.1 0 so 0 = cap)) (s.1 0 0 0) (.inr s.2.2)) := by
  rw [rdLn_so h0 h12 hl]
  unfold cbg
  by_cases z : s.1 0 0 0 = 0
  · have e0 : s.1 0 so 0 = 0 := by rw [hZ z]; rfl
    rw [if_pos z, if_pos z, if_neg (by rw [decide_eq_false (by omega)]; decide)]
    exact (hF _).symm
  · rw [if_neg z, if_neg z]
    by_cases y : s.1 0 so 0 = cap
    · rw [if_pos (by omega), if_pos (decide_eq_true y)]
      exact (hF _).symm
    · rw [if_neg (by omega), if_neg (by rw [decide_eq_false y]; decide)]
      exact hk
theorem lw_kd (h : lw T e a ≠ 0) : kd T e a = 1 := by
  unfold lw at h
  split at h
  · assumption
  · exact absurd rfl h
theorem RSt.s5 {f : Nat × Nat} (h : RSt T e (.inl f) I L) : I 13 0 9 = nI 5 := h.2.1
theorem YPS.st {I' : Nat → Nat → Nat → Int32} {L' : Nat → Nat → Nat → Int64} {x : Nat} (h : RSt T e (.inr x) I L) (h13 : I' 13 0 = I 13 0) (hl : L' 13 0 = L 13 0) : RSt T e (.inr x) I' L' := by
  unfold RSt YTK at h ⊢
  simp only [h13, hl]
  exact h

end M37
