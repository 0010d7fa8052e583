section M50
variable {G : xG} {ad : Nat → Nat → Nat} {nb : Nat} {b r : Option Nat} {L : Nat → Nat → Nat → Int64} {V : sV} {I : Nat → Nat → Nat → Int32} {d : Nat}
variable {T : Nat → Nat} {e a : Nat} {nm : List (Nat × Nat × Nat)} {ri : Nat} {c : cS} {s : pS} {ad' : Nat → Nat → Nat}

/-- a fault is one of the six -/
def okF {α : Type} (q : (Nat × Nat) ⊕ α) : Prop := ∀ f, q = .inl f → 1 ≤ f.1 ∧ f.1 ≤ 6
theorem okF_bd {α : Type} {q : pR} {k : Nat → (Nat × Nat) ⊕ α} (h : okF q) (hk : ∀ x, okF (k x)) : okF (bnd q k) := by
  intro f hf
  cases hq : q with
  | inl g => rw [hq] at hf h; cases hf; exact h _ rfl
  | inr x => rw [hq] at hf; exact hk x f hf
theorem okF_inr {α : Type} {x : α} : okF (.inr x : (Nat × Nat) ⊕ α) := fun f h => by cases h
theorem okF_inl {α : Type} {n m : Nat} (h : 1 ≤ n ∧ n ≤ 6) : okF (.inl (n, m) : (Nat × Nat) ⊕ α) := fun f z => by cases z; exact h
theorem okF_if {α : Type} {c : Prop} [Decidable c] {x y : (Nat × Nat) ⊕ α} (h1 : okF x) (h2 : okF y) : okF (if c then x else y) := by
  by_cases h : c
  · rw [if_pos h]; exact h1
  · rw [if_neg h]; exact h2
theorem okF_kn {so : Nat} : okF (pKnown T e nm so a) := by
  unfold pKnown
  repeat' first | exact okF_inr | exact okF_inl (by decide) | refine okF_if ?_ ?_
theorem okF_ch {k : Nat} : okF (pChoice T e k a) := by
  unfold pChoice
  repeat' first | exact okF_inr | exact okF_inl (by decide) | refine okF_if ?_ ?_
theorem okF_wh {lo hi : Nat} : okF (pWhole T e lo hi a) := by
  unfold pWhole
  repeat' first | exact okF_inr | exact okF_inl (by decide) | refine okF_if ?_ ?_
theorem okF_nw {so : Nat} : okF (pNew V T e nm so a) := by
  unfold pNew
  repeat' first | exact okF_inr | exact okF_inl (by decide) | refine okF_if ?_ ?_
theorem okF_rwl {t : Nat} : ∀ (f : Nat) (st : List Nat) (a : Nat), okF (rwl T e s t f st a)
  | 0, st, a => okF_bd okF_kn (fun _ => okF_inl (by decide))
  | f + 1, st, a => by
    show okF (bnd _ _)
    refine okF_bd okF_kn (fun x => okF_if (okF_rwl f _ _) okF_inr)
theorem okF_L {k : Nat} : okF (rdL T e s k) := by
  have hw : okF (rd_walk T e s) := by unfold rd_walk; exact okF_bd okF_kn (fun x => okF_if (okF_rwl _ _ _) (okF_inl (by decide)))
  unfold rdL rdWind rdLand rd_smell rd_place rd_path rd_leaves rd_trav rd_asked rd_whiff rd_on
  repeat' first | exact hw | exact okF_inr | exact okF_inl (by decide) | exact okF_kn | exact okF_ch | exact okF_wh | exact okF_nw | refine okF_if ?_ ?_ | refine okF_bd ?_ (fun _ => ?_)
theorem okF_ln : okF (rdLn T e s) := by
  unfold rdLn
  repeat' first | exact okF_L | exact okF_inl (by decide) | refine okF_if ?_ ?_
theorem okF_all : ∀ (f : Nat) (s : pS), okF (rdAll T e f s)
  | 0, s => okF_inr
  | f + 1, s => by
    cases h : rdLn T e s with
    | inl g => rw [rdAll_l (by omega) h]; intro q hq; cases hq; exact okF_ln _ h
    | inr s' =>
      rw [rdAll_r (by omega) h]
      refine okF_if (okF_all f _) (okF_if (okF_inl (by decide)) (okF_if (okF_inl (by decide)) okF_inr))
theorem RRL_ad3 (h : ∀ s i, ¬ (s = 12 ∧ i = nb) → ad' s i = ad s i) (hb : ∀ n, b = some n → n < nb) (hr : ∀ n, r = some n → n < nb) : RRL ad' b r = RRL ad b r := by
  have e : ∀ s, s ≠ 12 → ad' s = ad s := fun s hs => funext fun i => h s i (fun z => hs z.1)
  have eb : b.map (ad' 12) = b.map (ad 12) := by
    cases b with
    | none => rfl
    | some n => show some (ad' 12 n) = some (ad 12 n); rw [h 12 n (fun z => by have := hb n rfl; omega)]
  have er : r.map (ad' 12) = r.map (ad 12) := by
    cases r with
    | none => rfl
    | some n => show some (ad' 12 n) = some (ad 12 n); rw [h 12 n (fun z => by have := hr n rfl; omega)]
  unfold RRL
  simp only [eb, er, e 0 (by decide), e 1 (by decide), e 2 (by decide), e 3 (by decide), e 4 (by decide), e 5 (by decide), e 6 (by decide), e 7 (by decide), e 8 (by decide), e 9 (by decide), e 10 (by decide), e 14 (by decide), e 15 (by decide), e 16 (by decide), e 17 (by decide), e 18 (by decide), e 19 (by decide), e 20 (by decide), e 21 (by decide), e 22 (by decide), e 23 (by decide), e 24 (by decide), e 25 (by decide), e 26 (by decide), e 27 (by decide), e 28 (by decide), e 29 (by decide), e 30 (by decide), e 31 (by decide), e 32 (by decide), e 33 (by decide), e 34 (by decide), e 35 (by decide), e 36 (by decide), e 37 (by decide), e 38 (by decide), e 39 (by decide), e 40 (by decide), e 41 (by decide), e 42 (by decide), e 43 (by decide), e 44 (by decide), e 45 (by decide), e 46 (by decide), e 47 (by decide), e 48 (by decide), e 49 (by decide), e 50 (by decide), e 51 (by decide), e 52 (by decide), e 53 (by decide), e 54 (by decide), e 55 (by decide), e 56 (by decide), e 57 (by decide), e 58 (by decide), e 59 (by decide), e 60 (by decide), e 61 (by decide), e 62 (by decide), e 63 (by decide), e 64 (by decide), e 65 (by decide), e 66 (by decide), e 67 (by decide), e 68 (by decide), e 69 (by decide), e 70 (by decide), e 71 (by decide), e 72 (by decide), e 73 (by decide), e 74 (by decide), e 75 (by decide), e 76 (by decide), e 77 (by decide), e 78 (by decide), e 79 (by decide), e 80 (by decide), e 81 (by decide), e 82 (by decide), e 83 (by decide), e 84 (by decide), e 85 (by decide), e 86 (by decide), e 87 (by decide), e 88 (by decide), e 89 (by decide), e 90 (by decide), e 91 (by decide), e 92 (by decide), e 93 (by decide), e 94 (by decide), e 95 (by decide), e 96 (by decide), e 97 (by decide), e 98 (by decide), e 99 (by decide), e 100 (by decide), e 101 (by decide), e 102 (by decide)]
/-- new Border() of the model, before its constructor -/
theorem x_newB {y : xY} {b1 b2 pc idx : Nat} {ls : List (Nat × Option Value)} {st : List Value} {Q : xTg} (hd : decode y.2.1 pc = .ok (.new idx, 3)) (hcl : Cond.classLink y.1.cls idx "SmellCustomsModel$Border" ∈ xTBL) (hb : ∀ n, b = some n → n < nb) (hr : ∀ n, r = some n → n < nb) (kk : ∀ ad', (∀ s i, ¬ (s = 12 ∧ i = nb) → ad' s i = ad s i) → X G y d (b1, b2) (pc + 3) ls (.ref (ad' 12 nb) :: st) (CB ad' nb 0 b r (zU 0 I 12 nb) (zU 0 L 12 nb)) Q) : X G y d (b1 + 1, b2 + 33) pc ls st (MM ad nb b r I L) Q := by
  refine x_newobj (g := 12) (cn := 12) (T := TX12) hd hcl (xm6 141 rfl rfl) (xm1 20 rfl rfl) rfl rfl (by decide +kernel) rfl (fun q => ?_)
  have hA : ∀ s i, ¬ (s = 12 ∧ i = nb) → (fun a b => if a = 12 ∧ b = nb then q else ad a b) s i = ad s i := fun s i h => if_neg h
  have hAq : (fun a b => if a = 12 ∧ b = nb then q else ad a b) 12 nb = q := if_pos ⟨rfl, rfl⟩
  generalize (fun a b => if a = 12 ∧ b = nb then q else ad a b) = ad9 at hA hAq
  have k2 := kk ad9 hA
  rw [hAq] at k2
  refine x_same (fun s => ?_) (fun s i hi => ?_) (fun s i hi => ?_) (fun s i hi => ?_) (fun s i hi => ?_) k2
  · show CBC nb 0 s = if s = 12 then nb + 1 else CC nb s
    unfold CBC
    by_cases e : s = 12
    · rw [if_pos e, if_pos (by omega)]
    · rw [if_neg e, if_neg (by omega)]
  · show ad9 s i = if s = 12 ∧ i = nb then q else ad s i
    by_cases e : s = 12 ∧ i = nb
    · rw [if_pos e, e.1, e.2]; exact hAq
    · rw [if_neg e]; exact hA s i e
  · rfl
  · rfl
  · funext j
    show CBR ad9 b r nb 0 s i j = if s = 12 ∧ i = nb then none else RR ad b r s i j
    unfold CBR
    by_cases e : s = 12 ∧ i = nb
    · rw [if_pos e]
      by_cases m : 13 + 0 ≤ j
      · rw [if_pos ⟨e.1, e.2, m⟩]
      · rw [if_neg (fun z => m z.2.2), e.1, RR_12, if_neg (by omega)]
    · rw [if_neg e, if_neg (fun z => e ⟨z.1, z.2.1⟩)]
      unfold RR
      rw [RRL_ad3 hA hb hr]
theorem YB_0 (h12 : ∀ k, I 12 ri k = 0) (h : ∀ s j, 64 ≤ s → s ≤ 80 → I s ri j = 0) : YB V00 ri I := by
  have z : ∀ a c d, nI (V00 a c d) = 0 := fun _ _ _ => nI_0
  refine ⟨⟨fun k _ => by rw [h12, z], by rw [h12, z], by rw [h12, z], by rw [h12, z], by rw [h12, z]⟩, fun l hl => absurd hl (Nat.not_lt_zero _), fun l hl => absurd hl (Nat.not_lt_zero _), fun l hl => absurd hl (Nat.not_lt_zero _), fun l hl => absurd hl (Nat.not_lt_zero _), fun q w _ _ => ?_, fun l hl => absurd hl (Nat.not_lt_zero _), fun q w _ _ => ?_, fun q _ => ?_, fun q w _ hw => absurd hw (Nat.not_lt_zero _), fun l hl => absurd hl (Nat.not_lt_zero _), fun q _ hw => absurd hw (Nat.lt_irrefl 0)⟩
  · rw [h 70 _ (by decide) (by decide), h 71 _ (by decide) (by decide), z, z]; exact ⟨rfl, rfl⟩
  · rw [h 75 _ (by decide) (by decide), z]
  · rw [h 76 _ (by decide) (by decide), z]
theorem YNm_0 (h12 : ∀ k, I 12 ri k = 0) : YNm T e [] ri I L := ⟨by rw [h12]; exact nI_0.symm, Nat.zero_le _, fun i q hq => by cases i <;> cases hq⟩
theorem YB.smB {bi : Nat} {I' : Nat → Nat → Nat → Int32} (h : YB V bi I) (hs : ∀ s, s = 12 ∨ (64 ≤ s ∧ s ≤ 80) → I' s bi = I s bi) : YB V bi I' := by
  unfold YB at h ⊢
  simp only [hs 12 (by omega), hs 64 (by omega), hs 65 (by omega), hs 66 (by omega), hs 67 (by omega), hs 68 (by omega), hs 69 (by omega), hs 70 (by omega), hs 71 (by omega), hs 72 (by omega), hs 73 (by omega), hs 74 (by omega), hs 75 (by omega), hs 76 (by omega), hs 77 (by omega), hs 78 (by omega), hs 79 (by omega), hs 80 (by omega)]
  exact h


/-- what stands in v of the first t travellers -/
def VF (V : sV) (t : Nat) (I I1 : Nat → Nat → Nat → Int32) : Prop := (∀ s, s ≠ 85 → I1 s = I s) ∧ ∀ u, u < t → (∀ s, s < 6 → I1 85 0 (6 * u + s) = nI (2 * V 12 u s)) ∧ (u < V 0 7 0 → I1 85 0 (24 + u) = nI (V 11 u 0)) ∧ I1 85 0 (28 + u) = nI 0 ∧ I1 85 0 (32 + u) = nI 0
/-- and the first s smells of the next -/
def VG (V : sV) (t s : Nat) (I I1 : Nat → Nat → Nat → Int32) : Prop := VF V t I I1 ∧ ∀ w, w < s → I1 85 0 (6 * t + w) = nI (2 * V 12 t w)
theorem VF.n0 {I1 : Nat → Nat → Nat → Int32} (h : VF V 4 I I1) (h7 : V 0 7 0 ≤ 4) : YN V (N0 V) I1 := by
  intro t ht
  obtain ⟨a1, a2, a3, a4⟩ := h.2 t (by omega)
  refine ⟨fun s hs => ?_, ?_, ?_, ?_⟩
  · rw [a1 s hs]; show _ = nI (if 3 + s = 0 then _ else if 3 + s < 3 then 0 else 2 * V 12 t (3 + s - 3)); rw [if_neg (by omega), if_neg (by omega), Nat.add_sub_cancel_left]
  · rw [a2 ht]; rfl
  · rw [a3]; rfl
  · rw [a4]; rfl

set_option maxRecDepth 100000 in
set_option maxHeartbeats 600000 in
theorem lp_mbi {qq : Option Value → xM → Prop} {t : Nat} (ht : t < 4) {z : Int32} (hV : VW V) {bi : Nat} (hb : b = some bi) (hbn : bi < nb) (hB : YB V bi I) (K : ∀ I1, VG V t 6 I I1 → X G vX13_border (d + 1) (0, 0) 145 [(0, some (.ref (ad 13 0))), (1, some (.int z)), (2, some (.int (nI t)))] [] (MM ad nb b r I1 L) (xT G qq))  : ∀ (n : Nat) (s : Nat) (I1 : Nat → Nat → Nat → Int32), 6 - s < n → s ≤ 6 → VG V t s I I1 → X G vX13_border (d + 1) (0, 0) 106 [(0, some (.ref (ad 13 0))), (1, some (.int (z))), (2, some (.int (nI (t)))), (3, some (.int (nI (s))))] [] (MM ad nb b r I1 L) (xT G (qq)) := by
  intro n
  induction n with
  | zero => intro s I1 h0; omega
  | succ n ih =>
    intro s I1 hn hs6 hG
    have hB1 := hB.sm (I' := I1) (fun q hq => hG.1.1 q (by omega))
    refine x_iload_n dX13_border_106 rfl ?_
    refine x_bipush dX13_border_107 lb_6 ?_
    refine x_icN_ge 145 dX13_border_109 (by decide) (by omega) (by omega) (fun h109 => ?_) (fun h109 => ?_)
    · obtain rfl : s = 6 := by omega
      refine x_ls ?_ (K I1 hG)
      exact ⟨rfl, rfl, rfl, trivial⟩
    · refine x_aload_n dX13_border_112 rfl ?_
      refine g_M_v fX13_17 dX13_border_113 ?_
      refine x_bipush dX13_border_116 lb_6 ?_
      refine x_iload_n dX13_border_118 rfl ?_
      refine x_imulN dX13_border_119 ?_
      refine x_iload_n dX13_border_120 rfl ?_
      refine x_iaddN dX13_border_121 ?_
      refine x_iconst dX13_border_122 li_2 ?_
      refine x_aload_n dX13_border_123 rfl ?_
      refine g_M_border hb fX13_397 dX13_border_124 ?_
      refine g_MB_on fX13_368 dX13_border_127 hbn ?_
      refine x_bipush dX13_border_130 lb_6 ?_
      refine x_iload_n dX13_border_132 rfl ?_
      refine x_imulN dX13_border_133 ?_
      refine x_iload_n dX13_border_134 rfl ?_
      refine x_iaddN dX13_border_135 ?_
      refine x_iald dX13_border_136 rfl rfl hbn (by first | exact Nat.le_of_ble_eq_true rfl | assumption | omega) ?_
      refine x_top (y75 hB1 (by omega) (by omega)) ?_
      refine x_imulN dX13_border_137 ?_
      refine x_iast dX13_border_138 rfl rfl (Nat.le_of_ble_eq_true rfl) (by first | exact Nat.le_of_ble_eq_true rfl | assumption | omega) ?_
      refine x_iincN 1 dX13_border_139 li_1 rfl (by decide) rfl ?_
      refine x_goto 106 dX13_border_142 (by decide) ?_
      refine x_ls ?_ (ih (s + 1) _ (by omega) (by omega) ⟨⟨fun q hq => ?_, fun u hu => ?_⟩, fun w hw => ?_⟩)
      · exact ⟨rfl, rfl, rfl, rfl, trivial⟩
      · funext x y; rw [xu_ns hq, hG.1.1 q hq]
      · obtain ⟨a1, a2, a3, a4⟩ := hG.1.2 u hu
        refine ⟨fun w hw => ?_, fun h7 => ?_, ?_, ?_⟩
        · rw [xu_nk (by omega)]; exact a1 w hw
        · rw [xu_nk (by omega)]; exact a2 h7
        · rw [xu_nk (by omega)]; exact a3
        · rw [xu_nk (by omega)]; exact a4
      · by_cases q : w = s
        · subst q; rw [xu_s]
        · rw [xu_nk (by omega)]; exact hG.2 w (by omega)
set_option maxRecDepth 100000 in
set_option maxHeartbeats 600000 in
theorem lp_mbo {z : Int32} (hV : VW V) {bi : Nat} (hb : b = some bi) (hbn : bi < nb) (hB : YB V bi I)  : ∀ (n : Nat) (t : Nat) (I1 : Nat → Nat → Nat → Int32), 4 - t < n → t ≤ 4 → VF V t I I1 → X G vX13_border (d + 1) (0, 0) 99 [(0, some (.ref (ad 13 0))), (1, some (.int (z))), (2, some (.int (nI (t))))] [] (MM ad nb b r I1 L) (xT G (qI (fun rr M' => rr = nI (V 0 4 0) ∧ ∃ I', M' = MM ad nb b r I' L ∧ YN V (N0 V) I' ∧ (∀ s, s ≠ 13 → s ≠ 85 → I' s = I s) ∧ (I' 13 0 1 = nI 0 ∧ I' 13 0 2 = -1 ∧ I' 13 0 19 = nI 0 ∧ I' 13 0 20 = nI 0) ∧ ∀ k, k ≠ 1 → k ≠ 2 → k ≠ 19 → k ≠ 20 → I' 13 0 k = I 13 0 k))) := by
  intro n
  induction n with
  | zero => intro t I1 h0; omega
  | succ n ih =>
    intro t I1 hn ht4 hF
    refine x_iload_n dX13_border_99 rfl ?_
    refine x_iconst dX13_border_100 li_4 ?_
    refine x_icN_ge 189 dX13_border_101 (by decide) (by omega) (by omega) (fun h101 => ?_) (fun h101 => ?_)
    · obtain rfl : t = 4 := by omega
      have hB1 := hB.sm (I' := I1) (fun q hq => hF.1 q (by omega))
      have v7 := hV.2.2.2.2.2.2.2.1
      refine x_aload_n dX13_border_189 rfl ?_
      refine x_iconst dX13_border_190 li_0 ?_
      refine p_M_acts fX13_399 dX13_border_191 ?_
      refine x_aload_n dX13_border_194 rfl ?_
      refine x_iconst dX13_border_195 li_0 ?_
      refine p_M_marks fX13_402 dX13_border_196 ?_
      refine x_aload_n dX13_border_199 rfl ?_
      refine x_aload_n dX13_border_200 rfl ?_
      refine g_M_border hb fX13_397 dX13_border_201 ?_
      refine g_MB_places fX13_230 dX13_border_204 hbn ?_
      rw [xu_ns (by decide), xu_ns (by decide)]
      refine x_top (y12_4 hB1) ?_
      refine x_cvi (m_good (d := d)) kX13_82 dX13_border_207 rfl (Nat.le_of_ble_eq_true rfl) rfl rfl (Nat.le_of_ble_eq_true rfl) (fun ru Mu hq => ?_)
      obtain ⟨rfl, rfl⟩ := hq
      refine x_iret dX13_border_210 rfl ?_
      refine ⟨_, rfl, rfl, _, rfl, (hF.n0 v7).sm (by funext x y; unfold mG; rw [xu_ns (by decide), xu_ns (by decide), xu_ns (by decide), xu_ns (by decide)]), fun s h1 h2 => ?_, ⟨?_, ?_, ?_, ?_⟩, fun k k1 k2 k3 k4 => ?_⟩
      · funext x y; unfold mG; rw [xu_ns h1, xu_ns h1, xu_ns h1, xu_ns h1, hF.1 s h2]
      · unfold mG; rw [xu_nk (by decide), xu_s]
      · unfold mG; rw [xu_s]
      · unfold mG; rw [xu_nk (by decide), xu_nk (by decide), xu_nk (by decide), xu_s]
      · unfold mG; rw [xu_nk (by decide), xu_nk (by decide), xu_s]
      · unfold mG; rw [xu_nk k2, xu_nk k1, xu_nk k4, xu_nk k3, hF.1 13 (by decide)]
    · refine x_iconst dX13_border_104 li_0 ?_
      refine x_istore_n dX13_border_105 (by decide) rfl ?_
      refine x_ls ?_ (lp_mbi (d := d) (z := z) (by omega : t < 4) hV hb hbn hB (fun I2 hG => ?_) 7 0 I1 (by decide) (by decide) ⟨hF, fun w hw => absurd hw (Nat.not_lt_zero w)⟩)
      · exact ⟨rfl, rfl, rfl, rfl, trivial⟩
      have hB2 := hB.sm (I' := I2) (fun q hq => hG.1.1 q (by omega))
      refine x_aload_n dX13_border_145 rfl ?_
      refine g_M_v fX13_17 dX13_border_146 ?_
      refine x_bipush dX13_border_149 lb_24 ?_
      refine x_iload_n dX13_border_151 rfl ?_
      refine x_iaddN dX13_border_152 ?_
      refine x_aload_n dX13_border_153 rfl ?_
      refine g_M_border hb fX13_397 dX13_border_154 ?_
      refine g_MB_at fX13_363 dX13_border_157 hbn ?_
      refine x_iload_n dX13_border_160 rfl ?_
      refine x_iald dX13_border_161 rfl rfl hbn (by first | exact Nat.le_of_ble_eq_true rfl | assumption | omega) ?_
      refine x_iast dX13_border_162 rfl rfl (Nat.le_of_ble_eq_true rfl) (by first | exact Nat.le_of_ble_eq_true rfl | assumption | omega) ?_
      refine x_aload_n dX13_border_163 rfl ?_
      refine g_M_v fX13_17 dX13_border_164 ?_
      refine x_bipush dX13_border_167 lb_28 ?_
      refine x_iload_n dX13_border_169 rfl ?_
      refine x_iaddN dX13_border_170 ?_
      refine x_iconst dX13_border_171 li_0 ?_
      refine x_iast dX13_border_172 rfl rfl (Nat.le_of_ble_eq_true rfl) (by first | exact Nat.le_of_ble_eq_true rfl | assumption | omega) ?_
      refine x_aload_n dX13_border_173 rfl ?_
      refine g_M_v fX13_17 dX13_border_174 ?_
      refine x_bipush dX13_border_177 lb_32 ?_
      refine x_iload_n dX13_border_179 rfl ?_
      refine x_iaddN dX13_border_180 ?_
      refine x_iconst dX13_border_181 li_0 ?_
      refine x_iast dX13_border_182 rfl rfl (Nat.le_of_ble_eq_true rfl) (by first | exact Nat.le_of_ble_eq_true rfl | assumption | omega) ?_
      refine x_iincN 1 dX13_border_183 li_1 rfl (by decide) rfl ?_
      refine x_goto 99 dX13_border_186 (by decide) ?_
      refine x_ls ?_ (ih (t + 1) _ (by omega) (by omega) ⟨fun q hq => ?_, fun u hu => ?_⟩)
      · exact ⟨rfl, rfl, rfl, trivial⟩
      · funext x y; rw [xu_ns hq, xu_ns hq, xu_ns hq, hG.1.1 q hq]
      · by_cases q : u = t
        · subst q
          refine ⟨fun w hw => ?_, fun h7 => ?_, ?_, ?_⟩
          · rw [xu_nk (by omega), xu_nk (by omega), xu_nk (by omega)]; exact hG.2 w hw
          · rw [xu_nk (by omega), xu_nk (by omega), xu_s]; exact y74 hB2 h7
          · rw [xu_nk (by omega), xu_s]
          · rw [xu_s]
        · obtain ⟨a1, a2, a3, a4⟩ := hG.1.2 u (by omega)
          refine ⟨fun w hw => ?_, fun h7 => ?_, ?_, ?_⟩
          · rw [xu_nk (by omega), xu_nk (by omega), xu_nk (by omega)]; exact a1 w hw
          · rw [xu_nk (by omega), xu_nk (by omega), xu_nk (by omega)]; exact a2 h7
          · rw [xu_nk (by omega), xu_nk (by omega), xu_nk (by omega)]; exact a3
          · rw [xu_nk (by omega), xu_nk (by omega), xu_nk (by omega)]; exact a4
end M50
