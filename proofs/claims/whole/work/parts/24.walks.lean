section Walks
variable {G : xG} {ad : Nat → Nat → Nat} {nb : Nat} {b r : Option Nat} {L : Nat → Nat → Nat → Int64} {V : sV} {I : Nat → Nat → Nat → Int32} {d : Nat}

theorem skl_le {m : Nat} (hV : VW V) (hm : m ≤ V 0 3 0) : skl V m ≤ 60 := by
  unfold skl
  split
  · omega
  · exact (hV.2.2.2.2.2.2.2.2.2.2.2.2.2.2.1 (m - 1) (by omega)).2
/-- DUTY at a place p behind H hours, by nose m - 1 (0: none) -/
def dtn (V : sV) (f : Nat → Nat) (sort H p m : Nat) : Nat := if skl V m = 0 then 0 else tol V (str V f H 0) sort p (skl V m)
/-- a walk: where he is before the i-th stop, whether the first n paths are, their hours, the duties -/
def pb (V : sV) (p0 t i : Nat) : Nat := if i = 0 then p0 else V 14 t (i - 1)
def cw (V : sV) (p0 t : Nat) : Nat → Bool
  | 0 => true
  | n + 1 => cw V p0 t n && decide (0 < V 7 (pb V p0 t n) (V 14 t n))
def wh (V : sV) (p0 t : Nat) : Nat → Nat
  | 0 => 0
  | n + 1 => wh V p0 t n + V 7 (pb V p0 t n) (V 14 t n)
def wd (V : sV) (f : Nat → Nat) (nz : Nat → Nat) (p0 t i : Nat) : Nat := dtn V f (V 9 t 0) (wh V p0 t (i + 1)) (V 14 t i) (nz (V 14 t i))
def wt (V : sV) (f : Nat → Nat) (nz : Nat → Nat) (p0 t : Nat) : Nat → Nat
  | 0 => 0
  | n + 1 => wt V f nz p0 t n + wd V f nz p0 t n
theorem wh_le {p0 t : Nat} (hV : VW V) : ∀ n, wh V p0 t n ≤ 40 * n
  | 0 => by simp [wh]
  | n + 1 => by
    have := wh_le (p0 := p0) (t := t) hV n
    have := hV.2.2.2.2.2.2.2.2.2.2.2.2.2.2.2.2.1 (pb V p0 t n) (V 14 t n)
    unfold wh
    omega
/-- a row of noses, by places: number and one more -/
def NZ (V : sV) (nz : Nat → Nat) (h j : Nat) (I : Nat → Nat → Nat → Int32) : Prop := ∀ p, p < V 0 4 0 → I h j p = nO (-2) (nz p) ∧ nz p ≤ V 0 3 0
theorem cw_f {p0 t k : Nat} (h : cw V p0 t k = false) : ∀ n, k ≤ n → cw V p0 t n = false
  | 0, hn => by rw [Nat.le_zero.mp hn] at h; exact h
  | n + 1, hn => by
    by_cases e : k = n + 1
    · rw [← e]; exact h
    · unfold cw; rw [cw_f h n (by omega)]; rfl

set_option maxRecDepth 100000 in
set_option maxHeartbeats 4000000 in
theorem c_follow (hV : VW V) (hB : XB V 0 I) {t h j : Nat} {f nz : Nat → Nat} (ht : t < V 0 7 0) (hp : PR I t f) (hf0 : f 0 < V 0 4 0) (hf : ∀ s, s < 6 → f (3 + s) ≤ 198) (hh : xsh h = .inl (0, 6)) (hh1 : h = 22 ∨ h = 61) (hj : j < CC nb h) (hz : NZ V nz h j I) : Mt G vX9_follow (d + 2 + 1) (0, 0) [.ref (ad 9 0), .int (nI (t)), .ref (ad h j)] (MM ad nb b r I L) (qI (fun rr M' => rr = bI (cw V (f 0) t (V 13 t 0)) ∧ ∃ I', M' = MM ad nb b r I' L ∧ Sm (fun s => s = 9 ∨ s = 47 ∨ s = 1 ∨ s = 41) I I' ∧ (cw V (f 0) t (V 13 t 0) = true → I' 9 0 4 = nI (wt V (fun s => f (3 + s)) nz (f 0) t (V 13 t 0)) ∧ ∀ i, i < V 13 t 0 → I' 47 0 i = nI (wd V (fun s => f (3 + s)) nz (f 0) t i)))) := by
  have ht4 := hV.2.2.2.2.2.2.2.1
  have hp6 := hV.2.2.2.2.1
  have hwl := hV.2.2.2.2.2.2.2.2.2.2.2.2.2.2.2.2.2.2.2.2.1 t
  have hst := fun i => hV.2.2.2.2.2.2.2.2.2.2.2.2.2.2.2.2.2.2.2.2.2.1 t i
  have hso := (hV.2.2.2.2.2.2.2.2.2.2.2.2.2.2.2.2.2.2.1 t ht).1
  have loop27 : ∀ (n : Nat) (k pk : Nat) (I1 : Nat → Nat → Nat → Int32), V 13 t 0 - k < n → k ≤ V 13 t 0 → pk = pb V (f 0) t k → (∀ i, i < k → I1 47 0 i = nI (wd V (fun s => f (3 + s)) nz (f 0) t i)) ∧ I1 9 0 4 = nI (wt V (fun s => f (3 + s)) nz (f 0) t k) ∧ Sm (fun s => s = 9 ∨ s = 47 ∨ s = 1 ∨ s = 41) I I1 ∧ cw V (f 0) t k = true → X G vX9_follow (d + 2 + 1) (0, 0) 27 [(0, some (.ref (ad 9 0))), (1, some (.int (nI (t)))), (2, some (.ref (ad h j))), (3, some (.ref (ad 4 t))), (4, some (.int (nI (pk)))), (5, some (.int (nI (wh V (f 0) t k)))), (6, some (.int (nI (k))))] [] (MM ad nb b r I1 L) (xT G (qI (fun rr M' => rr = bI (cw V (f 0) t (V 13 t 0)) ∧ ∃ I', M' = MM ad nb b r I' L ∧ Sm (fun s => s = 9 ∨ s = 47 ∨ s = 1 ∨ s = 41) I I' ∧ (cw V (f 0) t (V 13 t 0) = true → I' 9 0 4 = nI (wt V (fun s => f (3 + s)) nz (f 0) t (V 13 t 0)) ∧ ∀ i, i < V 13 t 0 → I' 47 0 i = nI (wd V (fun s => f (3 + s)) nz (f 0) t i))))) := by
    intro n
    induction n with
    | zero => intro k pk I1 h0; omega
    | succ n ih =>
      intro k pk I1 hn hk0 hpk hi
      obtain ⟨hi1, hi2, hi3, hi4⟩ := hi
      have hB1 : XB V 0 I1 := hB.sm (fun s h1 h2 => hi3 s (by omega))
      have el : I1 26 0 t = nI (V 13 t 0) := hB1.2.2.2.2.2.2.1 t (by omega)
      have hpb : pk < V 0 4 0 := by
        rw [hpk]
        unfold pb
        split
        · exact hf0
        · exact hst (k - 1) (by omega)
      have hwh := wh_le (p0 := f 0) (t := t) hV (k + 1)
      refine x_iload dX9_follow_27 rfl ?_
      refine x_aload_n dX9_follow_29 rfl ?_
      refine g_Walks_border fX9_15 dX9_follow_30 ?_
      refine g_Border_walkLength fX9_42 dX9_follow_33 (by first | exact Nat.le_of_ble_eq_true rfl | assumption | omega) ?_
      refine x_iload_n dX9_follow_36 rfl ?_
      refine x_iald dX9_follow_37 rfl rfl (Nat.lt_of_lt_of_le (by first | assumption | omega | decide) (Nat.le_refl 2)) (by first | exact Nat.le_of_ble_eq_true rfl | assumption | omega) ?_
      rw [el]
      refine x_icN_ge 159 dX9_follow_38 (by decide) (by omega) (by omega) (fun h38 => ?_) (fun h38 => ?_)
      · refine x_iconst dX9_follow_159 li_1 ?_
        refine x_zret dX9_follow_160 rfl rfl ?_
        have hkn : k = V 13 t 0 := Nat.le_antisymm hk0 h38
        subst hkn
        exact ⟨_, rfl, bI_1 hi4, _, rfl, hi3, fun _ => ⟨hi2, hi1⟩⟩
      · refine x_aload_n dX9_follow_41 rfl ?_
        refine g_Walks_border fX9_15 dX9_follow_42 ?_
        refine g_Border_walk fX9_47 dX9_follow_45 (by first | exact Nat.le_of_ble_eq_true rfl | assumption | omega) ?_
        refine x_iload_n dX9_follow_48 rfl ?_
        refine aa_Border_walk0 dX9_follow_49 rfl (by first | exact Nat.le_of_ble_eq_true rfl | assumption | omega) ?_
        refine x_iload dX9_follow_50 rfl ?_
        refine x_iald dX9_follow_52 rfl rfl (Nat.lt_of_lt_of_le (by first | assumption | omega | decide) (Nat.le_refl 8)) (by first | exact Nat.le_of_ble_eq_true rfl | assumption | omega) ?_
        have hstk := hst k h38
        have es : I1 37 t k = nI (V 14 t k) := hB1.2.2.2.2.2.2.2.2.2.2.2 t k (by omega) h38
        rw [es]
        refine x_istore dX9_follow_53 (by decide) rfl ?_
        refine x_aload_n dX9_follow_55 rfl ?_
        refine g_Walks_border fX9_15 dX9_follow_56 ?_
        refine g_Border_hours fX9_51 dX9_follow_59 (by first | exact Nat.le_of_ble_eq_true rfl | assumption | omega) ?_
        refine x_iload dX9_follow_62 rfl ?_
        refine aa_Border_hours0 dX9_follow_64 rfl (by first | exact Nat.le_of_ble_eq_true rfl | assumption | omega) ?_
        refine x_iload dX9_follow_65 rfl ?_
        refine x_iald dX9_follow_67 rfl rfl (Nat.lt_of_lt_of_le (by first | assumption | omega | decide) (Nat.le_refl 12)) (by first | exact Nat.le_of_ble_eq_true rfl | assumption | omega) ?_
        have eh : I1 31 pk (V 14 t k) = nI (V 7 pk (V 14 t k)) := (hB1.2.2.2.2.2.2.2.2.2.1 _ _ (by omega) (by omega)).1
        have h40 := hV.2.2.2.2.2.2.2.2.2.2.2.2.2.2.2.2.1 pk (V 14 t k)
        rw [eh]
        refine x_istore dX9_follow_68 (by decide) rfl ?_
        refine x_iload dX9_follow_70 rfl ?_
        refine x_ifN_ne 77 dX9_follow_72 (by decide) (by omega) (fun h72 => ?_) (fun h72 => ?_)
        · have hc1 : cw V (f 0) t (k + 1) = true := by unfold cw; rw [hi4, ← hpk]; simp [h72]
          refine x_iload dX9_follow_77 rfl ?_
          refine x_istore dX9_follow_79 (by decide) rfl ?_
          refine x_iload dX9_follow_81 rfl ?_
          refine x_iload dX9_follow_83 rfl ?_
          refine x_iaddN dX9_follow_85 ?_
          refine x_top (v := nI (wh V (f 0) t (k + 1))) (by rw [wh, hpk]) ?_
          refine x_istore dX9_follow_86 (by decide) rfl ?_
          refine x_aload_n dX9_follow_88 rfl ?_
          refine g_Walks_air fX9_19 dX9_follow_89 ?_
          refine x_aload_n dX9_follow_92 rfl ?_
          refine g_Person_halves fX9_54 dX9_follow_93 (by first | exact Nat.le_of_ble_eq_true rfl | assumption | omega) ?_
          refine x_iload dX9_follow_96 rfl ?_
          refine x_iconst dX9_follow_98 li_0 ?_
          refine x_cvv (c_take (h := 43) (j := t) (f := fun s => f (3 + s)) rfl (by decide) (Nat.lt_of_lt_of_le (show t < 4 by omega) (Nat.le_of_ble_eq_true rfl)) hV hB1 (fun s hs => ⟨by rw [hi3 43 (by omega)]; exact hp.2 s hs, hf s hs⟩) (by omega) (by omega)) kX9_57 dX9_follow_99 rfl (Nat.le_of_ble_eq_true rfl) rfl rfl (Nat.le_of_ble_eq_true rfl) (fun M2 hq => ?_)
          obtain ⟨I2, rfl, hA2, hS2⟩ := hq
          have hB2 : XB V 0 I2 := hB1.sm (fun s h1 h2 => hS2 s (by omega))
          have hz2 := hz _ hstk
          have hsk := skl_le hV hz2.2
          refine x_aload_n dX9_follow_102 rfl ?_
          refine g_Walks_askedAt fX9_9 dX9_follow_103 ?_
          refine x_iload dX9_follow_106 rfl ?_
          refine x_aload_n dX9_follow_108 rfl ?_
          refine g_Walks_air fX9_19 dX9_follow_109 ?_
          refine x_aload_n dX9_follow_112 rfl ?_
          refine g_Walks_border fX9_15 dX9_follow_113 ?_
          refine g_Border_sort fX9_63 dX9_follow_116 (by first | exact Nat.le_of_ble_eq_true rfl | assumption | omega) ?_
          refine x_iload_n dX9_follow_119 rfl ?_
          refine x_iald dX9_follow_120 rfl rfl (Nat.lt_of_lt_of_le (by first | assumption | omega | decide) (Nat.le_refl 2)) (by first | exact Nat.le_of_ble_eq_true rfl | assumption | omega) ?_
          have eso : I2 23 0 t = nI (V 9 t 0) := (hB2.2.2.2.2.2.1 t ht).1
          rw [eso]
          refine x_iload dX9_follow_121 rfl ?_
          refine x_aload_n dX9_follow_123 rfl ?_
          refine g_Walks_border fX9_15 dX9_follow_124 ?_
          refine x_iload dX9_follow_127 rfl ?_
          refine x_aload_n dX9_follow_129 rfl ?_
          refine x_cvi (c_skillAt (h := h) (j := j) hV hB2 hh hj (by omega) (by rw [hS2 h (by omega), hi3 h (by omega)]; exact hz2.1) hz2.2) kX9_66 dX9_follow_130 rfl (Nat.le_of_ble_eq_true rfl) rfl rfl (Nat.le_of_ble_eq_true rfl) (fun ru Mu hq => ?_)
          obtain ⟨rfl, rfl⟩ := hq
          refine x_cvi (c_toll hV hB2 hA2 (fun s hs => str_le (hf s hs)) hso hstk hsk) kX9_70 dX9_follow_133 rfl (Nat.le_of_ble_eq_true rfl) rfl rfl (Nat.le_of_ble_eq_true rfl) (fun ru Mu hq => ?_)
          obtain ⟨rfl, rfl⟩ := hq
          refine x_top (v := nI (wd V (fun s => f (3 + s)) nz (f 0) t k)) rfl ?_
          refine x_iast dX9_follow_136 rfl rfl (Nat.le_of_ble_eq_true rfl) (by first | exact Nat.le_of_ble_eq_true rfl | assumption | omega) ?_
          refine x_aload_n dX9_follow_137 rfl ?_
          refine x_dup dX9_follow_138 rfl ?_
          refine g_Walks_total fX9_39 dX9_follow_139 ?_
          have et : xu I2 47 0 k (nI (wd V (fun s => f (3 + s)) nz (f 0) t k)) 9 0 4 = nI (wt V (fun s => f (3 + s)) nz (f 0) t k) := by rw [xu_ns (by decide), hS2 9 (by omega)]; exact hi2
          rw [et]
          refine x_aload_n dX9_follow_142 rfl ?_
          refine g_Walks_askedAt fX9_9 dX9_follow_143 ?_
          refine x_iload dX9_follow_146 rfl ?_
          refine x_iald dX9_follow_148 rfl rfl (Nat.le_of_ble_eq_true rfl) (by first | exact Nat.le_of_ble_eq_true rfl | assumption | omega) ?_
          rw [xu_s]
          refine x_iaddN dX9_follow_149 ?_
          refine p_Walks_total fX9_39 dX9_follow_150 ?_
          refine x_iincN 1 dX9_follow_153 li_1 rfl (by decide) rfl ?_
          refine x_goto 27 dX9_follow_156 (by decide) ?_
          refine x_ls ?_ (ih (k + 1) (V 14 t k) _ (by omega) (by omega) rfl ⟨?_, ?_, ?_, hc1⟩)
          · exact ⟨rfl, rfl, rfl, rfl, rfl, rfl, rfl, trivial⟩
          · intro i hi
            rw [xu_ns (by decide), xu_at]
            by_cases e : i = k
            · rw [if_pos e, e]
            · rw [if_neg e, hS2 47 (by omega)]; exact hi1 i (by omega)
          · rw [xu_s]; rfl
          · exact Sm.xu (Sm.xu (hi3.tr (hS2.wk (fun s h => by omega))) (Or.inr (Or.inl rfl))) (Or.inl rfl)
        · refine x_iconst dX9_follow_75 li_0 ?_
          refine x_zret dX9_follow_76 rfl rfl ?_
          have hc0 : cw V (f 0) t (k + 1) = false := by unfold cw; rw [← hpk, h72]; simp
          have hc2 := cw_f hc0 (V 13 t 0) (by omega)
          exact ⟨_, rfl, bI_0 (by rw [hc2]; simp), _, rfl, hi3, fun z => by rw [hc2] at z; cases z⟩
  refine x_start (by decide) (Nat.le_of_ble_eq_true rfl) ?_
  refine x_aload_n dX9_follow_0 rfl ?_
  refine g_Walks_acts fX9_23 dX9_follow_1 ?_
  refine g_Acts_now fX9_27 dX9_follow_4 ?_
  refine x_iload_n dX9_follow_7 rfl ?_
  refine aa_Acts_now dX9_follow_8 rfl (by first | exact Nat.le_of_ble_eq_true rfl | assumption | omega) ?_
  refine x_astore_n dX9_follow_9 (by decide) rfl ?_
  refine x_aload_n dX9_follow_10 rfl ?_
  refine g_Person_place fX9_33 dX9_follow_11 (by first | exact Nat.le_of_ble_eq_true rfl | assumption | omega) ?_
  rw [hp.1 0 (by omega)]
  refine x_istore dX9_follow_14 (by decide) rfl ?_
  refine x_iconst dX9_follow_16 li_0 ?_
  refine x_istore dX9_follow_17 (by decide) rfl ?_
  refine x_aload_n dX9_follow_19 rfl ?_
  refine x_iconst dX9_follow_20 li_0 ?_
  refine p_Walks_total fX9_39 dX9_follow_21 ?_
  refine x_iconst dX9_follow_24 li_0 ?_
  refine x_istore dX9_follow_25 (by decide) rfl ?_
  refine x_ls ?_ (loop27 (V 13 t 0 + 1) 0 (f 0) _ (by omega) (by omega) rfl ⟨fun i hi => absurd hi (Nat.not_lt_zero i), xu_s, Sm.xu Sm.rf (Or.inl rfl), rfl⟩)
  exact ⟨rfl, rfl, rfl, rfl, rfl, rfl, rfl, trivial⟩
end Walks
