section M44
variable {G : xG} {ad : Nat → Nat → Nat} {nb : Nat} {b r : Option Nat} {L : Nat → Nat → Nat → Int64} {V : sV} {I : Nat → Nat → Nat → Int32} {d : Nat}

variable {T : Nat → Nat} {e a : Nat} {nm : List (Nat × Nat × Nat)} {ri : Nat} {c : cS} {s : pS}
theorem fst_app {P Q : Nat → Bool} : ∀ (n k : Nat), (∀ i, i < n → Q (k + i) = P (k + i)) → (fst P k n < n → fst Q k (n + 1) = fst P k n) ∧ (¬ fst P k n < n → n ≤ fst Q k (n + 1))
  | 0, k, _ => ⟨fun h => absurd h (by omega), fun _ => Nat.zero_le _⟩
  | n + 1, k, h => by
    obtain ⟨i1, i2⟩ := fst_app (P := P) (Q := Q) n (k + 1) (fun i hi => by have := h (i + 1) (by omega); rwa [show k + (i + 1) = k + 1 + i by omega] at this)
    have h0 := h 0 (by omega)
    rw [Nat.add_zero] at h0
    rw [fst.eq_def Q k, dif_neg (by omega), fst.eq_def P k, dif_neg (by omega), Nat.add_sub_cancel, Nat.add_sub_cancel, h0]
    by_cases hp : P k = true
    · rw [if_pos hp, if_pos hp]
      exact ⟨fun _ => rfl, fun z => absurd z (by omega)⟩
    · rw [if_neg hp, if_neg hp]
      exact ⟨fun z => by rw [i1 (by omega)], fun z => by have := i2 (by omega); omega⟩
theorem pKn_app {so so' x b' : Nat} (h : so ≠ so') : pKnown T e (nm ++ [(a, so', x)]) so b' = pKnown T e nm so b' := by
  have hl : (nm ++ [(a, so', x)]).length = nm.length + 1 := by rw [List.length_append]; rfl
  have hg : ∀ i, i < nm.length → (nm ++ [(a, so', x)]).getD i (0, 0, 0) = nm.getD i (0, 0, 0) := fun i hi => by rw [List.getD_eq_getElem?_getD, List.getElem?_append_left hi, ← List.getD_eq_getElem?_getD]
  have hn : (nm ++ [(a, so', x)]).getD nm.length (0, 0, 0) = (a, so', x) := by rw [List.getD_eq_getElem?_getD, List.getElem?_append_right (by omega), Nat.sub_self]; rfl
  have key := fst_app (P := fun i => decide (vl T e (nm.getD i (0, 0, 0)).1 = vl T e b')) (Q := fun i => decide (vl T e ((nm ++ [(a, so', x)]).getD i (0, 0, 0)).1 = vl T e b')) nm.length 0 (fun i hi => by simp only [Nat.zero_add]; rw [hg i hi])
  have kx : (nmA T e nm b' < nm.length → nmA T e (nm ++ [(a, so', x)]) b' = nmA T e nm b') ∧ (¬ nmA T e nm b' < nm.length → nm.length ≤ nmA T e (nm ++ [(a, so', x)]) b') := by
    unfold nmA
    rw [hl]
    exact key
  unfold pKnown
  by_cases h1 : isN T e b' = true
  · rw [if_pos h1, if_pos h1]
    by_cases h2 : nmA T e nm b' < nm.length
    · rw [kx.1 h2, hg _ h2]
      by_cases h3 : (nm.getD (nmA T e nm b') (0, 0, 0)).2.1 = so
      · rw [if_pos ⟨by omega, h3⟩, if_pos ⟨h2, h3⟩]
      · rw [if_neg (fun z => h3 z.2), if_neg (fun z => h3 z.2)]
    · have k2 := kx.2 h2
      have A : ¬ (nmA T e (nm ++ [(a, so', x)]) b' < (nm ++ [(a, so', x)]).length ∧ ((nm ++ [(a, so', x)]).getD (nmA T e (nm ++ [(a, so', x)]) b') (0, 0, 0)).2.1 = so) := fun z => by
        have z1 : nmA T e (nm ++ [(a, so', x)]) b' = nm.length := by have := z.1; omega
        have z2 := z.2
        rw [z1, hn] at z2
        exact h z2.symm
      rw [if_neg A, if_neg (fun z => h2 z.1)]
  · rw [if_neg h1, if_neg h1]
/-- the word of a choice, as the model looks it up -/
def CH (T : Nat → Nat) (e k : Nat) (c : cS) (z : Int32) : Prop := match c with
  | .inl _ => z = -1
  | .inr a => z = (if kd T e a = 1 then nO (-1) (wiN k (vl T e a)) else -1)
theorem CH.val {k n : Nat} {z : Int32} (h : CH T e k (.inr a) z) (hp : pChoice T e k a = .inr n) : z = nI n := by
  have h : z = (if kd T e a = 1 then nO (-1) (wiN k (vl T e a)) else -1) := h
  unfold pChoice at hp
  split at hp
  · rename_i q
    rw [if_pos q.1, nO_pos (by omega)] at h
    cases hp
    exact h
  · cases hp
theorem CH.no {k : Nat} (hk : k < 41) {z : Int32} (h : CH T e k c z) (hz : z = -1) : cn_ T e (cf T e 1 c) = cst T e (pChoice T e k) c := by
  cases c with
  | inl g => rfl
  | inr a =>
    have h : z = (if kd T e a = 1 then nO (-1) (wiN k (vl T e a)) else -1) := h
    have hp : pChoice T e k a = .inl (1, tA T e a) := by
      unfold pChoice
      rw [if_neg (fun q => by
        rw [if_pos q.1] at h
        have hw := (wiN_eq (k := k) (v := vl T e a) hk).2
        exact q.2 ((nO_m1 (by omega)).mp (h.symm.trans hz)))]
    rw [cst_f hp]; rfl
theorem CH.yes {k : Nat} {z : Int32} (h : CH T e k c z) (hz : ¬ z = -1) : cn_ T e c = cst T e (pChoice T e k) c ∧ ∀ a, c = .inr a → kd T e a ≠ 5 := by
  cases c with
  | inl g => exact absurd h hz
  | inr a =>
    have h : z = (if kd T e a = 1 then nO (-1) (wiN k (vl T e a)) else -1) := h
    by_cases k1 : kd T e a = 1
    · rw [if_pos k1] at h
      have hw : wiN k (vl T e a) ≠ 0 := fun q => hz (by rw [h, q]; rfl)
      have hp : pChoice T e k a = .inr (wiN k (vl T e a) - 1) := if_pos ⟨k1, hw⟩
      exact ⟨by rw [cst_r hp]; rfl, fun b z => by cases z; omega⟩
    · rw [if_neg k1] at h
      exact absurd h hz
theorem isW_l {k : Nat} {g : Nat × Nat} (h : isW T e k (.inl g) = true) : False := Bool.noConfusion (show false = true from h)

theorem ch3_0  (h : isW T e 27 c = true) : CH T e 3 c (nI 0) := by
  cases c with
  | inl g => exact (isW_l h).elim
  | inr a =>
    have k1 := isW_k h
    show _ = (if kd T e a = 1 then _ else _)
    rw [if_pos k1.1, wiN_3, if_pos k1.2.symm]
    rfl
theorem ch3_1 (n0 : isW T e 27 c = false) (h : isW T e 28 c = true) : CH T e 3 c (nI 1) := by
  cases c with
  | inl g => exact (isW_l h).elim
  | inr a =>
    have k1 := isW_k h
    show _ = (if kd T e a = 1 then _ else _)
    rw [if_pos k1.1, wiN_3, if_neg (isW_n n0 k1.1), if_pos k1.2.symm]
    rfl
theorem ch3_2 (n0 : isW T e 27 c = false) (n1 : isW T e 28 c = false) (h : isW T e 29 c = true) : CH T e 3 c (nI 2) := by
  cases c with
  | inl g => exact (isW_l h).elim
  | inr a =>
    have k1 := isW_k h
    show _ = (if kd T e a = 1 then _ else _)
    rw [if_pos k1.1, wiN_3, if_neg (isW_n n0 k1.1), if_neg (isW_n n1 k1.1), if_pos k1.2.symm]
    rfl
theorem ch3_3 (n0 : isW T e 27 c = false) (n1 : isW T e 28 c = false) (n2 : isW T e 29 c = false) (h : isW T e 30 c = true) : CH T e 3 c (nI 3) := by
  cases c with
  | inl g => exact (isW_l h).elim
  | inr a =>
    have k1 := isW_k h
    show _ = (if kd T e a = 1 then _ else _)
    rw [if_pos k1.1, wiN_3, if_neg (isW_n n0 k1.1), if_neg (isW_n n1 k1.1), if_neg (isW_n n2 k1.1), if_pos k1.2.symm]
    rfl
theorem ch3_4 (n0 : isW T e 27 c = false) (n1 : isW T e 28 c = false) (n2 : isW T e 29 c = false) (n3 : isW T e 30 c = false) (h : isW T e 31 c = true) : CH T e 3 c (nI 4) := by
  cases c with
  | inl g => exact (isW_l h).elim
  | inr a =>
    have k1 := isW_k h
    show _ = (if kd T e a = 1 then _ else _)
    rw [if_pos k1.1, wiN_3, if_neg (isW_n n0 k1.1), if_neg (isW_n n1 k1.1), if_neg (isW_n n2 k1.1), if_neg (isW_n n3 k1.1), if_pos k1.2.symm]
    rfl
theorem ch3_n (n0 : isW T e 27 c = false) (n1 : isW T e 28 c = false) (n2 : isW T e 29 c = false) (n3 : isW T e 30 c = false) (n4 : isW T e 31 c = false) : CH T e 3 c (-1) := by
  cases c with
  | inl g => rfl
  | inr a =>
    show _ = (if kd T e a = 1 then _ else _)
    by_cases k1 : kd T e a = 1
    · rw [if_pos k1, wiN_3, if_neg (isW_n n0 k1), if_neg (isW_n n1 k1), if_neg (isW_n n2 k1), if_neg (isW_n n3 k1), if_neg (isW_n n4 k1)]
      rfl
    · rw [if_neg k1]
theorem ch9_0  (h : isW T e 35 c = true) : CH T e 9 c (nI 0) := by
  cases c with
  | inl g => exact (isW_l h).elim
  | inr a =>
    have k1 := isW_k h
    show _ = (if kd T e a = 1 then _ else _)
    rw [if_pos k1.1, wiN_9, if_pos k1.2.symm]
    rfl
theorem ch9_1 (n0 : isW T e 35 c = false) (h : isW T e 36 c = true) : CH T e 9 c (nI 1) := by
  cases c with
  | inl g => exact (isW_l h).elim
  | inr a =>
    have k1 := isW_k h
    show _ = (if kd T e a = 1 then _ else _)
    rw [if_pos k1.1, wiN_9, if_neg (isW_n n0 k1.1), if_pos k1.2.symm]
    rfl
theorem ch9_2 (n0 : isW T e 35 c = false) (n1 : isW T e 36 c = false) (h : isW T e 37 c = true) : CH T e 9 c (nI 2) := by
  cases c with
  | inl g => exact (isW_l h).elim
  | inr a =>
    have k1 := isW_k h
    show _ = (if kd T e a = 1 then _ else _)
    rw [if_pos k1.1, wiN_9, if_neg (isW_n n0 k1.1), if_neg (isW_n n1 k1.1), if_pos k1.2.symm]
    rfl
theorem ch9_3 (n0 : isW T e 35 c = false) (n1 : isW T e 36 c = false) (n2 : isW T e 37 c = false) (h : isW T e 38 c = true) : CH T e 9 c (nI 3) := by
  cases c with
  | inl g => exact (isW_l h).elim
  | inr a =>
    have k1 := isW_k h
    show _ = (if kd T e a = 1 then _ else _)
    rw [if_pos k1.1, wiN_9, if_neg (isW_n n0 k1.1), if_neg (isW_n n1 k1.1), if_neg (isW_n n2 k1.1), if_pos k1.2.symm]
    rfl
theorem ch9_n (n0 : isW T e 35 c = false) (n1 : isW T e 36 c = false) (n2 : isW T e 37 c = false) (n3 : isW T e 38 c = false) : CH T e 9 c (-1) := by
  cases c with
  | inl g => rfl
  | inr a =>
    show _ = (if kd T e a = 1 then _ else _)
    by_cases k1 : kd T e a = 1
    · rw [if_pos k1, wiN_9, if_neg (isW_n n0 k1), if_neg (isW_n n1 k1), if_neg (isW_n n2 k1), if_neg (isW_n n3 k1)]
      rfl
    · rw [if_neg k1]
theorem ch_4 (v : Int64) : wiN 4 v ≠ 0 ↔ v = pkS 32 := by rw [wiN_4]; constructor <;> intro h <;> (by_cases z : pkS 32 = v) <;> simp_all
theorem ch_6 (v : Int64) : wiN 6 v ≠ 0 ↔ v = pkS 25 := by rw [wiN_6]; constructor <;> intro h <;> (by_cases z : pkS 25 = v) <;> simp_all
theorem ch_10 (v : Int64) : wiN 10 v ≠ 0 ↔ v = pkS 39 := by rw [wiN_10]; constructor <;> intro h <;> (by_cases z : pkS 39 = v) <;> simp_all
theorem ch_11 (v : Int64) : wiN 11 v ≠ 0 ↔ v = pkS 40 := by rw [wiN_11]; constructor <;> intro h <;> (by_cases z : pkS 40 = v) <;> simp_all
set_option maxRecDepth 100000 in
set_option maxHeartbeats 600000 in
theorem m_kindOfSmell (hR : RSt T e c I L) : Mt G vX13_kindOfSmell (d + 6) (0, 0) [.ref (ad 13 0)] (MM ad nb b r I L) (qI (fun rr M' => CH T e 3 c rr ∧ M' = MM ad nb b r I L)) := by
  refine x_start (by decide) (Nat.le_of_ble_eq_true rfl) ?_
  refine x_aload_n dX13_kindOfSmell_0 rfl ?_
  refine x_ldcSw (n := 27) dX13_kindOfSmell_1 rfl ?_
  refine x_cvi (m_isWord (d := d) (i := 27) (by decide) (by decide) hR) kX13_142 dX13_kindOfSmell_4 rfl (Nat.le_of_ble_eq_true rfl) rfl rfl (Nat.le_of_ble_eq_true rfl) (fun ru Mu hq => ?_)
  obtain ⟨rfl, rfl⟩ := hq
  refine x_if_eq 12 dX13_kindOfSmell_7 (by decide) (fun h7 => ?_) (fun h7 => ?_)
  · have g7 := bI_eq.mp h7
    refine x_aload_n dX13_kindOfSmell_12 rfl ?_
    refine x_ldcSw (n := 28) dX13_kindOfSmell_13 rfl ?_
    refine x_cvi (m_isWord (d := d) (i := 28) (by decide) (by decide) hR) kX13_142 dX13_kindOfSmell_16 rfl (Nat.le_of_ble_eq_true rfl) rfl rfl (Nat.le_of_ble_eq_true rfl) (fun ru Mu hq => ?_)
    obtain ⟨rfl, rfl⟩ := hq
    refine x_if_eq 24 dX13_kindOfSmell_19 (by decide) (fun h19 => ?_) (fun h19 => ?_)
    · have g19 := bI_eq.mp h19
      refine x_aload_n dX13_kindOfSmell_24 rfl ?_
      refine x_ldcSw (n := 29) dX13_kindOfSmell_25 rfl ?_
      refine x_cvi (m_isWord (d := d) (i := 29) (by decide) (by decide) hR) kX13_142 dX13_kindOfSmell_28 rfl (Nat.le_of_ble_eq_true rfl) rfl rfl (Nat.le_of_ble_eq_true rfl) (fun ru Mu hq => ?_)
      obtain ⟨rfl, rfl⟩ := hq
      refine x_if_eq 36 dX13_kindOfSmell_31 (by decide) (fun h31 => ?_) (fun h31 => ?_)
      · have g31 := bI_eq.mp h31
        refine x_aload_n dX13_kindOfSmell_36 rfl ?_
        refine x_ldcSw (n := 30) dX13_kindOfSmell_37 rfl ?_
        refine x_cvi (m_isWord (d := d) (i := 30) (by decide) (by decide) hR) kX13_142 dX13_kindOfSmell_40 rfl (Nat.le_of_ble_eq_true rfl) rfl rfl (Nat.le_of_ble_eq_true rfl) (fun ru Mu hq => ?_)
        obtain ⟨rfl, rfl⟩ := hq
        refine x_if_eq 48 dX13_kindOfSmell_43 (by decide) (fun h43 => ?_) (fun h43 => ?_)
        · have g43 := bI_eq.mp h43
          refine x_aload_n dX13_kindOfSmell_48 rfl ?_
          refine x_ldcSw (n := 31) dX13_kindOfSmell_49 rfl ?_
          refine x_cvi (m_isWord (d := d) (i := 31) (by decide) (by decide) hR) kX13_142 dX13_kindOfSmell_52 rfl (Nat.le_of_ble_eq_true rfl) rfl rfl (Nat.le_of_ble_eq_true rfl) (fun ru Mu hq => ?_)
          obtain ⟨rfl, rfl⟩ := hq
          refine x_if_eq 62 dX13_kindOfSmell_55 (by decide) (fun h55 => ?_) (fun h55 => ?_)
          · have g55 := bI_eq.mp h55
            refine x_iconst dX13_kindOfSmell_62 li_m1 ?_
            refine x_iret dX13_kindOfSmell_63 rfl ?_
            first | exact ⟨_, rfl, ch3_4 g7 g19 g31 g43 g55, rfl⟩ | exact ⟨_, rfl, ch3_n g7 g19 g31 g43 g55, rfl⟩
          · have g55 := bI_ne.mp h55
            refine x_iconst dX13_kindOfSmell_58 li_4 ?_
            refine x_goto 63 dX13_kindOfSmell_59 (by decide) ?_
            refine x_iret dX13_kindOfSmell_63 rfl ?_
            first | exact ⟨_, rfl, ch3_4 g7 g19 g31 g43 g55, rfl⟩ | exact ⟨_, rfl, ch3_n g7 g19 g31 g43 g55, rfl⟩
        · have g43 := bI_ne.mp h43
          refine x_iconst dX13_kindOfSmell_46 li_3 ?_
          refine x_iret dX13_kindOfSmell_47 rfl ?_
          exact ⟨_, rfl, ch3_3 g7 g19 g31 g43, rfl⟩
      · have g31 := bI_ne.mp h31
        refine x_iconst dX13_kindOfSmell_34 li_2 ?_
        refine x_iret dX13_kindOfSmell_35 rfl ?_
        exact ⟨_, rfl, ch3_2 g7 g19 g31, rfl⟩
    · have g19 := bI_ne.mp h19
      refine x_iconst dX13_kindOfSmell_22 li_1 ?_
      refine x_iret dX13_kindOfSmell_23 rfl ?_
      exact ⟨_, rfl, ch3_1 g7 g19, rfl⟩
  · have g7 := bI_ne.mp h7
    refine x_iconst dX13_kindOfSmell_10 li_0 ?_
    refine x_iret dX13_kindOfSmell_11 rfl ?_
    exact ⟨_, rfl, ch3_0 g7, rfl⟩
set_option maxRecDepth 100000 in
set_option maxHeartbeats 600000 in
theorem mst_smell (hr : r = some ri) (hbn : ri < nb) (hT : YTp T e I) (hP : YPS T e s ri I L) (hW : PW s) (hZ : PZ s) (hl : lw T e s.2.2 = 3) {I1 : Nat → Nat → Nat → Int32} {L1 : Nat → Nat → Nat → Int64} (f1 : FR I I1 L L1) (r1 : RSt T e c I1 L1) (h5 : ∀ a, c = .inr a → kd T e a ≠ 5) (hcn : cn_ T e c = (cst T e (pChoice T e 3) (cst T e (pFr T e s.2.1) (cbg T e (decide (s.1 0 2 0 = 6)) (s.1 0 0 0) (.inr s.2.2))))) {rf : Int64} {z : Int32} (u2 : ∀ a n, (cbg T e (decide (s.1 0 2 0 = 6)) (s.1 0 0 0) (.inr s.2.2)) = .inr a → pFr T e s.2.1 a = .inr n → rf = vl T e a) (uz : ∀ a n, (cst T e (pFr T e s.2.1) (cbg T e (decide (s.1 0 2 0 = 6)) (s.1 0 0 0) (.inr s.2.2))) = .inr a → pChoice T e 3 a = .inr n → z = nI n) : X G vX13_readSmell (d + 10) (0, 0) 33 [(0, some (.ref (ad 13 0))), (1, some (.long (rf))), (3, some (.int (z)))] [] (MM ad nb b r I1 L1) (xT G (qLn T e ad nb b r ri I L (rdLn T e s))) := by
  have hV := hW.1
  have v0 := hV.1
  have v1 := hV.2.1
  have v2 := hV.2.2.1
  have v3 := hV.2.2.2.1
  have v4 := hV.2.2.2.2.1
  have v7 := hV.2.2.2.2.2.2.2.1
  have v9 := hV.2.2.2.2.2.2.2.2.2.1
  have v10 := hV.2.2.2.2.2.2.2.2.2.2.1
  have hB := hP.2.1
  refine x_aload_n dX13_readSmell_33 rfl ?_
  refine x_cvv (m_next (d := d + 8) (c := c) (hT.fr f1) r1 h5) kX13_139 dX13_readSmell_34 rfl (Nat.le_of_ble_eq_true rfl) rfl rfl (Nat.le_of_ble_eq_true rfl) (fun Mu hq => ?_)
  obtain ⟨I2, L2, rfl, r2, f2⟩ := hq
  have f2 := f1.tr f2
  rw [hcn] at r2
  refine x_aload_n dX13_readSmell_37 rfl ?_
  refine x_ldcSw (n := 32) dX13_readSmell_38 rfl ?_
  refine x_iconst dX13_readSmell_41 li_0 ?_
  refine x_cvi (m_readPartKnown (d := d) (so := 1) (i := 32) hr hbn (by omega) (by decide) (by decide) (hT.fr f2) r2 (hP.2.2.fr f2)) kX13_309 dX13_readSmell_42 rfl (Nat.le_of_ble_eq_true rfl) rfl rfl (Nat.le_of_ble_eq_true rfl) (fun rp0 Mu hq => ?_)
  obtain ⟨I3, L3, rfl, r3, f3, up0⟩ := hq
  have f3 := f2.tr f3
  refine x_istore dX13_readSmell_45 (by decide) rfl ?_
  have hE : lcur (rdLn T e s) = (cpk T e s.2.1 32 1 (cst T e (pChoice T e 3) (cst T e (pFr T e s.2.1) (cbg T e (decide (s.1 0 2 0 = 6)) (s.1 0 0 0) (.inr s.2.2))))) := by
    have key := lc_begin (T := T) (e := e) (s := s) (so := 2) (cap := 6) (F := fun c => cst T e (pKnown T e s.2.1 1) (cst T e (pChoice T e 4) (cst T e (pChoice T e 3) (cst T e (pNew s.1 T e s.2.1 2) (c))))) (fun _ => rfl) (by decide) (by decide) hl hZ (by decide) rfl (by omega) ?_
    · rw [key]
      unfold cpk
      rw [cneed_ch ch_4, cst_fr (so := 2) (V := s.1)]
    · show lcur (bnd (pNew s.1 T e s.2.1 2 (nx T e s.2.2)) _) = _
      refine lc_step (q := pNew s.1 T e s.2.1 2) (F := fun c => cst T e (pKnown T e s.2.1 1) (cst T e (pChoice T e 4) (cst T e (pChoice T e 3) (c)))) (fun _ => rfl) (fun x1 _ => ?_)
      refine lc_step (q := pChoice T e 3) (F := fun c => cst T e (pKnown T e s.2.1 1) (cst T e (pChoice T e 4) (c))) (fun _ => rfl) (fun x2 _ => ?_)
      refine lc_step (q := pChoice T e 4) (F := fun c => cst T e (pKnown T e s.2.1 1) (c)) (fun _ => rfl) (fun x3 _ => ?_)
      rw [pKn_app (by decide)]
      refine lc_step (q := pKnown T e s.2.1 1) (F := fun c => c) (fun _ => rfl) (fun x4 _ => ?_)
      rfl
  cases hcf : (cpk T e s.2.1 32 1 (cst T e (pChoice T e 3) (cst T e (pFr T e s.2.1) (cbg T e (decide (s.1 0 2 0 = 6)) (s.1 0 0 0) (.inr s.2.2))))) with
  | inl g =>
    rw [hcf] at r3 hE
    refine x_aload_n dX13_readSmell_47 rfl ?_
    refine g_M_sort fX13_100 dX13_readSmell_48 ?_
    refine x_top (r3.2.1) ?_
    refine x_iconst dX13_readSmell_51 li_5 ?_
    refine x_icN_ne 56 dX13_readSmell_52 (by decide) (by omega) (by omega) (fun h52 => absurd rfl h52) (fun h52 => ?_)
    refine x_vret dX13_readSmell_55 rfl ?_
    exact ⟨rfl, _, _, rfl, f3.fq, (fun g z => by rw [lcur_l hE] at z; cases z; exact r3), (fun s2 z => by rw [lcur_l hE] at z; cases z)⟩
  | inr x =>
    rw [hcf] at r3 hE
    have hm9 := mso_le _ (kd_le (T := T) (e := e) (a := x))
    obtain ⟨s2, hs2, hx⟩ := lcur_r hE
    have hs3 := hs2
    rw [rdLn_so (so := 2) (by decide) (by decide) hl] at hs3
    split at hs3
    · cases hs3
    split at hs3
    · cases hs3
    rename_i hw0 hrm
    have hrm2 : s.1 0 2 0 < 6 := Nat.lt_of_not_le hrm
    have hs4 : rd_smell T e (s.1, s.2.1, nx T e s.2.2) = .inr s2 := hs3
    unfold rd_smell at hs4
    obtain ⟨x1, e1, hs4⟩ := bnd_r hs4
    obtain ⟨x2, e2, hs4⟩ := bnd_r hs4
    obtain ⟨x3, e3, hs4⟩ := bnd_r hs4
    obtain ⟨x4, e4, hs4⟩ := bnd_r hs4
    rw [pKn_app (by decide)] at e4
    have hx1 : x1 = s.1 0 2 0 := pNew_eq e1
    subst hx1
    have hc1 : (cbg T e (decide (s.1 0 2 0 = 6)) (s.1 0 0 0) (.inr s.2.2)) = .inr (nx T e s.2.2) := cbg_ok (decide_eq_false (by omega)) hw0
    have hf := pFr_new e1
    have hrf := u2 _ _ hc1 hf
    have hc2 : (cst T e (pFr T e s.2.1) (cbg T e (decide (s.1 0 2 0 = 6)) (s.1 0 0 0) (.inr s.2.2))) = .inr (nx T e (nx T e s.2.2)) := by rw [hc1]; exact cst_r hf
    have hrz := uz _ _ hc2 e2
    have hc3 : (cst T e (pChoice T e 3) (cst T e (pFr T e s.2.1) (cbg T e (decide (s.1 0 2 0 = 6)) (s.1 0 0 0) (.inr s.2.2)))) = .inr (nx T e (nx T e (nx T e s.2.2))) := by rw [hc2]; exact cst_r e2
    subst hrf
    subst hrz
    have hn0 : cneed T e 32 (cst T e (pChoice T e 3) (cst T e (pFr T e s.2.1) (cbg T e (decide (s.1 0 2 0 = 6)) (s.1 0 0 0) (.inr s.2.2)))) = .inr (nx T e (nx T e (nx T e (nx T e s.2.2)))) := by rw [cneed_ch ch_4, hc3]; exact cst_r e3
    have hrp0 := up0 _ _ hn0 e4
    subst hrp0
    have hc4 : (cpk T e s.2.1 32 1 (cst T e (pChoice T e 3) (cst T e (pFr T e s.2.1) (cbg T e (decide (s.1 0 2 0 = 6)) (s.1 0 0 0) (.inr s.2.2))))) = .inr (nx T e (nx T e (nx T e (nx T e (nx T e s.2.2))))) := by show cst T e (pKnown T e s.2.1 1) (cneed T e 32 (cst T e (pChoice T e 3) (cst T e (pFr T e s.2.1) (cbg T e (decide (s.1 0 2 0 = 6)) (s.1 0 0 0) (.inr s.2.2))))) = _; rw [hn0]; exact cst_r e4
    have hB3 := hB.sm (I' := I3) (fun q hq => f3.1 q (by omega))
    have hN3 := hP.2.2.fr f3
    have hln := hW.2.1
    refine x_aload_n dX13_readSmell_47 rfl ?_
    refine g_M_sort fX13_100 dX13_readSmell_48 ?_
    refine x_top (r3.2.1.1.2.2) ?_
    refine x_iconst dX13_readSmell_51 li_5 ?_
    refine x_icN_ne 56 dX13_readSmell_52 (by decide) (by omega) (by omega) (fun h52 => ?_) (fun h52 => absurd h52 (by omega))
    refine x_aload_n dX13_readSmell_56 rfl ?_
    refine x_lload_n dX13_readSmell_57 rfl ?_
    refine x_iconst dX13_readSmell_58 li_1 ?_
    refine x_aload_n dX13_readSmell_59 rfl ?_
    refine g_M_read hr fX13_185 dX13_readSmell_60 ?_
    refine g_MB_smells fX13_301 dX13_readSmell_63 hbn ?_
    refine x_top (show I3 12 ri 2 = nI (s.1 0 2 0) from y12_2 hB3) ?_
    refine x_cvv (m_names (d := d + 9) (nm := s.2.1) (a := (nx T e s.2.2)) (so := 2) (x := s.1 0 2 0) hr hbn hN3 (by omega) (by omega) (by omega)) kX13_286 dX13_readSmell_66 rfl (Nat.le_of_ble_eq_true rfl) rfl rfl (Nat.le_of_ble_eq_true rfl) (fun Mu hq => ?_)
    obtain ⟨J4, M4, rfl, y4, n2, n3, n4⟩ := hq
    have e12 : ∀ k, k < 12 → J4 12 ri k = I3 12 ri k := fun k hk => n3 k (by omega)
    refine x_aload_n dX13_readSmell_69 rfl ?_
    refine g_M_read hr fX13_185 dX13_readSmell_70 ?_
    refine g_MB_kind fX13_313 dX13_readSmell_73 hbn ?_
    refine x_aload_n dX13_readSmell_76 rfl ?_
    refine g_M_read hr fX13_185 dX13_readSmell_77 ?_
    refine g_MB_smells fX13_301 dX13_readSmell_80 hbn ?_
    refine x_top (show J4 12 ri 2 = nI (s.1 0 2 0) from (e12 2 (by decide)).trans (y12_2 hB3)) ?_
    refine x_iload_n dX13_readSmell_83 rfl ?_
    refine x_iast dX13_readSmell_84 rfl rfl hbn (by first | exact Nat.le_of_ble_eq_true rfl | assumption | omega) ?_
    refine x_aload_n dX13_readSmell_85 rfl ?_
    refine g_M_read hr fX13_185 dX13_readSmell_86 ?_
    refine g_MB_from fX13_316 dX13_readSmell_89 hbn ?_
    refine x_aload_n dX13_readSmell_92 rfl ?_
    refine g_M_read hr fX13_185 dX13_readSmell_93 ?_
    refine g_MB_smells fX13_301 dX13_readSmell_96 hbn ?_
    rw [xu_ns (by decide)]
    refine x_top (show J4 12 ri 2 = nI (s.1 0 2 0) from (e12 2 (by decide)).trans (y12_2 hB3)) ?_
    refine x_iload dX13_readSmell_99 rfl ?_
    refine x_iast dX13_readSmell_101 rfl rfl hbn (by first | exact Nat.le_of_ble_eq_true rfl | assumption | omega) ?_
    refine x_aload_n dX13_readSmell_102 rfl ?_
    refine g_M_read hr fX13_185 dX13_readSmell_103 ?_
    refine x_dup dX13_readSmell_106 rfl ?_
    refine g_MB_smells fX13_301 dX13_readSmell_107 hbn ?_
    rw [xu_ns (by decide), xu_ns (by decide)]
    refine x_top (show J4 12 ri 2 = nI (s.1 0 2 0) from (e12 2 (by decide)).trans (y12_2 hB3)) ?_
    refine x_iconst dX13_readSmell_110 li_1 ?_
    refine x_iaddN dX13_readSmell_111 ?_
    refine p_MB_smells fX13_301 dX13_readSmell_112 hbn ?_
    refine x_vret dX13_readSmell_115 rfl ?_
    have hfq : FQ ri I (xu (xu (xu J4 65 ri (s.1 0 2 0) (nI x2)) 66 ri (s.1 0 2 0) (nI x4)) 12 ri 2 (nI (s.1 0 2 0 + 1))) L M4 := ((((f3.fq.tr ⟨fun q c h1 h2 => n2 q c (by omega), fun k _ => by rw [n2 13 0 (by omega)], fun q c h1 h2 => n4 q c h2⟩).xu (by omega)).xu (by omega)).xu (by omega))
    refine ⟨rfl, _, _, rfl, hfq, (fun g z => by rw [hs2] at z; cases z), fun s5 z => ?_⟩
    rw [hs2] at z
    cases z
    cases hs4
    refine ⟨?_, YB.smell (x := x2) (y := x4) (I' := (xu (xu (xu J4 65 ri (s.1 0 2 0) (nI x2)) 66 ri (s.1 0 2 0) (nI x4)) 12 ri 2 (nI (s.1 0 2 0 + 1)))) ?_ (fun l hl2 => ?_) ?_ (fun l hl2 => ?_) hB3 xu_s (fun k h1 h2 => ?_) (fun q h1 h2 g0 g1 => ?_), ?_⟩
    · have hx2 : x = (nx T e (nx T e (nx T e (nx T e (nx T e s.2.2))))) := hx.symm
      subst hx2
      exact YPS.st r3 (by funext y; rw [xu_ns (by decide), xu_ns (by decide), xu_ns (by decide), n2 13 0 (by omega)]) (n4 13 0 (by omega))
    · rw [xu_ns (by decide), xu_ns (by decide), xu_s]
    · rw [xu_ns (by decide), xu_ns (by decide), xu_nk hl2, n2 65 ri (by omega)]
    · rw [xu_ns (by decide), xu_s]
    · rw [xu_ns (by decide), xu_nk hl2, xu_ns (by decide), n2 66 ri (by omega)]
    · rw [xu_nk h1, xu_ns (by decide), xu_ns (by decide)]; exact n3 k h2
    · funext y; rw [xu_ns (by omega), xu_ns g1, xu_ns g0, n2 q ri (by omega)]
    · exact y4.sm2 (by rw [xu_nk (by decide), xu_ns (by decide), xu_ns (by decide)]) (by funext y; rw [xu_ns (by decide), xu_ns (by decide), xu_ns (by decide)]) (by funext y; rw [xu_ns (by decide), xu_ns (by decide), xu_ns (by decide)]) rfl
set_option maxRecDepth 100000 in
set_option maxHeartbeats 600000 in
theorem m_read_smell (hr : r = some ri) (hbn : ri < nb) (hT : YTp T e I) (hP : YPS T e s ri I L) (hW : PW s) (hZ : PZ s) (hl : lw T e s.2.2 = 3) : Mt G vX13_readSmell (d + 10) (0, 0) [.ref (ad 13 0)] (MM ad nb b r I L) (qLn T e ad nb b r ri I L (rdLn T e s)) := by
  have hV := hW.1
  have v0 := hV.1
  have v1 := hV.2.1
  have v2 := hV.2.2.1
  have v3 := hV.2.2.2.1
  have v4 := hV.2.2.2.2.1
  have v7 := hV.2.2.2.2.2.2.2.1
  have v9 := hV.2.2.2.2.2.2.2.2.2.1
  have v10 := hV.2.2.2.2.2.2.2.2.2.2.1
  have hB := hP.2.1
  have hk1 := lw_kd (T := T) (e := e) (a := s.2.2) (by rw [hl]; decide)
  refine x_start (by decide) (Nat.le_of_ble_eq_true rfl) ?_
  refine x_aload_n dX13_readSmell_0 rfl ?_
  refine x_aload_n dX13_readSmell_1 rfl ?_
  refine g_M_read hr fX13_185 dX13_readSmell_2 ?_
  refine g_MB_smells fX13_301 dX13_readSmell_5 hbn ?_
  refine x_top (y12_2 hB) ?_
  refine x_bipush dX13_readSmell_8 lb_6 ?_
  refine x_cvv (m_begins (d := d + 7) (x := s.1 0 2 0) (y := 6) (w := s.1 0 0 0) hr hbn (by omega) (by omega) (y12_0 hB) (by omega) hT hP.1 (fun a z => by cases z; omega)) kX13_276 dX13_readSmell_10 rfl (Nat.le_of_ble_eq_true rfl) rfl rfl (Nat.le_of_ble_eq_true rfl) (fun Mu hq => ?_)
  obtain ⟨I1, L1, rfl, r1, f1⟩ := hq
  refine x_aload_n dX13_readSmell_13 rfl ?_
  refine x_cvl (m_readFresh (d := d + 2) hr hbn (hT.fr f1) r1 (hP.2.2.fr f1)) kX13_280 dX13_readSmell_14 rfl (Nat.le_of_ble_eq_true rfl) rfl rfl (Nat.le_of_ble_eq_true rfl) (fun rf Mu hq => ?_)
  obtain ⟨I2, L2, rfl, r2, f2, u2⟩ := hq
  have f12 := f1.tr f2
  refine x_lstore_n dX13_readSmell_17 (by decide) rfl ?_
  refine x_aload_n dX13_readSmell_18 rfl ?_
  refine x_cvi (m_kindOfSmell (d := d + 3) r2) kX13_304 dX13_readSmell_19 rfl (Nat.le_of_ble_eq_true rfl) rfl rfl (Nat.le_of_ble_eq_true rfl) (fun z Mu hq => ?_)
  obtain ⟨hch, rfl⟩ := hq
  refine x_istore_n dX13_readSmell_22 (by decide) rfl ?_
  refine x_iload_n dX13_readSmell_23 rfl ?_
  refine x_iconst dX13_readSmell_24 li_m1 ?_
  refine x_ic_ne 33 dX13_readSmell_25 (by decide) (fun h25 => ?_) (fun h25 => ?_)
  · have hyes := hch.yes h25
    refine x_ls ?_ (mst_smell (d := d) (c := (cst T e (pFr T e s.2.1) (cbg T e (decide (s.1 0 2 0 = 6)) (s.1 0 0 0) (.inr s.2.2)))) hr hbn hT hP hW hZ hl f12 r2 hyes.2 hyes.1 u2 (fun a n h3 h4 => by rw [h3] at hch; exact hch.val h4))
    exact ⟨rfl, rfl, rfl, trivial⟩
  · refine x_aload_n dX13_readSmell_28 rfl ?_
    refine x_iconst dX13_readSmell_29 li_1 ?_
    refine x_cvv (m_flaw (d := d + 9) (f := 1) r2) kX13_146 dX13_readSmell_30 rfl (Nat.le_of_ble_eq_true rfl) rfl rfl (Nat.le_of_ble_eq_true rfl) (fun Mu hq => ?_)
    obtain ⟨I3, rfl, r3, f3⟩ := hq
    refine x_ls ?_ (mst_smell (d := d) (c := (cf T e 1 (cst T e (pFr T e s.2.1) (cbg T e (decide (s.1 0 2 0 = 6)) (s.1 0 0 0) (.inr s.2.2))))) hr hbn hT hP hW hZ hl (f12.tr f3) r3 (fun a h => by generalize (cst T e (pFr T e s.2.1) (cbg T e (decide (s.1 0 2 0 = 6)) (s.1 0 0 0) (.inr s.2.2))) = cc at h; cases cc <;> cases h) (hch.no (by decide) h25) u2 (fun a n h3 h4 => by rw [h3] at hch; exact hch.val h4))
    exact ⟨rfl, rfl, rfl, trivial⟩
set_option maxRecDepth 100000 in
set_option maxHeartbeats 600000 in
theorem mst_trav (hr : r = some ri) (hbn : ri < nb) (hT : YTp T e I) (hP : YPS T e s ri I L) (hW : PW s) (hZ : PZ s) (hl : lw T e s.2.2 = 8) {I1 : Nat → Nat → Nat → Int32} {L1 : Nat → Nat → Nat → Int64} (f1 : FR I I1 L L1) (r1 : RSt T e c I1 L1) (h5 : ∀ a, c = .inr a → kd T e a ≠ 5) (hcn : cn_ T e c = (cst T e (pChoice T e 9) (cst T e (pFr T e s.2.1) (cbg T e (decide (s.1 0 7 0 = 4)) (s.1 0 0 0) (.inr s.2.2))))) {rf : Int64} {z : Int32} (u2 : ∀ a n, (cbg T e (decide (s.1 0 7 0 = 4)) (s.1 0 0 0) (.inr s.2.2)) = .inr a → pFr T e s.2.1 a = .inr n → rf = vl T e a) (uz : ∀ a n, (cst T e (pFr T e s.2.1) (cbg T e (decide (s.1 0 7 0 = 4)) (s.1 0 0 0) (.inr s.2.2))) = .inr a → pChoice T e 9 a = .inr n → z = nI n) : X G vX13_readTraveller (d + 10) (0, 0) 85 [(0, some (.ref (ad 13 0))), (1, some (.long (rf))), (3, some (.int (z)))] [] (MM ad nb b r I1 L1) (xT G (qLn T e ad nb b r ri I L (rdLn T e s))) := by
  have hV := hW.1
  have v0 := hV.1
  have v1 := hV.2.1
  have v2 := hV.2.2.1
  have v3 := hV.2.2.2.1
  have v4 := hV.2.2.2.2.1
  have v7 := hV.2.2.2.2.2.2.2.1
  have v9 := hV.2.2.2.2.2.2.2.2.2.1
  have v10 := hV.2.2.2.2.2.2.2.2.2.2.1
  have hB := hP.2.1
  refine x_aload_n dX13_readTraveller_85 rfl ?_
  refine x_cvv (m_next (d := d + 8) (c := c) (hT.fr f1) r1 h5) kX13_139 dX13_readTraveller_86 rfl (Nat.le_of_ble_eq_true rfl) rfl rfl (Nat.le_of_ble_eq_true rfl) (fun Mu hq => ?_)
  obtain ⟨I2, L2, rfl, r2, f2⟩ := hq
  have f2 := f1.tr f2
  rw [hcn] at r2
  refine x_aload_n dX13_readTraveller_89 rfl ?_
  refine x_ldcSw (n := 39) dX13_readTraveller_90 rfl ?_
  refine x_iconst dX13_readTraveller_93 li_0 ?_
  refine x_cvi (m_readPartKnown (d := d) (so := 1) (i := 39) hr hbn (by omega) (by decide) (by decide) (hT.fr f2) r2 (hP.2.2.fr f2)) kX13_309 dX13_readTraveller_94 rfl (Nat.le_of_ble_eq_true rfl) rfl rfl (Nat.le_of_ble_eq_true rfl) (fun rp0 Mu hq => ?_)
  obtain ⟨I3, L3, rfl, r3, f3, up0⟩ := hq
  have f3 := f2.tr f3
  refine x_istore dX13_readTraveller_97 (by decide) rfl ?_
  refine x_aload_n dX13_readTraveller_99 rfl ?_
  refine x_ldcSw (n := 40) dX13_readTraveller_100 rfl ?_
  refine x_iconst dX13_readTraveller_103 li_3 ?_
  refine x_cvi (m_readPartKnown (d := d) (so := 4) (i := 40) hr hbn (by omega) (by decide) (by decide) (hT.fr f3) r3 (hP.2.2.fr f3)) kX13_309 dX13_readTraveller_104 rfl (Nat.le_of_ble_eq_true rfl) rfl rfl (Nat.le_of_ble_eq_true rfl) (fun rp1 Mu hq => ?_)
  obtain ⟨I4, L4, rfl, r4, f4, up1⟩ := hq
  have f4 := f3.tr f4
  refine x_istore dX13_readTraveller_107 (by decide) rfl ?_
  have hE : lcur (rdLn T e s) = (cpk T e s.2.1 40 4 (cpk T e s.2.1 39 1 (cst T e (pChoice T e 9) (cst T e (pFr T e s.2.1) (cbg T e (decide (s.1 0 7 0 = 4)) (s.1 0 0 0) (.inr s.2.2)))))) := by
    have key := lc_begin (T := T) (e := e) (s := s) (so := 7) (cap := 4) (F := fun c => cst T e (pKnown T e s.2.1 4) (cst T e (pChoice T e 11) (cst T e (pKnown T e s.2.1 1) (cst T e (pChoice T e 10) (cst T e (pChoice T e 9) (cst T e (pNew s.1 T e s.2.1 7) (c))))))) (fun _ => rfl) (by decide) (by decide) hl hZ (by decide) rfl (by omega) ?_
    · rw [key]
      unfold cpk
      rw [cneed_ch ch_11, cneed_ch ch_10, cst_fr (so := 7) (V := s.1)]
    · show lcur (bnd (pNew s.1 T e s.2.1 7 (nx T e s.2.2)) _) = _
      refine lc_step (q := pNew s.1 T e s.2.1 7) (F := fun c => cst T e (pKnown T e s.2.1 4) (cst T e (pChoice T e 11) (cst T e (pKnown T e s.2.1 1) (cst T e (pChoice T e 10) (cst T e (pChoice T e 9) (c)))))) (fun _ => rfl) (fun x1 _ => ?_)
      refine lc_step (q := pChoice T e 9) (F := fun c => cst T e (pKnown T e s.2.1 4) (cst T e (pChoice T e 11) (cst T e (pKnown T e s.2.1 1) (cst T e (pChoice T e 10) (c))))) (fun _ => rfl) (fun x2 _ => ?_)
      refine lc_step (q := pChoice T e 10) (F := fun c => cst T e (pKnown T e s.2.1 4) (cst T e (pChoice T e 11) (cst T e (pKnown T e s.2.1 1) (c)))) (fun _ => rfl) (fun x3 _ => ?_)
      rw [pKn_app (by decide)]
      refine lc_step (q := pKnown T e s.2.1 1) (F := fun c => cst T e (pKnown T e s.2.1 4) (cst T e (pChoice T e 11) (c))) (fun _ => rfl) (fun x4 _ => ?_)
      refine lc_step (q := pChoice T e 11) (F := fun c => cst T e (pKnown T e s.2.1 4) (c)) (fun _ => rfl) (fun x5 _ => ?_)
      rw [pKn_app (by decide)]
      refine lc_step (q := pKnown T e s.2.1 4) (F := fun c => c) (fun _ => rfl) (fun x6 _ => ?_)
      rfl
  cases hcf : (cpk T e s.2.1 40 4 (cpk T e s.2.1 39 1 (cst T e (pChoice T e 9) (cst T e (pFr T e s.2.1) (cbg T e (decide (s.1 0 7 0 = 4)) (s.1 0 0 0) (.inr s.2.2)))))) with
  | inl g =>
    rw [hcf] at r4 hE
    refine x_aload_n dX13_readTraveller_109 rfl ?_
    refine g_M_sort fX13_100 dX13_readTraveller_110 ?_
    refine x_top (r4.2.1) ?_
    refine x_iconst dX13_readTraveller_113 li_5 ?_
    refine x_icN_ne 118 dX13_readTraveller_114 (by decide) (by omega) (by omega) (fun h114 => absurd rfl h114) (fun h114 => ?_)
    refine x_vret dX13_readTraveller_117 rfl ?_
    exact ⟨rfl, _, _, rfl, f4.fq, (fun g z => by rw [lcur_l hE] at z; cases z; exact r4), (fun s2 z => by rw [lcur_l hE] at z; cases z)⟩
  | inr x =>
    rw [hcf] at r4 hE
    have hm9 := mso_le _ (kd_le (T := T) (e := e) (a := x))
    obtain ⟨s2, hs2, hx⟩ := lcur_r hE
    have hs3 := hs2
    rw [rdLn_so (so := 7) (by decide) (by decide) hl] at hs3
    split at hs3
    · cases hs3
    split at hs3
    · cases hs3
    rename_i hw0 hrm
    have hrm2 : s.1 0 7 0 < 4 := Nat.lt_of_not_le hrm
    have hs4 : rd_trav T e (s.1, s.2.1, nx T e s.2.2) = .inr s2 := hs3
    unfold rd_trav at hs4
    obtain ⟨x1, e1, hs4⟩ := bnd_r hs4
    obtain ⟨x2, e2, hs4⟩ := bnd_r hs4
    obtain ⟨x3, e3, hs4⟩ := bnd_r hs4
    obtain ⟨x4, e4, hs4⟩ := bnd_r hs4
    rw [pKn_app (by decide)] at e4
    obtain ⟨x5, e5, hs4⟩ := bnd_r hs4
    obtain ⟨x6, e6, hs4⟩ := bnd_r hs4
    rw [pKn_app (by decide)] at e6
    have hx1 : x1 = s.1 0 7 0 := pNew_eq e1
    subst hx1
    have hc1 : (cbg T e (decide (s.1 0 7 0 = 4)) (s.1 0 0 0) (.inr s.2.2)) = .inr (nx T e s.2.2) := cbg_ok (decide_eq_false (by omega)) hw0
    have hf := pFr_new e1
    have hrf := u2 _ _ hc1 hf
    have hc2 : (cst T e (pFr T e s.2.1) (cbg T e (decide (s.1 0 7 0 = 4)) (s.1 0 0 0) (.inr s.2.2))) = .inr (nx T e (nx T e s.2.2)) := by rw [hc1]; exact cst_r hf
    have hrz := uz _ _ hc2 e2
    have hc3 : (cst T e (pChoice T e 9) (cst T e (pFr T e s.2.1) (cbg T e (decide (s.1 0 7 0 = 4)) (s.1 0 0 0) (.inr s.2.2)))) = .inr (nx T e (nx T e (nx T e s.2.2))) := by rw [hc2]; exact cst_r e2
    subst hrf
    subst hrz
    have hn0 : cneed T e 39 (cst T e (pChoice T e 9) (cst T e (pFr T e s.2.1) (cbg T e (decide (s.1 0 7 0 = 4)) (s.1 0 0 0) (.inr s.2.2)))) = .inr (nx T e (nx T e (nx T e (nx T e s.2.2)))) := by rw [cneed_ch ch_10, hc3]; exact cst_r e3
    have hrp0 := up0 _ _ hn0 e4
    subst hrp0
    have hc4 : (cpk T e s.2.1 39 1 (cst T e (pChoice T e 9) (cst T e (pFr T e s.2.1) (cbg T e (decide (s.1 0 7 0 = 4)) (s.1 0 0 0) (.inr s.2.2))))) = .inr (nx T e (nx T e (nx T e (nx T e (nx T e s.2.2))))) := by show cst T e (pKnown T e s.2.1 1) (cneed T e 39 (cst T e (pChoice T e 9) (cst T e (pFr T e s.2.1) (cbg T e (decide (s.1 0 7 0 = 4)) (s.1 0 0 0) (.inr s.2.2))))) = _; rw [hn0]; exact cst_r e4
    have hn1 : cneed T e 40 (cpk T e s.2.1 39 1 (cst T e (pChoice T e 9) (cst T e (pFr T e s.2.1) (cbg T e (decide (s.1 0 7 0 = 4)) (s.1 0 0 0) (.inr s.2.2))))) = .inr (nx T e (nx T e (nx T e (nx T e (nx T e (nx T e s.2.2)))))) := by rw [cneed_ch ch_11, hc4]; exact cst_r e5
    have hrp1 := up1 _ _ hn1 e6
    subst hrp1
    have hc5 : (cpk T e s.2.1 40 4 (cpk T e s.2.1 39 1 (cst T e (pChoice T e 9) (cst T e (pFr T e s.2.1) (cbg T e (decide (s.1 0 7 0 = 4)) (s.1 0 0 0) (.inr s.2.2)))))) = .inr (nx T e (nx T e (nx T e (nx T e (nx T e (nx T e (nx T e s.2.2))))))) := by show cst T e (pKnown T e s.2.1 4) (cneed T e 40 (cpk T e s.2.1 39 1 (cst T e (pChoice T e 9) (cst T e (pFr T e s.2.1) (cbg T e (decide (s.1 0 7 0 = 4)) (s.1 0 0 0) (.inr s.2.2)))))) = _; rw [hn1]; exact cst_r e6
    have hB3 := hB.sm (I' := I4) (fun q hq => f4.1 q (by omega))
    have hN3 := hP.2.2.fr f4
    have hln := hW.2.1
    refine x_aload_n dX13_readTraveller_109 rfl ?_
    refine g_M_sort fX13_100 dX13_readTraveller_110 ?_
    refine x_top (r4.2.1.1.2.2) ?_
    refine x_iconst dX13_readTraveller_113 li_5 ?_
    refine x_icN_ne 118 dX13_readTraveller_114 (by decide) (by omega) (by omega) (fun h114 => ?_) (fun h114 => absurd h114 (by omega))
    refine x_aload_n dX13_readTraveller_118 rfl ?_
    refine x_lload_n dX13_readTraveller_119 rfl ?_
    refine x_iconst dX13_readTraveller_120 li_4 ?_
    refine x_aload_n dX13_readTraveller_121 rfl ?_
    refine g_M_read hr fX13_185 dX13_readTraveller_122 ?_
    refine g_MB_travellers fX13_343 dX13_readTraveller_125 hbn ?_
    refine x_top (show I4 12 ri 7 = nI (s.1 0 7 0) from y12_7 hB3) ?_
    refine x_cvv (m_names (d := d + 9) (nm := s.2.1) (a := (nx T e s.2.2)) (so := 7) (x := s.1 0 7 0) hr hbn hN3 (by omega) (by omega) (by omega)) kX13_286 dX13_readTraveller_128 rfl (Nat.le_of_ble_eq_true rfl) rfl rfl (Nat.le_of_ble_eq_true rfl) (fun Mu hq => ?_)
    obtain ⟨J4, M4, rfl, y4, n2, n3, n4⟩ := hq
    have e12 : ∀ k, k < 12 → J4 12 ri k = I4 12 ri k := fun k hk => n3 k (by omega)
    refine x_aload_n dX13_readTraveller_131 rfl ?_
    refine g_M_read hr fX13_185 dX13_readTraveller_132 ?_
    refine g_MB_sortOf fX13_358 dX13_readTraveller_135 hbn ?_
    refine x_aload_n dX13_readTraveller_138 rfl ?_
    refine g_M_read hr fX13_185 dX13_readTraveller_139 ?_
    refine g_MB_travellers fX13_343 dX13_readTraveller_142 hbn ?_
    refine x_top (show J4 12 ri 7 = nI (s.1 0 7 0) from (e12 7 (by decide)).trans (y12_7 hB3)) ?_
    refine x_iload_n dX13_readTraveller_145 rfl ?_
    refine x_iast dX13_readTraveller_146 rfl rfl hbn (by first | exact Nat.le_of_ble_eq_true rfl | assumption | omega) ?_
    refine x_aload_n dX13_readTraveller_147 rfl ?_
    refine g_M_read hr fX13_185 dX13_readTraveller_148 ?_
    refine g_MB_home fX13_361 dX13_readTraveller_151 hbn ?_
    refine x_aload_n dX13_readTraveller_154 rfl ?_
    refine g_M_read hr fX13_185 dX13_readTraveller_155 ?_
    refine g_MB_travellers fX13_343 dX13_readTraveller_158 hbn ?_
    rw [xu_ns (by decide)]
    refine x_top (show J4 12 ri 7 = nI (s.1 0 7 0) from (e12 7 (by decide)).trans (y12_7 hB3)) ?_
    refine x_iload dX13_readTraveller_161 rfl ?_
    refine x_iast dX13_readTraveller_163 rfl rfl hbn (by first | exact Nat.le_of_ble_eq_true rfl | assumption | omega) ?_
    refine x_aload_n dX13_readTraveller_164 rfl ?_
    refine g_M_read hr fX13_185 dX13_readTraveller_165 ?_
    refine g_MB_at fX13_363 dX13_readTraveller_168 hbn ?_
    refine x_aload_n dX13_readTraveller_171 rfl ?_
    refine g_M_read hr fX13_185 dX13_readTraveller_172 ?_
    refine g_MB_travellers fX13_343 dX13_readTraveller_175 hbn ?_
    rw [xu_ns (by decide), xu_ns (by decide)]
    refine x_top (show J4 12 ri 7 = nI (s.1 0 7 0) from (e12 7 (by decide)).trans (y12_7 hB3)) ?_
    refine x_iload dX13_readTraveller_178 rfl ?_
    refine x_iast dX13_readTraveller_180 rfl rfl hbn (by first | exact Nat.le_of_ble_eq_true rfl | assumption | omega) ?_
    refine x_aload_n dX13_readTraveller_181 rfl ?_
    refine g_M_read hr fX13_185 dX13_readTraveller_182 ?_
    refine x_dup dX13_readTraveller_185 rfl ?_
    refine g_MB_travellers fX13_343 dX13_readTraveller_186 hbn ?_
    rw [xu_ns (by decide), xu_ns (by decide), xu_ns (by decide)]
    refine x_top (show J4 12 ri 7 = nI (s.1 0 7 0) from (e12 7 (by decide)).trans (y12_7 hB3)) ?_
    refine x_iconst dX13_readTraveller_189 li_1 ?_
    refine x_iaddN dX13_readTraveller_190 ?_
    refine p_MB_travellers fX13_343 dX13_readTraveller_191 hbn ?_
    refine x_vret dX13_readTraveller_194 rfl ?_
    have hfq : FQ ri I (xu (xu (xu (xu J4 72 ri (s.1 0 7 0) (nI x2)) 73 ri (s.1 0 7 0) (nI x4)) 74 ri (s.1 0 7 0) (nI x6)) 12 ri 7 (nI (s.1 0 7 0 + 1))) L M4 := (((((f4.fq.tr ⟨fun q c h1 h2 => n2 q c (by omega), fun k _ => by rw [n2 13 0 (by omega)], fun q c h1 h2 => n4 q c h2⟩).xu (by omega)).xu (by omega)).xu (by omega)).xu (by omega))
    refine ⟨rfl, _, _, rfl, hfq, (fun g z => by rw [hs2] at z; cases z), fun s5 z => ?_⟩
    rw [hs2] at z
    cases z
    cases hs4
    refine ⟨?_, YB.trav (x := x2) (y := x4) (z := x6) (I' := (xu (xu (xu (xu J4 72 ri (s.1 0 7 0) (nI x2)) 73 ri (s.1 0 7 0) (nI x4)) 74 ri (s.1 0 7 0) (nI x6)) 12 ri 7 (nI (s.1 0 7 0 + 1)))) ?_ (fun l hl2 => ?_) ?_ (fun l hl2 => ?_) ?_ (fun l hl2 => ?_) hB3 xu_s (fun k h1 h2 => ?_) (fun q h1 h2 g0 g1 g2 => ?_), ?_⟩
    · have hx2 : x = (nx T e (nx T e (nx T e (nx T e (nx T e (nx T e (nx T e s.2.2))))))) := hx.symm
      subst hx2
      exact YPS.st r4 (by funext y; rw [xu_ns (by decide), xu_ns (by decide), xu_ns (by decide), xu_ns (by decide), n2 13 0 (by omega)]) (n4 13 0 (by omega))
    · rw [xu_ns (by decide), xu_ns (by decide), xu_ns (by decide), xu_s]
    · rw [xu_ns (by decide), xu_ns (by decide), xu_ns (by decide), xu_nk hl2, n2 72 ri (by omega)]
    · rw [xu_ns (by decide), xu_ns (by decide), xu_s]
    · rw [xu_ns (by decide), xu_ns (by decide), xu_nk hl2, xu_ns (by decide), n2 73 ri (by omega)]
    · rw [xu_ns (by decide), xu_s]
    · rw [xu_ns (by decide), xu_nk hl2, xu_ns (by decide), xu_ns (by decide), n2 74 ri (by omega)]
    · rw [xu_nk h1, xu_ns (by decide), xu_ns (by decide), xu_ns (by decide)]; exact n3 k h2
    · funext y; rw [xu_ns (by omega), xu_ns g2, xu_ns g1, xu_ns g0, n2 q ri (by omega)]
    · exact y4.sm2 (by rw [xu_nk (by decide), xu_ns (by decide), xu_ns (by decide), xu_ns (by decide)]) (by funext y; rw [xu_ns (by decide), xu_ns (by decide), xu_ns (by decide), xu_ns (by decide)]) (by funext y; rw [xu_ns (by decide), xu_ns (by decide), xu_ns (by decide), xu_ns (by decide)]) rfl
set_option maxRecDepth 100000 in
set_option maxHeartbeats 600000 in
theorem mst2_trav (hr : r = some ri) (hbn : ri < nb) (hT : YTp T e I) (hP : YPS T e s ri I L) (hW : PW s) (hZ : PZ s) (hl : lw T e s.2.2 = 8) {I2 : Nat → Nat → Nat → Int32} {L2 : Nat → Nat → Nat → Int64} (f12 : FR I I2 L L2) (r2 : RSt T e (cst T e (pFr T e s.2.1) (cbg T e (decide (s.1 0 7 0 = 4)) (s.1 0 0 0) (.inr s.2.2))) I2 L2) {rf : Int64} {z : Int32} (u2 : ∀ a n, (cbg T e (decide (s.1 0 7 0 = 4)) (s.1 0 0 0) (.inr s.2.2)) = .inr a → pFr T e s.2.1 a = .inr n → rf = vl T e a) (hch : CH T e 9 (cst T e (pFr T e s.2.1) (cbg T e (decide (s.1 0 7 0 = 4)) (s.1 0 0 0) (.inr s.2.2))) z) : X G vX13_readTraveller (d + 10) (0, 0) 75 [(0, some (.ref (ad 13 0))), (1, some (.long (rf))), (3, some (.int (z)))] [] (MM ad nb b r I2 L2) (xT G (qLn T e ad nb b r ri I L (rdLn T e s))) := by
  have hV := hW.1
  have v0 := hV.1
  have v1 := hV.2.1
  have v2 := hV.2.2.1
  have v3 := hV.2.2.2.1
  have v4 := hV.2.2.2.2.1
  have v7 := hV.2.2.2.2.2.2.2.1
  have v9 := hV.2.2.2.2.2.2.2.2.2.1
  have v10 := hV.2.2.2.2.2.2.2.2.2.2.1
  have hB := hP.2.1
  have hk1 := lw_kd (T := T) (e := e) (a := s.2.2) (by rw [hl]; decide)
  refine x_iload_n dX13_readTraveller_75 rfl ?_
  refine x_iconst dX13_readTraveller_76 li_m1 ?_
  refine x_ic_ne 85 dX13_readTraveller_77 (by decide) (fun h77 => ?_) (fun h77 => ?_)
  · have hyes := hch.yes h77
    refine x_ls ?_ (mst_trav (d := d) (c := (cst T e (pFr T e s.2.1) (cbg T e (decide (s.1 0 7 0 = 4)) (s.1 0 0 0) (.inr s.2.2)))) hr hbn hT hP hW hZ hl f12 r2 hyes.2 hyes.1 u2 (fun a n h3 h4 => by rw [h3] at hch; exact hch.val h4))
    exact ⟨rfl, rfl, rfl, trivial⟩
  · refine x_aload_n dX13_readTraveller_80 rfl ?_
    refine x_iconst dX13_readTraveller_81 li_1 ?_
    refine x_cvv (m_flaw (d := d + 9) (f := 1) r2) kX13_146 dX13_readTraveller_82 rfl (Nat.le_of_ble_eq_true rfl) rfl rfl (Nat.le_of_ble_eq_true rfl) (fun Mu hq => ?_)
    obtain ⟨I3, rfl, r3, f3⟩ := hq
    refine x_ls ?_ (mst_trav (d := d) (c := (cf T e 1 (cst T e (pFr T e s.2.1) (cbg T e (decide (s.1 0 7 0 = 4)) (s.1 0 0 0) (.inr s.2.2))))) hr hbn hT hP hW hZ hl (f12.tr f3) r3 (fun a h => by generalize (cst T e (pFr T e s.2.1) (cbg T e (decide (s.1 0 7 0 = 4)) (s.1 0 0 0) (.inr s.2.2))) = cc at h; cases cc <;> cases h) (hch.no (by decide) h77) u2 (fun a n h3 h4 => by rw [h3] at hch; exact hch.val h4))
    exact ⟨rfl, rfl, rfl, trivial⟩
set_option maxRecDepth 100000 in
set_option maxHeartbeats 600000 in
theorem m_read_trav (hr : r = some ri) (hbn : ri < nb) (hT : YTp T e I) (hP : YPS T e s ri I L) (hW : PW s) (hZ : PZ s) (hl : lw T e s.2.2 = 8) : Mt G vX13_readTraveller (d + 10) (0, 0) [.ref (ad 13 0)] (MM ad nb b r I L) (qLn T e ad nb b r ri I L (rdLn T e s)) := by
  have hV := hW.1
  have v0 := hV.1
  have v1 := hV.2.1
  have v2 := hV.2.2.1
  have v3 := hV.2.2.2.1
  have v4 := hV.2.2.2.2.1
  have v7 := hV.2.2.2.2.2.2.2.1
  have v9 := hV.2.2.2.2.2.2.2.2.2.1
  have v10 := hV.2.2.2.2.2.2.2.2.2.2.1
  have hB := hP.2.1
  have hk1 := lw_kd (T := T) (e := e) (a := s.2.2) (by rw [hl]; decide)
  refine x_start (by decide) (Nat.le_of_ble_eq_true rfl) ?_
  refine x_aload_n dX13_readTraveller_0 rfl ?_
  refine x_aload_n dX13_readTraveller_1 rfl ?_
  refine g_M_read hr fX13_185 dX13_readTraveller_2 ?_
  refine g_MB_travellers fX13_343 dX13_readTraveller_5 hbn ?_
  refine x_top (y12_7 hB) ?_
  refine x_iconst dX13_readTraveller_8 li_4 ?_
  refine x_cvv (m_begins (d := d + 7) (x := s.1 0 7 0) (y := 4) (w := s.1 0 0 0) hr hbn (by omega) (by omega) (y12_0 hB) (by omega) hT hP.1 (fun a z => by cases z; omega)) kX13_276 dX13_readTraveller_9 rfl (Nat.le_of_ble_eq_true rfl) rfl rfl (Nat.le_of_ble_eq_true rfl) (fun Mu hq => ?_)
  obtain ⟨I1, L1, rfl, r1, f1⟩ := hq
  refine x_aload_n dX13_readTraveller_12 rfl ?_
  refine x_cvl (m_readFresh (d := d + 2) hr hbn (hT.fr f1) r1 (hP.2.2.fr f1)) kX13_280 dX13_readTraveller_13 rfl (Nat.le_of_ble_eq_true rfl) rfl rfl (Nat.le_of_ble_eq_true rfl) (fun rf Mu hq => ?_)
  obtain ⟨I2, L2, rfl, r2, f2, u2⟩ := hq
  have f12 := f1.tr f2
  refine x_lstore_n dX13_readTraveller_16 (by decide) rfl ?_
  refine x_aload_n dX13_readTraveller_17 rfl ?_
  refine x_ldcSw (n := 35) dX13_readTraveller_18 rfl ?_
  refine x_cvi (m_isWord (d := d + 4) (i := 35) (by decide) (by decide) r2) kX13_142 dX13_readTraveller_21 rfl (Nat.le_of_ble_eq_true rfl) rfl rfl (Nat.le_of_ble_eq_true rfl) (fun ru Mu hq => ?_)
  obtain ⟨rfl, rfl⟩ := hq
  refine x_if_eq 31 dX13_readTraveller_24 (by decide) (fun h24 => ?_) (fun h24 => ?_)
  · have g24 := bI_eq.mp h24
    refine x_aload_n dX13_readTraveller_31 rfl ?_
    refine x_ldcSw (n := 36) dX13_readTraveller_32 rfl ?_
    refine x_cvi (m_isWord (d := d + 4) (i := 36) (by decide) (by decide) r2) kX13_142 dX13_readTraveller_35 rfl (Nat.le_of_ble_eq_true rfl) rfl rfl (Nat.le_of_ble_eq_true rfl) (fun ru Mu hq => ?_)
    obtain ⟨rfl, rfl⟩ := hq
    refine x_if_eq 45 dX13_readTraveller_38 (by decide) (fun h38 => ?_) (fun h38 => ?_)
    · have g38 := bI_eq.mp h38
      refine x_aload_n dX13_readTraveller_45 rfl ?_
      refine x_ldcSw (n := 37) dX13_readTraveller_46 rfl ?_
      refine x_cvi (m_isWord (d := d + 4) (i := 37) (by decide) (by decide) r2) kX13_142 dX13_readTraveller_49 rfl (Nat.le_of_ble_eq_true rfl) rfl rfl (Nat.le_of_ble_eq_true rfl) (fun ru Mu hq => ?_)
      obtain ⟨rfl, rfl⟩ := hq
      refine x_if_eq 59 dX13_readTraveller_52 (by decide) (fun h52 => ?_) (fun h52 => ?_)
      · have g52 := bI_eq.mp h52
        refine x_aload_n dX13_readTraveller_59 rfl ?_
        refine x_ldcSw (n := 38) dX13_readTraveller_60 rfl ?_
        refine x_cvi (m_isWord (d := d + 4) (i := 38) (by decide) (by decide) r2) kX13_142 dX13_readTraveller_63 rfl (Nat.le_of_ble_eq_true rfl) rfl rfl (Nat.le_of_ble_eq_true rfl) (fun ru Mu hq => ?_)
        obtain ⟨rfl, rfl⟩ := hq
        refine x_if_eq 73 dX13_readTraveller_66 (by decide) (fun h66 => ?_) (fun h66 => ?_)
        · have g66 := bI_eq.mp h66
          refine x_iconst dX13_readTraveller_73 li_m1 ?_
          refine x_istore_n dX13_readTraveller_74 (by decide) rfl ?_
          refine x_ls ?_ (mst2_trav (d := d) hr hbn hT hP hW hZ hl f12 r2 u2 (by first | exact ch9_0 g24 | exact ch9_1 g24 g38 | exact ch9_2 g24 g38 g52 | exact ch9_3 g24 g38 g52 g66 | exact ch9_n g24 g38 g52 g66))
          exact ⟨rfl, rfl, rfl, trivial⟩
        · have g66 := bI_ne.mp h66
          refine x_iconst dX13_readTraveller_69 li_3 ?_
          refine x_goto 74 dX13_readTraveller_70 (by decide) ?_
          refine x_istore_n dX13_readTraveller_74 (by decide) rfl ?_
          refine x_ls ?_ (mst2_trav (d := d) hr hbn hT hP hW hZ hl f12 r2 u2 (by first | exact ch9_0 g24 | exact ch9_1 g24 g38 | exact ch9_2 g24 g38 g52 | exact ch9_3 g24 g38 g52 g66 | exact ch9_n g24 g38 g52 g66))
          exact ⟨rfl, rfl, rfl, trivial⟩
      · have g52 := bI_ne.mp h52
        refine x_iconst dX13_readTraveller_55 li_2 ?_
        refine x_goto 74 dX13_readTraveller_56 (by decide) ?_
        refine x_istore_n dX13_readTraveller_74 (by decide) rfl ?_
        refine x_ls ?_ (mst2_trav (d := d) hr hbn hT hP hW hZ hl f12 r2 u2 (by first | exact ch9_0 g24 | exact ch9_1 g24 g38 | exact ch9_2 g24 g38 g52 | exact ch9_3 g24 g38 g52 g66 | exact ch9_n g24 g38 g52 g66))
        exact ⟨rfl, rfl, rfl, trivial⟩
    · have g38 := bI_ne.mp h38
      refine x_iconst dX13_readTraveller_41 li_1 ?_
      refine x_goto 74 dX13_readTraveller_42 (by decide) ?_
      refine x_istore_n dX13_readTraveller_74 (by decide) rfl ?_
      refine x_ls ?_ (mst2_trav (d := d) hr hbn hT hP hW hZ hl f12 r2 u2 (by first | exact ch9_0 g24 | exact ch9_1 g24 g38 | exact ch9_2 g24 g38 g52 | exact ch9_3 g24 g38 g52 g66 | exact ch9_n g24 g38 g52 g66))
      exact ⟨rfl, rfl, rfl, trivial⟩
  · have g24 := bI_ne.mp h24
    refine x_iconst dX13_readTraveller_27 li_0 ?_
    refine x_goto 74 dX13_readTraveller_28 (by decide) ?_
    refine x_istore_n dX13_readTraveller_74 (by decide) rfl ?_
    refine x_ls ?_ (mst2_trav (d := d) hr hbn hT hP hW hZ hl f12 r2 u2 (by first | exact ch9_0 g24 | exact ch9_1 g24 g38 | exact ch9_2 g24 g38 g52 | exact ch9_3 g24 g38 g52 g66 | exact ch9_n g24 g38 g52 g66))
    exact ⟨rfl, rfl, rfl, trivial⟩
end M44
