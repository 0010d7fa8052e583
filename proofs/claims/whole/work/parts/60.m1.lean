section M1
variable {G : xG} {ad : Nat → Nat → Nat} {nb : Nat} {b r : Option Nat} {L : Nat → Nat → Nat → Int64} {V : sV} {I : Nat → Nat → Nat → Int32} {d : Nat}

/-- the model's border bi holds V -/
def YB (V : sV) (bi : Nat) (I : Nat → Nat → Nat → Int32) : Prop :=
  ((∀ k, k < 8 → I 12 bi k = nI (V 0 k 0)) ∧ I 12 bi 8 = nI (V 0 11 0) ∧ I 12 bi 9 = nI (V 0 8 0) ∧ I 12 bi 10 = nI (V 0 9 0) ∧ I 12 bi 11 = nI (V 0 10 0)) ∧
  (∀ l, l < V 0 1 0 → I 64 bi l = nI (V 1 l 0)) ∧ (∀ s, s < V 0 2 0 → I 65 bi s = nI (V 2 s 0) ∧ I 66 bi s = nI (V 3 s 0)) ∧ (∀ n, n < V 0 3 0 → I 67 bi n = nI (V 4 n 0)) ∧
  (∀ p, p < V 0 4 0 → I 68 bi p = nI (V 5 p 0) ∧ I 69 bi p = nO (-2) (V 6 p 0)) ∧ (∀ p q, p < 6 → q < 6 → I 70 bi (6 * p + q) = nI (V 7 p q) ∧ I 71 bi (6 * p + q) = nI (V 8 p q)) ∧
  (∀ t, t < V 0 7 0 → I 72 bi t = nI (V 9 t 0) ∧ I 73 bi t = nI (V 10 t 0) ∧ I 74 bi t = nI (V 11 t 0)) ∧ (∀ t s, t < 4 → s < 6 → I 75 bi (6 * t + s) = nI (V 12 t s)) ∧
  (∀ t, t < 4 → I 76 bi t = nI (V 13 t 0)) ∧ (∀ t i, t < 4 → i < V 13 t 0 → I 77 bi (5 * t + i) = nI (V 14 t i)) ∧ (∀ i, i < V 0 9 0 → I 78 bi i = nI (V 15 i 0) ∧ I 79 bi i = nI (V 16 i 0)) ∧
  (∀ s, s < 6 → 0 < V 0 0 0 → I 80 bi s = nO (-1) (V 17 s 0))
variable {bi : Nat}
theorem YB.sm {I' : Nat → Nat → Nat → Int32} (h : YB V bi I) (hs : ∀ s, s = 12 ∨ (64 ≤ s ∧ s ≤ 80) → I' s = I s) : YB V bi I' := by
  unfold YB at h ⊢
  simp only [hs 12 (by omega), hs 64 (by omega), hs 65 (by omega), hs 66 (by omega), hs 67 (by omega), hs 68 (by omega), hs 69 (by omega), hs 70 (by omega), hs 71 (by omega), hs 72 (by omega), hs 73 (by omega), hs 74 (by omega), hs 75 (by omega), hs 76 (by omega), hs 77 (by omega), hs 78 (by omega), hs 79 (by omega), hs 80 (by omega)]
  exact h

theorem y12_0 (h : YB V bi I) : I 12 bi 0 = nI (V 0 0 0) := h.1.1 0 (by decide)
theorem y12_1 (h : YB V bi I) : I 12 bi 1 = nI (V 0 1 0) := h.1.1 1 (by decide)
theorem y12_2 (h : YB V bi I) : I 12 bi 2 = nI (V 0 2 0) := h.1.1 2 (by decide)
theorem y12_3 (h : YB V bi I) : I 12 bi 3 = nI (V 0 3 0) := h.1.1 3 (by decide)
theorem y12_4 (h : YB V bi I) : I 12 bi 4 = nI (V 0 4 0) := h.1.1 4 (by decide)
theorem y12_5 (h : YB V bi I) : I 12 bi 5 = nI (V 0 5 0) := h.1.1 5 (by decide)
theorem y12_6 (h : YB V bi I) : I 12 bi 6 = nI (V 0 6 0) := h.1.1 6 (by decide)
theorem y12_7 (h : YB V bi I) : I 12 bi 7 = nI (V 0 7 0) := h.1.1 7 (by decide)
theorem y12_8 (h : YB V bi I) : I 12 bi 8 = nI (V 0 11 0) := h.1.2.1
theorem y12_9 (h : YB V bi I) : I 12 bi 9 = nI (V 0 8 0) := h.1.2.2.1
theorem y12_10 (h : YB V bi I) : I 12 bi 10 = nI (V 0 9 0) := h.1.2.2.2.1
theorem y12_11 (h : YB V bi I) : I 12 bi 11 = nI (V 0 10 0) := h.1.2.2.2.2
theorem y64 (h : YB V bi I) {l : Nat} (hl : l < V 0 1 0) : I 64 bi l = nI (V 1 l 0) := h.2.1 l hl
theorem y65 (h : YB V bi I) {l : Nat} (hl : l < V 0 2 0) : I 65 bi l = nI (V 2 l 0) := (h.2.2.1 l hl).1
theorem y66 (h : YB V bi I) {l : Nat} (hl : l < V 0 2 0) : I 66 bi l = nI (V 3 l 0) := (h.2.2.1 l hl).2
theorem y67 (h : YB V bi I) {l : Nat} (hl : l < V 0 3 0) : I 67 bi l = nI (V 4 l 0) := h.2.2.2.1 l hl
theorem y68 (h : YB V bi I) {l : Nat} (hl : l < V 0 4 0) : I 68 bi l = nI (V 5 l 0) := (h.2.2.2.2.1 l hl).1
theorem y72 (h : YB V bi I) {l : Nat} (hl : l < V 0 7 0) : I 72 bi l = nI (V 9 l 0) := (h.2.2.2.2.2.2.1 l hl).1
theorem y73 (h : YB V bi I) {l : Nat} (hl : l < V 0 7 0) : I 73 bi l = nI (V 10 l 0) := (h.2.2.2.2.2.2.1 l hl).2.1
theorem y74 (h : YB V bi I) {l : Nat} (hl : l < V 0 7 0) : I 74 bi l = nI (V 11 l 0) := (h.2.2.2.2.2.2.1 l hl).2.2
theorem y78 (h : YB V bi I) {l : Nat} (hl : l < V 0 9 0) : I 78 bi l = nI (V 15 l 0) := (h.2.2.2.2.2.2.2.2.2.2.1 l hl).1
theorem y79 (h : YB V bi I) {l : Nat} (hl : l < V 0 9 0) : I 79 bi l = nI (V 16 l 0) := (h.2.2.2.2.2.2.2.2.2.2.1 l hl).2
theorem y69 (h : YB V bi I) {l : Nat} (hl : l < V 0 4 0) : I 69 bi l = nO (-2) (V 6 l 0) := (h.2.2.2.2.1 l hl).2
theorem y70 (h : YB V bi I) {p q : Nat} (hp : p < 6) (hq : q < 6) : I 70 bi (6 * p + q) = nI (V 7 p q) := (h.2.2.2.2.2.1 p q hp hq).1
theorem y71 (h : YB V bi I) {p q : Nat} (hp : p < 6) (hq : q < 6) : I 71 bi (6 * p + q) = nI (V 8 p q) := (h.2.2.2.2.2.1 p q hp hq).2
theorem y75 (h : YB V bi I) {t s : Nat} (ht : t < 4) (hq : s < 6) : I 75 bi (6 * t + s) = nI (V 12 t s) := h.2.2.2.2.2.2.2.1 t s ht hq
theorem y76 (h : YB V bi I) {t : Nat} (ht : t < 4) : I 76 bi t = nI (V 13 t 0) := h.2.2.2.2.2.2.2.2.1 t ht
theorem y77 (h : YB V bi I) {t i : Nat} (ht : t < 4) (hi : i < V 13 t 0) : I 77 bi (5 * t + i) = nI (V 14 t i) := h.2.2.2.2.2.2.2.2.2.1 t i ht hi
theorem y80 (h : YB V bi I) {s : Nat} (hq : s < 6) (h0 : 0 < V 0 0 0) : I 80 bi s = nO (-1) (V 17 s 0) := h.2.2.2.2.2.2.2.2.2.2.2 s hq h0

/-- good and refused -/
def mG (I : Nat → Nat → Nat → Int32) (q : Nat) : Nat → Nat → Nat → Int32 := xu (xu I 13 0 1 (nI q)) 13 0 2 (-1)

set_option maxRecDepth 100000 in
set_option maxHeartbeats 4000000 in
theorem m_refused {y : Nat} : Mt G vX13_refused (d) (0, 0) [.ref (ad 13 0), .int (nI (y))] (MM ad nb b r I L) (qE (-1) (MM ad nb b r (mG I y) L)) := by
  refine x_start (by decide) (Nat.le_of_ble_eq_true rfl) ?_
  refine x_aload_n dX13_refused_0 rfl ?_
  refine x_iload_n dX13_refused_1 rfl ?_
  refine p_M_trouble fX13_75 dX13_refused_2 ?_
  refine x_aload_n dX13_refused_5 rfl ?_
  refine x_iconst dX13_refused_6 li_m1 ?_
  refine p_M_where fX13_9 dX13_refused_7 ?_
  refine x_iconst dX13_refused_10 li_m1 ?_
  refine x_iret dX13_refused_11 rfl ?_
  exact ⟨_, rfl, rfl, rfl⟩
set_option maxRecDepth 100000 in
set_option maxHeartbeats 4000000 in
theorem m_good {z : Int32} : Mt G vX13_good (d) (0, 0) [.ref (ad 13 0), .int (z)] (MM ad nb b r I L) (qE z (MM ad nb b r (mG I 0) L)) := by
  refine x_start (by decide) (Nat.le_of_ble_eq_true rfl) ?_
  refine x_aload_n dX13_good_0 rfl ?_
  refine x_iconst dX13_good_1 li_0 ?_
  refine p_M_trouble fX13_75 dX13_good_2 ?_
  refine x_aload_n dX13_good_5 rfl ?_
  refine x_iconst dX13_good_6 li_m1 ?_
  refine p_M_where fX13_9 dX13_good_7 ?_
  refine x_iload_n dX13_good_10 rfl ?_
  refine x_iret dX13_good_11 rfl ?_
  exact ⟨_, rfl, rfl, rfl⟩
set_option maxRecDepth 100000 in
set_option maxHeartbeats 4000000 in
theorem m_denied {y : Nat} : Mt G vX13_denied (d + 1) (0, 0) [.ref (ad 13 0), .int (nI (y))] (MM ad nb b r I L) (qE (nI 0) (MM ad nb b r (mG I y) L)) := by
  refine x_start (by decide) (Nat.le_of_ble_eq_true rfl) ?_
  refine x_aload_n dX13_denied_0 rfl ?_
  refine x_iload_n dX13_denied_1 rfl ?_
  refine x_cvi (m_refused (d := d)) kX13_78 dX13_denied_2 rfl (Nat.le_of_ble_eq_true rfl) rfl rfl (Nat.le_of_ble_eq_true rfl) (fun ru Mu hq => ?_)
  obtain ⟨rfl, rfl⟩ := hq
  refine x_pop dX13_denied_5 rfl ?_
  refine x_iconst dX13_denied_6 li_0 ?_
  refine x_zret dX13_denied_7 rfl rfl ?_
  exact ⟨_, rfl, rfl, rfl⟩
set_option maxRecDepth 100000 in
set_option maxHeartbeats 4000000 in
theorem m_granted  : Mt G vX13_granted (d + 1) (0, 0) [.ref (ad 13 0)] (MM ad nb b r I L) (qE (nI 1) (MM ad nb b r (mG I 0) L)) := by
  refine x_start (by decide) (Nat.le_of_ble_eq_true rfl) ?_
  refine x_aload_n dX13_granted_0 rfl ?_
  refine x_iconst dX13_granted_1 li_0 ?_
  refine x_cvi (m_good (d := d) (z := nI 0)) kX13_82 dX13_granted_2 rfl (Nat.le_of_ble_eq_true rfl) rfl rfl (Nat.le_of_ble_eq_true rfl) (fun ru Mu hq => ?_)
  obtain ⟨rfl, rfl⟩ := hq
  refine x_pop dX13_granted_5 rfl ?_
  refine x_iconst dX13_granted_6 li_1 ?_
  refine x_zret dX13_granted_7 rfl rfl ?_
  exact ⟨_, rfl, rfl, rfl⟩
set_option maxRecDepth 100000 in
set_option maxHeartbeats 4000000 in
theorem m_in {z : Int32} {lo hi : Nat} : Mt G vX13_in (d) (0, 0) [.int (z), .int (nI (lo)), .int (nI (hi))] (MM ad nb b r I L) (qE (bI (wth z lo hi)) (MM ad nb b r I L)) := by
  refine x_start (by decide) (Nat.le_of_ble_eq_true rfl) ?_
  refine x_iload_n dX13_in_0 rfl ?_
  refine x_iload_n dX13_in_1 rfl ?_
  refine x_ic_lt 14 dX13_in_2 (by decide) (fun h2 => ?_) (fun h2 => ?_)
  · have hw : wth z lo hi = false := decide_eq_false (fun k => k.1 h2)
    refine x_iconst dX13_in_14 li_0 ?_
    refine x_zret dX13_in_15 rfl rfl ?_
    rw [hw]
    exact ⟨_, rfl, rfl, rfl⟩
  · refine x_iload_n dX13_in_5 rfl ?_
    refine x_iload_n dX13_in_6 rfl ?_
    refine x_ic_gt 14 dX13_in_7 (by decide) (fun h7 => ?_) (fun h7 => ?_)
    · have hw : wth z lo hi = false := decide_eq_false (fun k => k.2 h7)
      refine x_iconst dX13_in_14 li_0 ?_
      refine x_zret dX13_in_15 rfl rfl ?_
      rw [hw]
      exact ⟨_, rfl, rfl, rfl⟩
    · have hw : wth z lo hi = true := decide_eq_true ⟨h2, h7⟩
      refine x_iconst dX13_in_10 li_1 ?_
      refine x_goto 15 dX13_in_11 (by decide) ?_
      refine x_zret dX13_in_15 rfl rfl ?_
      rw [hw]
      exact ⟨_, rfl, rfl, rfl⟩
set_option maxRecDepth 100000 in
set_option maxHeartbeats 4000000 in
theorem m_isSmell0 {z : Int32} (hn : b = none) : Mt G vX13_isSmell (d) (0, 0) [.ref (ad 13 0), .int (z)] (MM ad nb b r I L) (qE (nI 0) (MM ad nb b r I L)) := by
  refine x_start (by decide) (Nat.le_of_ble_eq_true rfl) ?_
  refine x_aload_n dX13_isSmell_0 rfl ?_
  refine g_M_borderN hn fX13_397 dX13_isSmell_1 ?_
  refine x_ifnullN 26 dX13_isSmell_4 (by decide) ?_
  refine x_iconst dX13_isSmell_26 li_0 ?_
  refine x_zret dX13_isSmell_27 rfl rfl ?_
  exact ⟨_, rfl, rfl, rfl⟩
set_option maxRecDepth 100000 in
set_option maxHeartbeats 4000000 in
theorem m_isSmell (hV : VW V) {bi : Nat} (hb : b = some bi) (hbn : bi < nb) (hB : YB V bi I) {z : Int32} : Mt G vX13_isSmell (d) (0, 0) [.ref (ad 13 0), .int (z)] (MM ad nb b r I L) (qE (bI (inr z (V 0 2 0))) (MM ad nb b r I L)) := by
  refine x_start (by decide) (Nat.le_of_ble_eq_true rfl) ?_
  refine x_aload_n dX13_isSmell_0 rfl ?_
  refine g_M_border hb fX13_397 dX13_isSmell_1 ?_
  refine x_ifnull dX13_isSmell_4 ?_
  refine x_iload_n dX13_isSmell_7 rfl ?_
  refine x_if_lt 26 dX13_isSmell_8 (by decide) (fun h8 => ?_) (fun h8 => ?_)
  · have hw : inr z (V 0 2 0) = false := decide_eq_false (fun k => k.1 h8)
    refine x_iconst dX13_isSmell_26 li_0 ?_
    refine x_zret dX13_isSmell_27 rfl rfl ?_
    rw [hw]
    exact ⟨_, rfl, rfl, rfl⟩
  · refine x_iload_n dX13_isSmell_11 rfl ?_
    refine x_aload_n dX13_isSmell_12 rfl ?_
    refine g_M_border hb fX13_397 dX13_isSmell_13 ?_
    refine g_MB_smells fX13_301 dX13_isSmell_16 hbn ?_
    refine x_top (y12_2 hB) ?_
    refine x_ic_ge 26 dX13_isSmell_19 (by decide) (fun h19 => ?_) (fun h19 => ?_)
    · have hw : inr z (V 0 2 0) = false := decide_eq_false (fun k => k.2 h19)
      refine x_iconst dX13_isSmell_26 li_0 ?_
      refine x_zret dX13_isSmell_27 rfl rfl ?_
      rw [hw]
      exact ⟨_, rfl, rfl, rfl⟩
    · have hw : inr z (V 0 2 0) = true := decide_eq_true ⟨h8, h19⟩
      refine x_iconst dX13_isSmell_22 li_1 ?_
      refine x_goto 27 dX13_isSmell_23 (by decide) ?_
      refine x_zret dX13_isSmell_27 rfl rfl ?_
      rw [hw]
      exact ⟨_, rfl, rfl, rfl⟩
set_option maxRecDepth 100000 in
set_option maxHeartbeats 4000000 in
theorem m_isNose0 {z : Int32} (hn : b = none) : Mt G vX13_isNose (d) (0, 0) [.ref (ad 13 0), .int (z)] (MM ad nb b r I L) (qE (nI 0) (MM ad nb b r I L)) := by
  refine x_start (by decide) (Nat.le_of_ble_eq_true rfl) ?_
  refine x_aload_n dX13_isNose_0 rfl ?_
  refine g_M_borderN hn fX13_397 dX13_isNose_1 ?_
  refine x_ifnullN 26 dX13_isNose_4 (by decide) ?_
  refine x_iconst dX13_isNose_26 li_0 ?_
  refine x_zret dX13_isNose_27 rfl rfl ?_
  exact ⟨_, rfl, rfl, rfl⟩
set_option maxRecDepth 100000 in
set_option maxHeartbeats 4000000 in
theorem m_isNose (hV : VW V) {bi : Nat} (hb : b = some bi) (hbn : bi < nb) (hB : YB V bi I) {z : Int32} : Mt G vX13_isNose (d) (0, 0) [.ref (ad 13 0), .int (z)] (MM ad nb b r I L) (qE (bI (inr z (V 0 3 0))) (MM ad nb b r I L)) := by
  refine x_start (by decide) (Nat.le_of_ble_eq_true rfl) ?_
  refine x_aload_n dX13_isNose_0 rfl ?_
  refine g_M_border hb fX13_397 dX13_isNose_1 ?_
  refine x_ifnull dX13_isNose_4 ?_
  refine x_iload_n dX13_isNose_7 rfl ?_
  refine x_if_lt 26 dX13_isNose_8 (by decide) (fun h8 => ?_) (fun h8 => ?_)
  · have hw : inr z (V 0 3 0) = false := decide_eq_false (fun k => k.1 h8)
    refine x_iconst dX13_isNose_26 li_0 ?_
    refine x_zret dX13_isNose_27 rfl rfl ?_
    rw [hw]
    exact ⟨_, rfl, rfl, rfl⟩
  · refine x_iload_n dX13_isNose_11 rfl ?_
    refine x_aload_n dX13_isNose_12 rfl ?_
    refine g_M_border hb fX13_397 dX13_isNose_13 ?_
    refine g_MB_noses fX13_318 dX13_isNose_16 hbn ?_
    refine x_top (y12_3 hB) ?_
    refine x_ic_ge 26 dX13_isNose_19 (by decide) (fun h19 => ?_) (fun h19 => ?_)
    · have hw : inr z (V 0 3 0) = false := decide_eq_false (fun k => k.2 h19)
      refine x_iconst dX13_isNose_26 li_0 ?_
      refine x_zret dX13_isNose_27 rfl rfl ?_
      rw [hw]
      exact ⟨_, rfl, rfl, rfl⟩
    · have hw : inr z (V 0 3 0) = true := decide_eq_true ⟨h8, h19⟩
      refine x_iconst dX13_isNose_22 li_1 ?_
      refine x_goto 27 dX13_isNose_23 (by decide) ?_
      refine x_zret dX13_isNose_27 rfl rfl ?_
      rw [hw]
      exact ⟨_, rfl, rfl, rfl⟩
set_option maxRecDepth 100000 in
set_option maxHeartbeats 4000000 in
theorem m_isPlace0 {z : Int32} (hn : b = none) : Mt G vX13_isPlace (d) (0, 0) [.ref (ad 13 0), .int (z)] (MM ad nb b r I L) (qE (nI 0) (MM ad nb b r I L)) := by
  refine x_start (by decide) (Nat.le_of_ble_eq_true rfl) ?_
  refine x_aload_n dX13_isPlace_0 rfl ?_
  refine g_M_borderN hn fX13_397 dX13_isPlace_1 ?_
  refine x_ifnullN 26 dX13_isPlace_4 (by decide) ?_
  refine x_iconst dX13_isPlace_26 li_0 ?_
  refine x_zret dX13_isPlace_27 rfl rfl ?_
  exact ⟨_, rfl, rfl, rfl⟩
set_option maxRecDepth 100000 in
set_option maxHeartbeats 4000000 in
theorem m_isPlace (hV : VW V) {bi : Nat} (hb : b = some bi) (hbn : bi < nb) (hB : YB V bi I) {z : Int32} : Mt G vX13_isPlace (d) (0, 0) [.ref (ad 13 0), .int (z)] (MM ad nb b r I L) (qE (bI (inr z (V 0 4 0))) (MM ad nb b r I L)) := by
  refine x_start (by decide) (Nat.le_of_ble_eq_true rfl) ?_
  refine x_aload_n dX13_isPlace_0 rfl ?_
  refine g_M_border hb fX13_397 dX13_isPlace_1 ?_
  refine x_ifnull dX13_isPlace_4 ?_
  refine x_iload_n dX13_isPlace_7 rfl ?_
  refine x_if_lt 26 dX13_isPlace_8 (by decide) (fun h8 => ?_) (fun h8 => ?_)
  · have hw : inr z (V 0 4 0) = false := decide_eq_false (fun k => k.1 h8)
    refine x_iconst dX13_isPlace_26 li_0 ?_
    refine x_zret dX13_isPlace_27 rfl rfl ?_
    rw [hw]
    exact ⟨_, rfl, rfl, rfl⟩
  · refine x_iload_n dX13_isPlace_11 rfl ?_
    refine x_aload_n dX13_isPlace_12 rfl ?_
    refine g_M_border hb fX13_397 dX13_isPlace_13 ?_
    refine g_MB_places fX13_230 dX13_isPlace_16 hbn ?_
    refine x_top (y12_4 hB) ?_
    refine x_ic_ge 26 dX13_isPlace_19 (by decide) (fun h19 => ?_) (fun h19 => ?_)
    · have hw : inr z (V 0 4 0) = false := decide_eq_false (fun k => k.2 h19)
      refine x_iconst dX13_isPlace_26 li_0 ?_
      refine x_zret dX13_isPlace_27 rfl rfl ?_
      rw [hw]
      exact ⟨_, rfl, rfl, rfl⟩
    · have hw : inr z (V 0 4 0) = true := decide_eq_true ⟨h8, h19⟩
      refine x_iconst dX13_isPlace_22 li_1 ?_
      refine x_goto 27 dX13_isPlace_23 (by decide) ?_
      refine x_zret dX13_isPlace_27 rfl rfl ?_
      rw [hw]
      exact ⟨_, rfl, rfl, rfl⟩
set_option maxRecDepth 100000 in
set_option maxHeartbeats 4000000 in
theorem m_isTraveller0 {z : Int32} (hn : b = none) : Mt G vX13_isTraveller (d) (0, 0) [.ref (ad 13 0), .int (z)] (MM ad nb b r I L) (qE (nI 0) (MM ad nb b r I L)) := by
  refine x_start (by decide) (Nat.le_of_ble_eq_true rfl) ?_
  refine x_aload_n dX13_isTraveller_0 rfl ?_
  refine g_M_borderN hn fX13_397 dX13_isTraveller_1 ?_
  refine x_ifnullN 26 dX13_isTraveller_4 (by decide) ?_
  refine x_iconst dX13_isTraveller_26 li_0 ?_
  refine x_zret dX13_isTraveller_27 rfl rfl ?_
  exact ⟨_, rfl, rfl, rfl⟩
set_option maxRecDepth 100000 in
set_option maxHeartbeats 4000000 in
theorem m_isTraveller (hV : VW V) {bi : Nat} (hb : b = some bi) (hbn : bi < nb) (hB : YB V bi I) {z : Int32} : Mt G vX13_isTraveller (d) (0, 0) [.ref (ad 13 0), .int (z)] (MM ad nb b r I L) (qE (bI (inr z (V 0 7 0))) (MM ad nb b r I L)) := by
  refine x_start (by decide) (Nat.le_of_ble_eq_true rfl) ?_
  refine x_aload_n dX13_isTraveller_0 rfl ?_
  refine g_M_border hb fX13_397 dX13_isTraveller_1 ?_
  refine x_ifnull dX13_isTraveller_4 ?_
  refine x_iload_n dX13_isTraveller_7 rfl ?_
  refine x_if_lt 26 dX13_isTraveller_8 (by decide) (fun h8 => ?_) (fun h8 => ?_)
  · have hw : inr z (V 0 7 0) = false := decide_eq_false (fun k => k.1 h8)
    refine x_iconst dX13_isTraveller_26 li_0 ?_
    refine x_zret dX13_isTraveller_27 rfl rfl ?_
    rw [hw]
    exact ⟨_, rfl, rfl, rfl⟩
  · refine x_iload_n dX13_isTraveller_11 rfl ?_
    refine x_aload_n dX13_isTraveller_12 rfl ?_
    refine g_M_border hb fX13_397 dX13_isTraveller_13 ?_
    refine g_MB_travellers fX13_343 dX13_isTraveller_16 hbn ?_
    refine x_top (y12_7 hB) ?_
    refine x_ic_ge 26 dX13_isTraveller_19 (by decide) (fun h19 => ?_) (fun h19 => ?_)
    · have hw : inr z (V 0 7 0) = false := decide_eq_false (fun k => k.2 h19)
      refine x_iconst dX13_isTraveller_26 li_0 ?_
      refine x_zret dX13_isTraveller_27 rfl rfl ?_
      rw [hw]
      exact ⟨_, rfl, rfl, rfl⟩
    · have hw : inr z (V 0 7 0) = true := decide_eq_true ⟨h8, h19⟩
      refine x_iconst dX13_isTraveller_22 li_1 ?_
      refine x_goto 27 dX13_isTraveller_23 (by decide) ?_
      refine x_zret dX13_isTraveller_27 rfl rfl ?_
      rw [hw]
      exact ⟨_, rfl, rfl, rfl⟩
set_option maxRecDepth 100000 in
set_option maxHeartbeats 4000000 in
theorem m_tries {t : Nat} (ht : t < 4) : Mt G vX13_tries (d) (0, 0) [.ref (ad 13 0), .int (nI (t))] (MM ad nb b r I L) (qV (fun M' => ∃ I', M' = MM ad nb b r I' L ∧ (∀ s, s < 6 → I' 88 0 s = I 85 0 (6 * t + s)) ∧ ∀ q, q ≠ 88 → I' q = I q)) := by
  have loop2 : ∀ (n : Nat) (k : Nat) (I1 : Nat → Nat → Nat → Int32), 6 - k < n → k ≤ 6 → (∀ s, s < k → I1 88 0 s = I 85 0 (6 * t + s)) → (∀ q, q ≠ 88 → I1 q = I q) → X G vX13_tries (d) (0, 0) 2 [(0, some (.ref (ad 13 0))), (1, some (.int (nI (t)))), (2, some (.int (nI (k))))] [] (MM ad nb b r I1 L) (xT G (qV (fun M' => ∃ I', M' = MM ad nb b r I' L ∧ (∀ s, s < 6 → I' 88 0 s = I 85 0 (6 * t + s)) ∧ ∀ q, q ≠ 88 → I' q = I q))) := by
    intro n
    induction n with
    | zero => intro k I1 h0; omega
    | succ n ih =>
      intro k I1 hn hk hi hs
      refine x_iload_n dX13_tries_2 rfl ?_
      refine x_bipush dX13_tries_3 lb_6 ?_
      refine x_icN_ge 31 dX13_tries_5 (by decide) (by omega) (by omega) (fun h5 => ?_) (fun h5 => ?_)
      · refine x_vret dX13_tries_31 rfl ?_
        obtain rfl : k = 6 := by omega
        exact ⟨rfl, _, rfl, hi, hs⟩
      · refine x_aload_n dX13_tries_8 rfl ?_
        refine g_M_x fX13_27 dX13_tries_9 ?_
        refine x_iload_n dX13_tries_12 rfl ?_
        refine x_aload_n dX13_tries_13 rfl ?_
        refine g_M_v fX13_17 dX13_tries_14 ?_
        refine x_bipush dX13_tries_17 lb_6 ?_
        refine x_iload_n dX13_tries_19 rfl ?_
        refine x_imulN dX13_tries_20 ?_
        refine x_iload_n dX13_tries_21 rfl ?_
        refine x_iaddN dX13_tries_22 ?_
        refine x_iald dX13_tries_23 rfl rfl (Nat.le_of_ble_eq_true rfl) (by first | exact Nat.le_of_ble_eq_true rfl | assumption | omega) ?_
        refine x_iast dX13_tries_24 rfl rfl (Nat.le_of_ble_eq_true rfl) (by first | exact Nat.le_of_ble_eq_true rfl | assumption | omega) ?_
        refine x_iincN 1 dX13_tries_25 li_1 rfl (by decide) rfl ?_
        refine x_goto 2 dX13_tries_28 (by decide) ?_
        refine x_ls ?_ (ih (k + 1) _ (by omega) (by omega) (fun s h => ?_) (fun q hq => ?_))
        · exact ⟨rfl, rfl, rfl, trivial⟩
        · rw [xu_at]
          by_cases e0 : s = k
          · rw [if_pos e0, e0, hs 85 (by decide)]
          · rw [if_neg e0]; exact hi s (by omega)
        · rw [← hs q hq]; funext x y; rw [xu_ns hq]
  refine x_start (by decide) (Nat.le_of_ble_eq_true rfl) ?_
  refine x_iconst dX13_tries_0 li_0 ?_
  refine x_istore_n dX13_tries_1 (by decide) rfl ?_
  refine x_ls ?_ (loop2 7 0 I (by omega) (by omega) (fun s h => absurd h (Nat.not_lt_zero s)) (fun _ _ => rfl))
  exact ⟨rfl, rfl, rfl, trivial⟩
set_option maxRecDepth 100000 in
set_option maxHeartbeats 4000000 in
theorem m_bfades (hV : VW V) {bi : Nat} (hbn : bi < nb) (hB : YB V bi I) {s : Nat} (hs : s < V 0 2 0) : Mt G vX12_fades (d) (0, 0) [.ref (ad 12 bi), .int (nI (s))] (MM ad nb b r I L) (qE (nI (fd (V 2 s 0))) (MM ad nb b r I L)) := by
  have hk5 := (hV.2.2.2.2.2.2.2.2.2.2.2.2.2.1 s hs).1
  have v2 := hV.2.2.1
  refine x_start (by decide) (Nat.le_of_ble_eq_true rfl) ?_
  refine x_aload_n dX12_fades_0 rfl ?_
  refine g_MB_kind fX12_15 dX12_fades_1 hbn ?_
  refine x_iload_n dX12_fades_4 rfl ?_
  refine x_iald dX12_fades_5 rfl rfl hbn (by first | exact Nat.le_of_ble_eq_true rfl | assumption | omega) ?_
  refine x_top (y65 hB (by first | assumption | omega)) ?_
  refine x_iconst dX12_fades_6 li_1 ?_
  refine x_icN_eq 20 dX12_fades_7 (by decide) (by omega) (by omega) (fun h7 => ?_) (fun h7 => ?_)
  · refine x_iconst dX12_fades_20 li_1 ?_
    refine x_goto 39 dX12_fades_21 (by decide) ?_
    refine x_iret dX12_fades_39 rfl ?_
    first
      | (rw [show V 2 s 0 = 1 from h7]; exact ⟨_, rfl, rfl, rfl⟩)
      | (rw [show V 2 s 0 = 3 from h31]; exact ⟨_, rfl, rfl, rfl⟩)
      | (rw [show V 2 s 0 = 4 by omega]; exact ⟨_, rfl, rfl, rfl⟩)
      | (rcases (show V 2 s 0 = 0 ∨ V 2 s 0 = 2 by omega) with e0 | e0 <;> (rw [e0]; exact ⟨_, rfl, rfl, rfl⟩))
  · refine x_aload_n dX12_fades_10 rfl ?_
    refine g_MB_kind fX12_15 dX12_fades_11 hbn ?_
    refine x_iload_n dX12_fades_14 rfl ?_
    refine x_iald dX12_fades_15 rfl rfl hbn (by first | exact Nat.le_of_ble_eq_true rfl | assumption | omega) ?_
    refine x_top (y65 hB (by first | assumption | omega)) ?_
    refine x_iconst dX12_fades_16 li_4 ?_
    refine x_icN_ne 24 dX12_fades_17 (by decide) (by omega) (by omega) (fun h17 => ?_) (fun h17 => ?_)
    · refine x_aload_n dX12_fades_24 rfl ?_
      refine g_MB_kind fX12_15 dX12_fades_25 hbn ?_
      refine x_iload_n dX12_fades_28 rfl ?_
      refine x_iald dX12_fades_29 rfl rfl hbn (by first | exact Nat.le_of_ble_eq_true rfl | assumption | omega) ?_
      refine x_top (y65 hB (by first | assumption | omega)) ?_
      refine x_iconst dX12_fades_30 li_3 ?_
      refine x_icN_ne 38 dX12_fades_31 (by decide) (by omega) (by omega) (fun h31 => ?_) (fun h31 => ?_)
      · refine x_iconst dX12_fades_38 li_2 ?_
        refine x_iret dX12_fades_39 rfl ?_
        first
          | (rw [show V 2 s 0 = 1 from h7]; exact ⟨_, rfl, rfl, rfl⟩)
          | (rw [show V 2 s 0 = 3 from h31]; exact ⟨_, rfl, rfl, rfl⟩)
          | (rw [show V 2 s 0 = 4 by omega]; exact ⟨_, rfl, rfl, rfl⟩)
          | (rcases (show V 2 s 0 = 0 ∨ V 2 s 0 = 2 by omega) with e0 | e0 <;> (rw [e0]; exact ⟨_, rfl, rfl, rfl⟩))
      · refine x_iconst dX12_fades_34 li_4 ?_
        refine x_goto 39 dX12_fades_35 (by decide) ?_
        refine x_iret dX12_fades_39 rfl ?_
        first
          | (rw [show V 2 s 0 = 1 from h7]; exact ⟨_, rfl, rfl, rfl⟩)
          | (rw [show V 2 s 0 = 3 from h31]; exact ⟨_, rfl, rfl, rfl⟩)
          | (rw [show V 2 s 0 = 4 by omega]; exact ⟨_, rfl, rfl, rfl⟩)
          | (rcases (show V 2 s 0 = 0 ∨ V 2 s 0 = 2 by omega) with e0 | e0 <;> (rw [e0]; exact ⟨_, rfl, rfl, rfl⟩))
    · refine x_iconst dX12_fades_20 li_1 ?_
      refine x_goto 39 dX12_fades_21 (by decide) ?_
      refine x_iret dX12_fades_39 rfl ?_
      first
        | (rw [show V 2 s 0 = 1 from h7]; exact ⟨_, rfl, rfl, rfl⟩)
        | (rw [show V 2 s 0 = 3 from h31]; exact ⟨_, rfl, rfl, rfl⟩)
        | (rw [show V 2 s 0 = 4 by omega]; exact ⟨_, rfl, rfl, rfl⟩)
        | (rcases (show V 2 s 0 = 0 ∨ V 2 s 0 = 2 by omega) with e0 | e0 <;> (rw [e0]; exact ⟨_, rfl, rfl, rfl⟩))

theorem mx1 {a c : Nat} (ha : a < 2 ^ 30) (hc : c < 2 ^ 30) (h : nI a - nI c ≤ 0) : a - c = 0 := by
  have h1 := pk_sub_toInt ha hc
  have h2 := Int32.le_iff_toInt_le.mp h
  rw [h1] at h2
  have : ((a : Int) - (c : Int)) ≤ 0 := h2
  omega
theorem mx2 {a c : Nat} (ha : a < 2 ^ 30) (hc : c < 2 ^ 30) (h : ¬ nI a - nI c ≤ 0) : nI a - nI c = nI (a - c) := by
  have h1 := pk_sub_toInt ha hc
  have h2 : ¬ (nI a - nI c).toInt ≤ (0 : Int32).toInt := fun z => h (Int32.le_iff_toInt_le.mpr z)
  rw [h1] at h2
  have : ¬ ((a : Int) - (c : Int)) ≤ 0 := h2
  exact pk_sub (by omega)

set_option maxRecDepth 100000 in
set_option maxHeartbeats 4000000 in
theorem m_fades (hV : VW V) {bi : Nat} (hb : b = some bi) (hbn : bi < nb) (hB : YB V bi I) {g : Nat → Nat} {H : Nat} (hH : H ≤ 1000) (hx : ∀ s, s < V 0 2 0 → I 88 0 s = nI (g s)) (hg : ∀ s, s < V 0 2 0 → g s ≤ 198) : Mt G vX13_fades (d + 1) (0, 0) [.ref (ad 13 0), .int (nI (H))] (MM ad nb b r I L) (qV (fun M' => ∃ I', M' = MM ad nb b r I' L ∧ (∀ s, s < V 0 2 0 → I' 88 0 s = nI (g s - fd (V 2 s 0) * H)) ∧ (∀ s, V 0 2 0 ≤ s → I' 88 0 s = I 88 0 s) ∧ ∀ q, q ≠ 88 → I' q = I q)) := by
  have v2 := hV.2.2.1
  have loop2 : ∀ (n : Nat) (k : Nat) (I1 : Nat → Nat → Nat → Int32), V 0 2 0 - k < n → k ≤ V 0 2 0 → (∀ s, s < k → I1 88 0 s = nI (g s - fd (V 2 s 0) * H)) → (∀ s, k ≤ s → I1 88 0 s = I 88 0 s) → (∀ q, q ≠ 88 → I1 q = I q) → X G vX13_fades (d + 1) (0, 0) 2 [(0, some (.ref (ad 13 0))), (1, some (.int (nI (H)))), (2, some (.int (nI (k))))] [] (MM ad nb b r I1 L) (xT G (qV (fun M' => ∃ I', M' = MM ad nb b r I' L ∧ (∀ s, s < V 0 2 0 → I' 88 0 s = nI (g s - fd (V 2 s 0) * H)) ∧ (∀ s, V 0 2 0 ≤ s → I' 88 0 s = I 88 0 s) ∧ ∀ q, q ≠ 88 → I' q = I q))) := by
    intro n
    induction n with
    | zero => intro k I1 h0; omega
    | succ n ih =>
      intro k I1 hn hk hi h2 hs
      have hB := hB.sm (I' := I1) (fun q hq => hs q (by omega))
      refine x_iload_n dX13_fades_2 rfl ?_
      refine x_aload_n dX13_fades_3 rfl ?_
      refine g_M_border hb fX13_397 dX13_fades_4 ?_
      refine g_MB_smells fX13_301 dX13_fades_7 hbn ?_
      refine x_top (y12_2 hB) ?_
      refine x_icN_ge 52 dX13_fades_10 (by decide) (by omega) (by omega) (fun h10 => ?_) (fun h10 => ?_)
      · refine x_vret dX13_fades_52 rfl ?_
        obtain rfl : k = V 0 2 0 := by omega
        exact ⟨rfl, _, rfl, hi, h2, hs⟩
      · have hk2 : k < V 0 2 0 := h10
        have hk5 := (hV.2.2.2.2.2.2.2.2.2.2.2.2.2.1 k hk2).1
        have hfd := fd_le _ hk5
        have hm : H * fd (V 2 k 0) ≤ 1000 * 4 := Nat.mul_le_mul hH hfd
        have hgk := hg k hk2
        refine x_aload_n dX13_fades_13 rfl ?_
        refine g_M_x fX13_27 dX13_fades_14 ?_
        refine x_iload_n dX13_fades_17 rfl ?_
        refine x_iald dX13_fades_18 rfl rfl (Nat.le_of_ble_eq_true rfl) (by first | exact Nat.le_of_ble_eq_true rfl | assumption | omega) ?_
        rw [h2 k (Nat.le_refl k), hx k (by omega)]
        refine x_iload_n dX13_fades_19 rfl ?_
        refine x_aload_n dX13_fades_20 rfl ?_
        refine g_M_border hb fX13_397 dX13_fades_21 ?_
        refine x_iload_n dX13_fades_24 rfl ?_
        refine x_cvi (m_bfades (d := d) (s := k) hV hbn hB hk2) kX13_405 dX13_fades_25 rfl hbn rfl rfl (Nat.le_of_ble_eq_true rfl) (fun ru Mu hq => ?_)
        obtain ⟨rfl, rfl⟩ := hq
        refine x_imulN dX13_fades_28 ?_
        refine x_isub dX13_fades_29 ?_
        refine x_istore_n dX13_fades_30 (by decide) rfl ?_
        refine x_aload_n dX13_fades_31 rfl ?_
        refine g_M_x fX13_27 dX13_fades_32 ?_
        refine x_iload_n dX13_fades_35 rfl ?_
        refine x_iload_n dX13_fades_36 rfl ?_
        refine x_if_le 44 dX13_fades_37 (by decide) (fun h37 => ?_) (fun h37 => ?_)
        · have en : nI 0 = nI (g k - fd (V 2 k 0) * H) := by rw [Nat.mul_comm (fd (V 2 k 0)) H, mx1 (by omega) (by omega) h37]
          refine x_iconst dX13_fades_44 li_0 ?_
          refine x_iast dX13_fades_45 rfl rfl (Nat.le_of_ble_eq_true rfl) (by first | exact Nat.le_of_ble_eq_true rfl | assumption | omega) ?_
          refine x_iincN 1 dX13_fades_46 li_1 rfl (by decide) rfl ?_
          refine x_goto 2 dX13_fades_49 (by decide) ?_
          refine x_ls ?_ (ih (k + 1) _ (by omega) (by omega) (fun s h => ?_) (fun s h => ?_) (fun q hq => ?_))
          · exact ⟨rfl, rfl, rfl, trivial⟩
          · rw [xu_at]
            by_cases e0 : s = k
            · rw [if_pos e0, e0]; exact en
            · rw [if_neg e0]; exact hi s (by omega)
          · rw [xu_nk (by omega)]; exact h2 s (by omega)
          · rw [← hs q hq]; funext x y; rw [xu_ns hq]
        · have en : nI (g k) - nI (H * fd (V 2 k 0)) = nI (g k - fd (V 2 k 0) * H) := by rw [Nat.mul_comm (fd (V 2 k 0)) H]; exact mx2 (by omega) (by omega) h37
          refine x_iload_n dX13_fades_40 rfl ?_
          refine x_goto 45 dX13_fades_41 (by decide) ?_
          refine x_iast dX13_fades_45 rfl rfl (Nat.le_of_ble_eq_true rfl) (by first | exact Nat.le_of_ble_eq_true rfl | assumption | omega) ?_
          refine x_iincN 1 dX13_fades_46 li_1 rfl (by decide) rfl ?_
          refine x_goto 2 dX13_fades_49 (by decide) ?_
          refine x_ls ?_ (ih (k + 1) _ (by omega) (by omega) (fun s h => ?_) (fun s h => ?_) (fun q hq => ?_))
          · exact ⟨rfl, rfl, rfl, trivial⟩
          · rw [xu_at]
            by_cases e0 : s = k
            · rw [if_pos e0, e0]; exact en
            · rw [if_neg e0]; exact hi s (by omega)
          · rw [xu_nk (by omega)]; exact h2 s (by omega)
          · rw [← hs q hq]; funext x y; rw [xu_ns hq]
  refine x_start (by decide) (Nat.le_of_ble_eq_true rfl) ?_
  refine x_iconst dX13_fades_0 li_0 ?_
  refine x_istore_n dX13_fades_1 (by decide) rfl ?_
  refine x_ls ?_ (loop2 (V 0 2 0 + 1) 0 I (by omega) (by omega) (fun s h => absurd h (Nat.not_lt_zero s)) (fun _ _ => rfl) (fun _ _ => rfl))
  exact ⟨rfl, rfl, rfl, trivial⟩
set_option maxRecDepth 100000 in
set_option maxHeartbeats 4000000 in
theorem m_coveredOf (hV : VW V) {bi : Nat} (hb : b = some bi) (hbn : bi < nb) (hB : YB V bi I) {g : Nat → Nat} (hx : ∀ s, s < V 0 2 0 → I 88 0 s = nI (g s)) (hg : ∀ s, s < V 0 2 0 → g s ≤ 198) {s : Nat} (hs : s < V 0 2 0) : Mt G vX13_coveredOf (d) (0, 0) [.ref (ad 13 0), .int (nI (s))] (MM ad nb b r I L) (qE (nI (unc V (fun s => g s / 2) s)) (MM ad nb b r I L)) := by
  have v2 := hV.2.2.1
  have hgs := hg s hs
  have hcb : ∀ k, k ≤ V 0 2 0 → cvr V (fun s => g s / 2) k ≤ 99 := fun k hk => cvr_le k (fun i hi => by have := hg i (by omega); show g i / 2 ≤ 99; omega)
  have hk5 := (hV.2.2.2.2.2.2.2.2.2.2.2.2.2.1 s hs).1
  have loop26 : ∀ (n : Nat) (k : Nat), V 0 2 0 - k < n → k ≤ V 0 2 0 → ¬ V 2 s 0 = 2 → X G vX13_coveredOf (d) (0, 0) 26 [(0, some (.ref (ad 13 0))), (1, some (.int (nI (s)))), (2, some (.int (nI (cvr V (fun s => g s / 2) k)))), (3, some (.int (nI (k))))] [] (MM ad nb b r I L) (xT G (qE (nI (unc V (fun s => g s / 2) s)) (MM ad nb b r I L))) := by
    intro n
    induction n with
    | zero => intro k h0; omega
    | succ n ih =>
      intro k hn hk h10
      have hck := hcb k hk
      refine x_iload_n dX13_coveredOf_26 rfl ?_
      refine x_aload_n dX13_coveredOf_27 rfl ?_
      refine g_M_border hb fX13_397 dX13_coveredOf_28 ?_
      refine g_MB_smells fX13_301 dX13_coveredOf_31 hbn ?_
      refine x_top (y12_2 hB) ?_
      refine x_icN_ge 77 dX13_coveredOf_34 (by decide) (by omega) (by omega) (fun h34 => ?_) (fun h34 => ?_)
      · obtain rfl : k = V 0 2 0 := by omega
        refine x_aload_n dX13_coveredOf_77 rfl ?_
        refine g_M_x fX13_27 dX13_coveredOf_78 ?_
        refine x_iload_n dX13_coveredOf_81 rfl ?_
        refine x_iald dX13_coveredOf_82 rfl rfl (Nat.le_of_ble_eq_true rfl) (by first | exact Nat.le_of_ble_eq_true rfl | assumption | omega) ?_
        refine x_top (hx _ (by first | assumption | omega)) ?_
        refine x_iconst dX13_coveredOf_83 li_2 ?_
        refine x_idivN dX13_coveredOf_84 (by omega) (by omega) (by omega) ?_
        refine x_iload_n dX13_coveredOf_85 rfl ?_
        refine x_iconst dX13_coveredOf_86 li_2 ?_
        refine x_idivN dX13_coveredOf_87 (by omega) (by omega) (by omega) ?_
        refine x_isub dX13_coveredOf_88 ?_
        refine x_istore_n dX13_coveredOf_89 (by decide) rfl ?_
        refine x_iload_n dX13_coveredOf_90 rfl ?_
        refine x_if_le 98 dX13_coveredOf_91 (by decide) (fun h91 => ?_) (fun h91 => ?_)
        · refine x_iconst dX13_coveredOf_98 li_0 ?_
          refine x_iret dX13_coveredOf_99 rfl ?_
          first
            | exact ⟨_, rfl, by unfold unc; rw [if_neg h10]; exact mx2 (by omega) (by omega) h91, rfl⟩
            | exact ⟨_, rfl, by unfold unc; rw [if_neg h10, mx1 (by omega) (by omega) h91], rfl⟩
        · refine x_iload_n dX13_coveredOf_94 rfl ?_
          refine x_goto 99 dX13_coveredOf_95 (by decide) ?_
          refine x_iret dX13_coveredOf_99 rfl ?_
          first
            | exact ⟨_, rfl, by unfold unc; rw [if_neg h10]; exact mx2 (by omega) (by omega) h91, rfl⟩
            | exact ⟨_, rfl, by unfold unc; rw [if_neg h10, mx1 (by omega) (by omega) h91], rfl⟩
      · have hk2 : k < V 0 2 0 := h34
        have hgk := hg k hk2
        have hkk5 := (hV.2.2.2.2.2.2.2.2.2.2.2.2.2.1 k hk2).1
        refine x_aload_n dX13_coveredOf_37 rfl ?_
        refine g_M_border hb fX13_397 dX13_coveredOf_38 ?_
        refine g_MB_kind fX13_313 dX13_coveredOf_41 hbn ?_
        refine x_iload_n dX13_coveredOf_44 rfl ?_
        refine x_iald dX13_coveredOf_45 rfl rfl hbn (by first | exact Nat.le_of_ble_eq_true rfl | assumption | omega) ?_
        refine x_top (y65 hB (by first | assumption | omega)) ?_
        refine x_iconst dX13_coveredOf_46 li_2 ?_
        refine x_icN_ne 71 dX13_coveredOf_47 (by decide) (by omega) (by omega) (fun h47 => ?_) (fun h47 => ?_)
        · have ec : some (Value.int (nI (cvr V (fun s => g s / 2) k))) = some (Value.int (nI (cvr V (fun s => g s / 2) (k + 1)))) := by rw [cvr, if_neg h47]
          refine x_iincN 1 dX13_coveredOf_71 li_1 rfl (by decide) rfl ?_
          refine x_goto 26 dX13_coveredOf_74 (by decide) ?_
          refine x_ls ?_ (ih (k + 1) (by omega) (by omega) h10)
          exact ⟨rfl, rfl, ec, rfl, trivial⟩
        · refine x_aload_n dX13_coveredOf_50 rfl ?_
          refine g_M_x fX13_27 dX13_coveredOf_51 ?_
          refine x_iload_n dX13_coveredOf_54 rfl ?_
          refine x_iald dX13_coveredOf_55 rfl rfl (Nat.le_of_ble_eq_true rfl) (by first | exact Nat.le_of_ble_eq_true rfl | assumption | omega) ?_
          refine x_top (hx _ (by first | assumption | omega)) ?_
          refine x_iconst dX13_coveredOf_56 li_2 ?_
          refine x_idivN dX13_coveredOf_57 (by omega) (by omega) (by omega) ?_
          refine x_iload_n dX13_coveredOf_58 rfl ?_
          refine x_icN_le 71 dX13_coveredOf_59 (by decide) (by omega) (by omega) (fun h59 => ?_) (fun h59 => ?_)
          · have ec : some (Value.int (nI (cvr V (fun s => g s / 2) k))) = some (Value.int (nI (cvr V (fun s => g s / 2) (k + 1)))) := by rw [cvr, if_pos h47, show max (cvr V (fun s => g s / 2) k) (g k / 2) = cvr V (fun s => g s / 2) k by omega]
            refine x_iincN 1 dX13_coveredOf_71 li_1 rfl (by decide) rfl ?_
            refine x_goto 26 dX13_coveredOf_74 (by decide) ?_
            refine x_ls ?_ (ih (k + 1) (by omega) (by omega) h10)
            exact ⟨rfl, rfl, ec, rfl, trivial⟩
          · have ec : some (Value.int (nI (g k / 2))) = some (Value.int (nI (cvr V (fun s => g s / 2) (k + 1)))) := by rw [cvr, if_pos h47, show max (cvr V (fun s => g s / 2) k) (g k / 2) = g k / 2 by omega]
            refine x_aload_n dX13_coveredOf_62 rfl ?_
            refine g_M_x fX13_27 dX13_coveredOf_63 ?_
            refine x_iload_n dX13_coveredOf_66 rfl ?_
            refine x_iald dX13_coveredOf_67 rfl rfl (Nat.le_of_ble_eq_true rfl) (by first | exact Nat.le_of_ble_eq_true rfl | assumption | omega) ?_
            refine x_top (hx _ (by first | assumption | omega)) ?_
            refine x_iconst dX13_coveredOf_68 li_2 ?_
            refine x_idivN dX13_coveredOf_69 (by omega) (by omega) (by omega) ?_
            refine x_istore_n dX13_coveredOf_70 (by decide) rfl ?_
            refine x_iincN 1 dX13_coveredOf_71 li_1 rfl (by decide) rfl ?_
            refine x_goto 26 dX13_coveredOf_74 (by decide) ?_
            refine x_ls ?_ (ih (k + 1) (by omega) (by omega) h10)
            exact ⟨rfl, rfl, ec, rfl, trivial⟩
  refine x_start (by decide) (Nat.le_of_ble_eq_true rfl) ?_
  refine x_aload_n dX13_coveredOf_0 rfl ?_
  refine g_M_border hb fX13_397 dX13_coveredOf_1 ?_
  refine g_MB_kind fX13_313 dX13_coveredOf_4 hbn ?_
  refine x_iload_n dX13_coveredOf_7 rfl ?_
  refine x_iald dX13_coveredOf_8 rfl rfl hbn (by first | exact Nat.le_of_ble_eq_true rfl | assumption | omega) ?_
  refine x_top (y65 hB (by first | assumption | omega)) ?_
  refine x_iconst dX13_coveredOf_9 li_2 ?_
  refine x_icN_ne 22 dX13_coveredOf_10 (by decide) (by omega) (by omega) (fun h10 => ?_) (fun h10 => ?_)
  · refine x_iconst dX13_coveredOf_22 li_0 ?_
    refine x_istore_n dX13_coveredOf_23 (by decide) rfl ?_
    refine x_iconst dX13_coveredOf_24 li_0 ?_
    refine x_istore_n dX13_coveredOf_25 (by decide) rfl ?_
    refine x_ls ?_ (loop26 (V 0 2 0 + 1) 0 (by omega) (by omega) h10)
    exact ⟨rfl, rfl, rfl, rfl, trivial⟩
  · refine x_aload_n dX13_coveredOf_13 rfl ?_
    refine g_M_x fX13_27 dX13_coveredOf_14 ?_
    refine x_iload_n dX13_coveredOf_17 rfl ?_
    refine x_iald dX13_coveredOf_18 rfl rfl (Nat.le_of_ble_eq_true rfl) (by first | exact Nat.le_of_ble_eq_true rfl | assumption | omega) ?_
    refine x_top (hx _ (by first | assumption | omega)) ?_
    refine x_iconst dX13_coveredOf_19 li_2 ?_
    refine x_idivN dX13_coveredOf_20 (by omega) (by omega) (by omega) ?_
    refine x_iret dX13_coveredOf_21 rfl ?_
    exact ⟨_, rfl, by unfold unc; rw [if_pos (by omega)], rfl⟩
end M1
