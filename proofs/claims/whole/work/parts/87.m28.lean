section M28
variable {G : xG} {ad : Nat → Nat → Nat} {nb : Nat} {b r : Option Nat} {L : Nat → Nat → Nat → Int64} {V : sV} {I : Nat → Nat → Nat → Int32} {d : Nat}
theorem cb {c : Nat} (hc : c < 32) : ((nI c).toInt64).toBitVec = BitVec.ofNat 64 c := by
  have : ∀ c, c < 32 → ((nI c).toInt64).toBitVec = BitVec.ofNat 64 c := by decide +kernel
  exact this c hc
theorem sh5 (w : Int64) {c : Nat} (hc : c < 32) : 32 * w + (nI c).toInt64 = w <<< ((nI 5).toInt64 &&& 63) ||| (nI c).toInt64 := by
  apply Int64.toBitVec_inj.mp
  rw [Int64.toBitVec_add, Int64.toBitVec_mul, Int64.toBitVec_or, Int64.toBitVec_shiftLeft, cb hc]
  have e : ((nI 5).toInt64 &&& 63).toBitVec.smod 64 = 5#64 := by decide +kernel
  have e1 : w.toBitVec <<< (((nI 5).toInt64 &&& 63).toBitVec.smod 64) = w.toBitVec <<< 5 := by rw [e]; rfl
  rw [e1]
  have e2 : (32 : Int64).toBitVec * w.toBitVec = w.toBitVec <<< 5 := by
    rw [BitVec.mul_comm, BitVec.shiftLeft_eq_mul_twoPow]
    rfl
  rw [e2]
  have hz : (w.toBitVec <<< 5) &&& BitVec.ofNat 64 c = 0#64 := by
    apply BitVec.eq_of_getLsbD_eq
    intro i hi
    rw [BitVec.getLsbD_and, BitVec.getLsbD_shiftLeft]
    by_cases h : i < 5
    · simp [h]
    · have : (BitVec.ofNat 64 c).getLsbD i = false := by
        rw [BitVec.getLsbD_ofNat]
        have : c.testBit i = false := Nat.testBit_lt_two_pow (Nat.lt_of_lt_of_le hc (Nat.pow_le_pow_right (n := 2) (by omega) (show 5 ≤ i by omega)))
        rw [this, Bool.and_false]
      rw [this, Bool.and_false]; simp
  exact BitVec.add_eq_or_of_and_eq_zero _ _ hz


variable {T : Nat → Nat} {e a : Nat}
def bA (T : Nat → Nat) (e k : Nat) : Int32 := if k < e then nI (T k) else -1
def mso (k : Nat) : Nat := [1, 2, 3, 4, 4, 0].getD k 0
/-- the model's token behind the first a bytes -/
def YTK (T : Nat → Nat) (e a : Nat) (I : Nat → Nat → Nat → Int32) (L : Nat → Nat → Nat → Int64) : Prop := (I 13 0 7 = nI e ∧ I 13 0 10 = nI (tA T e a) ∧ I 13 0 9 = nI (mso (kd T e a))) ∧ (kd T e a ≠ 5 → I 13 0 8 = nI (nx T e a)) ∧ (kd T e a = 1 → L 13 0 15 = vl T e a) ∧ (kd T e a = 2 → I 13 0 12 = nI (wn T e a)) ∧ (kd T e a = 3 → I 13 0 11 = nI 59) ∧ (kd T e a = 4 → I 13 0 11 = nI 44)
def YTp (T : Nat → Nat) (e : Nat) (I : Nat → Nat → Nat → Int32) : Prop := (∀ i, i < e → I 84 0 i &&& nI 255 = nI (T i)) ∧ e ≤ 1100 ∧ ∀ i, T i < 256
def FG (I I' : Nat → Nat → Nat → Int32) (L L' : Nat → Nat → Nat → Int64) : Prop := (∀ s, s ≠ 13 → I' s = I s) ∧ (∀ k, ¬ (8 ≤ k ∧ k ≤ 12) → I' 13 0 k = I 13 0 k) ∧ ∀ s, s ≠ 13 → L' s = L s

set_option maxRecDepth 100000 in
set_option maxHeartbeats 600000 in
theorem m_byteAt (hT : YTp T e I) (h7 : I 13 0 7 = nI e) {k : Nat} (hk : k < 2 ^ 30) : Mt G vX13_byteAt (d) (0, 0) [.ref (ad 13 0), .int (nI (k))] (MM ad nb b r I L) (qE (bA T e k) (MM ad nb b r I L)) := by
  have hE := hT.2.1
  refine x_start (by decide) (Nat.le_of_ble_eq_true rfl) ?_
  refine x_iload_n dX13_byteAt_0 rfl ?_
  refine x_aload_n dX13_byteAt_1 rfl ?_
  refine g_M_size fX13_85 dX13_byteAt_2 ?_
  refine x_top (h7) ?_
  refine x_icN_ge 21 dX13_byteAt_5 (by decide) (by omega) (by omega) (fun h5 => ?_) (fun h5 => ?_)
  · refine x_iconst dX13_byteAt_21 li_m1 ?_
    refine x_iret dX13_byteAt_22 rfl ?_
    first
      | (unfold bA; rw [if_pos h5]; exact ⟨_, rfl, rfl, rfl⟩)
      | (unfold bA; rw [if_neg (by omega)]; exact ⟨_, rfl, rfl, rfl⟩)
  · refine x_aload_n dX13_byteAt_8 rfl ?_
    refine g_M_tape fX13_13 dX13_byteAt_9 ?_
    refine x_iload_n dX13_byteAt_12 rfl ?_
    refine x_bald dX13_byteAt_13 rfl rfl (Nat.le_of_ble_eq_true rfl) (by first | exact Nat.le_of_ble_eq_true rfl | assumption | omega) ?_
    refine x_sipush dX13_byteAt_14 lS_255 ?_
    refine x_iand dX13_byteAt_17 ?_
    rw [show I 84 0 k &&& nI 255 = nI (T k) from hT.1 k h5]
    refine x_goto 22 dX13_byteAt_18 (by decide) ?_
    refine x_iret dX13_byteAt_22 rfl ?_
    first
      | (unfold bA; rw [if_pos h5]; exact ⟨_, rfl, rfl, rfl⟩)
      | (unfold bA; rw [if_neg (by omega)]; exact ⟨_, rfl, rfl, rfl⟩)
set_option maxRecDepth 100000 in
set_option maxHeartbeats 600000 in
theorem m_isLetter0 {c : Nat} (hc : c < 256) : Mt G vX13_isLetter (d) (0, 0) [.int (nI (c))] (MM ad nb b r I L) (qE (bI (isL c)) (MM ad nb b r I L)) := by
  refine x_start (by decide) (Nat.le_of_ble_eq_true rfl) ?_
  refine x_iload_n dX13_isLetter_0 rfl ?_
  refine x_bipush dX13_isLetter_1 lb_97 ?_
  refine x_icN_lt 16 dX13_isLetter_3 (by decide) (by omega) (by omega) (fun h3 => ?_) (fun h3 => ?_)
  · refine x_iconst dX13_isLetter_16 li_0 ?_
    refine x_zret dX13_isLetter_17 rfl rfl ?_
    first
      | (rw [show isL c = true from decide_eq_true (by omega)]; exact ⟨_, rfl, rfl, rfl⟩)
      | (rw [show isL c = false from decide_eq_false (by omega)]; exact ⟨_, rfl, rfl, rfl⟩)
  · refine x_iload_n dX13_isLetter_6 rfl ?_
    refine x_bipush dX13_isLetter_7 lb_122 ?_
    refine x_icN_gt 16 dX13_isLetter_9 (by decide) (by omega) (by omega) (fun h9 => ?_) (fun h9 => ?_)
    · refine x_iconst dX13_isLetter_16 li_0 ?_
      refine x_zret dX13_isLetter_17 rfl rfl ?_
      first
        | (rw [show isL c = true from decide_eq_true (by omega)]; exact ⟨_, rfl, rfl, rfl⟩)
        | (rw [show isL c = false from decide_eq_false (by omega)]; exact ⟨_, rfl, rfl, rfl⟩)
    · refine x_iconst dX13_isLetter_12 li_1 ?_
      refine x_goto 17 dX13_isLetter_13 (by decide) ?_
      refine x_zret dX13_isLetter_17 rfl rfl ?_
      first
        | (rw [show isL c = true from decide_eq_true (by omega)]; exact ⟨_, rfl, rfl, rfl⟩)
        | (rw [show isL c = false from decide_eq_false (by omega)]; exact ⟨_, rfl, rfl, rfl⟩)
set_option maxRecDepth 100000 in
set_option maxHeartbeats 600000 in
theorem m_isLetter1  : Mt G vX13_isLetter (d) (0, 0) [.int (-1)] (MM ad nb b r I L) (qE (nI 0) (MM ad nb b r I L)) := by
  refine x_start (by decide) (Nat.le_of_ble_eq_true rfl) ?_
  refine x_iload_n dX13_isLetter_0 rfl ?_
  refine x_bipush dX13_isLetter_1 lb_97 ?_
  refine x_ic_lt 16 dX13_isLetter_3 (by decide) (fun h3 => ?_) (fun h3 => absurd (show (-1 : Int32) < nI 97 by decide) h3)
  refine x_iconst dX13_isLetter_16 li_0 ?_
  refine x_zret dX13_isLetter_17 rfl rfl ?_
  exact ⟨_, rfl, rfl, rfl⟩
theorem m_isLetter {k : Nat} (hT2 : T k < 256) : Mt G vX13_isLetter d (0, 0) [.int (bA T e k)] (MM ad nb b r I L) (qE (bI (decide (k < e) && isL (T k))) (MM ad nb b r I L)) := by
  unfold bA
  by_cases h : k < e
  · rw [if_pos h, decide_eq_true h, Bool.true_and]; exact m_isLetter0 hT2
  · rw [if_neg h, decide_eq_false h, Bool.false_and]; exact m_isLetter1
set_option maxRecDepth 100000 in
set_option maxHeartbeats 600000 in
theorem m_isDigit0 {c : Nat} (hc : c < 256) : Mt G vX13_isDigit (d) (0, 0) [.int (nI (c))] (MM ad nb b r I L) (qE (bI (isD c)) (MM ad nb b r I L)) := by
  refine x_start (by decide) (Nat.le_of_ble_eq_true rfl) ?_
  refine x_iload_n dX13_isDigit_0 rfl ?_
  refine x_bipush dX13_isDigit_1 lb_48 ?_
  refine x_icN_lt 16 dX13_isDigit_3 (by decide) (by omega) (by omega) (fun h3 => ?_) (fun h3 => ?_)
  · refine x_iconst dX13_isDigit_16 li_0 ?_
    refine x_zret dX13_isDigit_17 rfl rfl ?_
    first
      | (rw [show isD c = true from decide_eq_true (by omega)]; exact ⟨_, rfl, rfl, rfl⟩)
      | (rw [show isD c = false from decide_eq_false (by omega)]; exact ⟨_, rfl, rfl, rfl⟩)
  · refine x_iload_n dX13_isDigit_6 rfl ?_
    refine x_bipush dX13_isDigit_7 lb_57 ?_
    refine x_icN_gt 16 dX13_isDigit_9 (by decide) (by omega) (by omega) (fun h9 => ?_) (fun h9 => ?_)
    · refine x_iconst dX13_isDigit_16 li_0 ?_
      refine x_zret dX13_isDigit_17 rfl rfl ?_
      first
        | (rw [show isD c = true from decide_eq_true (by omega)]; exact ⟨_, rfl, rfl, rfl⟩)
        | (rw [show isD c = false from decide_eq_false (by omega)]; exact ⟨_, rfl, rfl, rfl⟩)
    · refine x_iconst dX13_isDigit_12 li_1 ?_
      refine x_goto 17 dX13_isDigit_13 (by decide) ?_
      refine x_zret dX13_isDigit_17 rfl rfl ?_
      first
        | (rw [show isD c = true from decide_eq_true (by omega)]; exact ⟨_, rfl, rfl, rfl⟩)
        | (rw [show isD c = false from decide_eq_false (by omega)]; exact ⟨_, rfl, rfl, rfl⟩)
set_option maxRecDepth 100000 in
set_option maxHeartbeats 600000 in
theorem m_isDigit1  : Mt G vX13_isDigit (d) (0, 0) [.int (-1)] (MM ad nb b r I L) (qE (nI 0) (MM ad nb b r I L)) := by
  refine x_start (by decide) (Nat.le_of_ble_eq_true rfl) ?_
  refine x_iload_n dX13_isDigit_0 rfl ?_
  refine x_bipush dX13_isDigit_1 lb_48 ?_
  refine x_ic_lt 16 dX13_isDigit_3 (by decide) (fun h3 => ?_) (fun h3 => absurd (show (-1 : Int32) < nI 48 by decide) h3)
  refine x_iconst dX13_isDigit_16 li_0 ?_
  refine x_zret dX13_isDigit_17 rfl rfl ?_
  exact ⟨_, rfl, rfl, rfl⟩
theorem m_isDigit {k : Nat} (hT2 : T k < 256) : Mt G vX13_isDigit d (0, 0) [.int (bA T e k)] (MM ad nb b r I L) (qE (bI (decide (k < e) && isD (T k))) (MM ad nb b r I L)) := by
  unfold bA
  by_cases h : k < e
  · rw [if_pos h, decide_eq_true h, Bool.true_and]; exact m_isDigit0 hT2
  · rw [if_neg h, decide_eq_false h, Bool.false_and]; exact m_isDigit1

theorem bA_32 {k : Nat} (hT2 : T k < 256) : bA T e k = nI 32 ↔ k < e ∧ T k = 32 := by
  unfold bA
  by_cases h : k < e
  · rw [if_pos h]; exact ⟨fun z => ⟨h, nI_inj (by omega) (by omega) z⟩, fun z => by rw [z.2]⟩
  · rw [if_neg h]; exact ⟨fun z => absurd z (by decide), fun z => absurd z.1 h⟩
theorem tA_stop : ¬ (tA T e a < e ∧ T (tA T e a) = 32) := by
  intro ⟨h1, h2⟩
  have key : ∀ (n k : Nat), fst (fun i => decide (T i ≠ 32)) k n < n → T (k + fst (fun i => decide (T i ≠ 32)) k n) ≠ 32 := by
    intro n
    induction n with
    | zero => intro k h; omega
    | succ n ih =>
      intro k h
      rw [fst, dif_neg (by omega)] at h ⊢
      by_cases z : decide (T k ≠ 32) = true
      · rw [if_pos z]; exact of_decide_eq_true z
      · rw [if_neg z] at h ⊢
        have := ih (k + 1) (by rw [Nat.add_sub_cancel] at h; omega)
        rw [Nat.add_sub_cancel]
        rwa [show k + 1 + fst (fun i => decide (T i ≠ 32)) (k + 1) n = k + (fst (fun i => decide (T i ≠ 32)) (k + 1) n + 1) by omega] at this
  unfold tA at h1 h2
  exact key (e - a) a (by omega) h2
/-- runs of letters, of digits -/
theorem run_0 {P : Nat → Bool} {A : Nat} (h : e ≤ A ∨ P A = true) : fst P A (e - A) = 0 := by
  rcases h with h | h
  · rw [show e - A = 0 by omega, fst_0]
  · have := fst_t (P := P) (k := A) (n := e - A) h; omega


theorem kd_w (h : 0 < tL T e (tA T e a)) : kd T e a = (if tL T e (tA T e a) ≤ 9 then 1 else 5) ∧ nx T e a = tA T e a + tL T e (tA T e a) := by
  have hd : tD T e (tA T e a) = 0 := if_neg (by omega)
  constructor
  · unfold kd kdF; rw [if_pos h]
  · unfold nx afF; rw [hd, if_neg (fun z => by have := z.1; omega)]; rfl
theorem kd_d (h0 : tL T e (tA T e a) = 0) (h : 0 < tD T e (tA T e a)) : kd T e a = (if tD T e (tA T e a) ≤ 2 then 2 else 5) ∧ nx T e a = tA T e a + tD T e (tA T e a) := by
  constructor
  · unfold kd kdF; rw [h0, if_neg (by omega), if_pos h]
  · unfold nx afF; rw [h0, if_neg (fun z => by have := z.2.1; omega)]; omega
theorem kd_o (h0 : tL T e (tA T e a) = 0) (h : tD T e (tA T e a) = 0) : kd T e a = (if e ≤ tA T e a then 0 else if T (tA T e a) = 59 then 3 else if T (tA T e a) = 44 then 4 else 5) ∧ nx T e a = (if tA T e a < e then tA T e a + 1 else tA T e a) := by
  unfold kd kdF nx afF
  rw [h0, h, if_neg (by omega), if_neg (by omega)]
  refine ⟨rfl, ?_⟩
  by_cases z : tA T e a < e
  · rw [if_pos ⟨rfl, rfl, z⟩, if_pos z]
  · rw [if_neg (fun y => z y.2.2), if_neg z]; rfl
theorem FG.p {I1 : Nat → Nat → Nat → Int32} {L1 : Nat → Nat → Nat → Int64} {k : Nat} {v : Int32} (h : FG I I1 L L1) (hk : 8 ≤ k ∧ k ≤ 12) : FG I (xu I1 13 0 k v) L L1 := ⟨fun s hs => by rw [← h.1 s hs]; funext x y; rw [xu_ns hs], fun j hj => by rw [xu_nk (by omega)]; exact h.2.1 j hj, h.2.2⟩
theorem FG.l {I1 : Nat → Nat → Nat → Int32} {L1 : Nat → Nat → Nat → Int64} {k : Nat} {v : Int64} (h : FG I I1 L L1) : FG I I1 L (xu L1 13 0 k v) := ⟨h.1, h.2.1, fun s hs => by rw [← h.2.2 s hs]; funext x y; rw [xu_ns hs]⟩

set_option maxRecDepth 100000 in
set_option maxHeartbeats 600000 in
theorem lp_mgo2 (hT : YTp T e I) (hae : a ≤ e) (hl0 : 0 < tL T e (tA T e a)) {z : Int32} : ∀ (n : Nat) (j : Nat) (I1 : Nat → Nat → Nat → Int32) (L1 : Nat → Nat → Nat → Int64), tL T e (tA T e a) - j < n → j ≤ tL T e (tA T e a) → I1 13 0 7 = nI e → I1 13 0 10 = nI (tA T e a) → I1 13 0 8 = nI (tA T e a + j) → I1 13 0 9 = nI 0 → FG I I1 L L1 → L1 13 0 15 = wL T (tA T e a) (min j 9) → j + fst (fun i => !isL (T i)) (tA T e a + j) (e - (tA T e a + j)) = tL T e (tA T e a) → X G vX13_goesOn (d + 1) (0, 0) 89 [(0, some (.ref (ad 13 0))), (1, some (.int (z))), (2, some (.int (nI (j))))] [] (MM ad nb b r I1 L1) (xT G (qV (fun M' => ∃ I' L', M' = MM ad nb b r I' L' ∧ YTK T e a I' L' ∧ FG I I' L L'))) := by
  intro n
  induction n with
  | zero => intro j I1 L1 h0; omega
  | succ n ih =>
    intro j I1 L1 hn hj h7 h10 h8 h9 hF hw hf
    have hE := hT.2.1
    have hA := tA_le (T := T) hae
    have hlw : tL T e (tA T e a) ≤ e - tA T e a := fst_le _ _
    have hT1 := (⟨fun i hi => by rw [hF.1 84 (by decide)]; exact hT.1 i hi, hT.2⟩ : YTp T e I1)
    have hkw := kd_w (T := T) (e := e) (a := a) hl0
    refine x_aload_n dX13_goesOn_89 rfl ?_
    refine x_aload_n dX13_goesOn_90 rfl ?_
    refine g_M_spot fX13_103 dX13_goesOn_91 ?_
    rw [h8]
    refine x_cvi (m_byteAt (d := d) (T := T) (e := e) (k := tA T e a + j) hT1 h7 (by omega)) kX13_106 dX13_goesOn_94 rfl (Nat.le_of_ble_eq_true rfl) rfl rfl (Nat.le_of_ble_eq_true rfl) (fun ru Mu hq => ?_)
    obtain ⟨rfl, rfl⟩ := hq
    refine x_csi (m_isLetter (d := d) (hT.2.2 _)) kX13_115 dX13_goesOn_97 rfl rfl (Nat.le_of_ble_eq_true rfl) (fun ru Mu hq => ?_)
    obtain ⟨rfl, rfl⟩ := hq
    refine x_if_eq 152 dX13_goesOn_100 (by decide) (fun h100 => ?_) (fun h100 => ?_)
    · have hjl : j = tL T e (tA T e a) := by
        rw [← hf, run_0 (P := (fun i => !isL (T i))) (A := tA T e a + j) ?_]; omega
        by_cases z : tA T e a + j < e
        · refine Or.inr ?_
          have hb := bI_eq.mp h100
          rw [decide_eq_true z, Bool.true_and] at hb
          rw [hb]; rfl
        · exact Or.inl (by omega)
      refine x_iload_n dX13_goesOn_152 rfl ?_
      refine x_bipush dX13_goesOn_153 lb_9 ?_
      refine x_icN_gt 281 dX13_goesOn_155 (by decide) (by omega) (by omega) (fun h155 => ?_) (fun h155 => ?_)
      · refine x_vret dX13_goesOn_281 rfl ?_
        subst hjl
        first
          | (have ek : kd T e a = 1 := by rw [hkw.1, if_pos (by omega)]
             refine ⟨rfl, _, _, rfl, ⟨⟨by rw [xu_nk (by decide)]; exact h7, by rw [xu_nk (by decide)]; exact h10, by rw [xu_s, ek]; rfl⟩, fun _ => by rw [xu_nk (by decide), h8, hkw.2], fun _ => ?_, fun z => by omega, fun z => by omega, fun z => by omega⟩, hF.p (by decide)⟩
             rw [hw, show min (tL T e (tA T e a)) 9 = tL T e (tA T e a) by omega]
             unfold vl vlF
             rw [if_neg (by omega)])
          | (have ek : kd T e a = 5 := by rw [hkw.1, if_neg (by omega)]
             exact ⟨rfl, _, _, rfl, ⟨⟨h7, h10, by rw [h9, ek]; rfl⟩, fun z => absurd ek z, fun z => by omega, fun z => by omega, fun z => by omega, fun z => by omega⟩, hF⟩)
      · refine x_aload_n dX13_goesOn_158 rfl ?_
        refine x_iconst dX13_goesOn_159 li_2 ?_
        refine p_M_sort fX13_100 dX13_goesOn_160 ?_
        refine x_goto 281 dX13_goesOn_163 (by decide) ?_
        refine x_vret dX13_goesOn_281 rfl ?_
        subst hjl
        first
          | (have ek : kd T e a = 1 := by rw [hkw.1, if_pos (by omega)]
             refine ⟨rfl, _, _, rfl, ⟨⟨by rw [xu_nk (by decide)]; exact h7, by rw [xu_nk (by decide)]; exact h10, by rw [xu_s, ek]; rfl⟩, fun _ => by rw [xu_nk (by decide), h8, hkw.2], fun _ => ?_, fun z => by omega, fun z => by omega, fun z => by omega⟩, hF.p (by decide)⟩
             rw [hw, show min (tL T e (tA T e a)) 9 = tL T e (tA T e a) by omega]
             unfold vl vlF
             rw [if_neg (by omega)])
          | (have ek : kd T e a = 5 := by rw [hkw.1, if_neg (by omega)]
             exact ⟨rfl, _, _, rfl, ⟨⟨h7, h10, by rw [h9, ek]; rfl⟩, fun z => absurd ek z, fun z => by omega, fun z => by omega, fun z => by omega, fun z => by omega⟩, hF⟩)
    · have hb := Bool.and_eq_true_iff.mp (bI_ne.mp h100)
      have hlt : tA T e a + j < e := of_decide_eq_true hb.1
      have hL : 97 ≤ T (tA T e a + j) ∧ T (tA T e a + j) ≤ 122 := of_decide_eq_true hb.2
      have hjl : j < tL T e (tA T e a) := by
        rw [← hf, fst, dif_neg (by omega), if_neg (by rw [hb.2]; decide)]; omega
      refine x_iload_n dX13_goesOn_103 rfl ?_
      refine x_bipush dX13_goesOn_104 lb_9 ?_
      refine x_icN_ge 136 dX13_goesOn_106 (by decide) (by omega) (by omega) (fun h106 => ?_) (fun h106 => ?_)
      · have hwn : L1 13 0 15 = wL T (tA T e a) (min (j + 1) 9) := by rw [hw, show min (j + 1) 9 = min j 9 by omega]
        refine x_iincN 1 dX13_goesOn_136 li_1 rfl (by decide) rfl ?_
        refine x_aload_n dX13_goesOn_139 rfl ?_
        refine x_dup dX13_goesOn_140 rfl ?_
        refine g_M_spot fX13_103 dX13_goesOn_141 ?_
        first
          | rw [h8]
          | skip
        refine x_iconst dX13_goesOn_144 li_1 ?_
        refine x_iaddN dX13_goesOn_145 ?_
        refine p_M_spot fX13_103 dX13_goesOn_146 ?_
        refine x_goto 89 dX13_goesOn_149 (by decide) ?_
        have hfn : j + 1 + fst (fun i => !isL (T i)) (tA T e a + (j + 1)) (e - (tA T e a + (j + 1))) = tL T e (tA T e a) := by
          rw [← hf]
          conv => rhs; rw [fst, dif_neg (by omega), if_neg (by rw [hb.2]; decide)]
          rw [show tA T e a + (j + 1) = tA T e a + j + 1 by omega, show e - (tA T e a + j + 1) = e - (tA T e a + j) - 1 by omega]
          omega
        first
          | (refine x_ls ?_ (ih (j + 1) _ L1 (by omega) (by omega) (by rw [xu_nk (by decide)]; exact h7) (by rw [xu_nk (by decide)]; exact h10) xu_s (by rw [xu_nk (by decide)]; exact h9) (hF.p (by decide)) hwn hfn)
             exact ⟨rfl, rfl, rfl, trivial⟩)
          | (refine x_ls ?_ (ih (j + 1) _ _ (by omega) (by omega) (by rw [xu_nk (by decide)]; exact h7) (by rw [xu_nk (by decide)]; exact h10) xu_s (by rw [xu_nk (by decide)]; exact h9) (hF.l.p (by decide)) ?_ hfn)
             · exact ⟨rfl, rfl, rfl, trivial⟩
             · rw [xu_s, hw, show min j 9 = j by omega, show min (j + 1) 9 = j + 1 by omega]
               exact sh5 _ (by omega))
      · refine x_aload_n dX13_goesOn_109 rfl ?_
        refine x_ldc2 dX13_goesOn_110 (xm7 38 rfl rfl) ?_
        refine x_aload_n dX13_goesOn_113 rfl ?_
        refine g_M_word fX13_119 dX13_goesOn_114 ?_
        refine x_lmul dX13_goesOn_117 ?_
        refine x_aload_n dX13_goesOn_118 rfl ?_
        refine x_aload_n dX13_goesOn_119 rfl ?_
        refine g_M_spot fX13_103 dX13_goesOn_120 ?_
        rw [h8]
        refine x_cvi (m_byteAt (d := d) (T := T) (e := e) (k := tA T e a + j) hT1 h7 (by omega)) kX13_106 dX13_goesOn_123 rfl (Nat.le_of_ble_eq_true rfl) rfl rfl (Nat.le_of_ble_eq_true rfl) (fun ru Mu hq => ?_)
        obtain ⟨rfl, rfl⟩ := hq
        rw [show bA T e (tA T e a + j) = nI (T (tA T e a + j)) from if_pos hlt]
        refine x_bipush dX13_goesOn_126 lb_97 ?_
        refine x_isubN dX13_goesOn_128 (by omega) ?_
        refine x_iconst dX13_goesOn_129 li_1 ?_
        refine x_iaddN dX13_goesOn_130 ?_
        refine x_i2l dX13_goesOn_131 rfl ?_
        refine x_ladd dX13_goesOn_132 ?_
        refine p_M_word fX13_119 dX13_goesOn_133 ?_
        refine x_iincN 1 dX13_goesOn_136 li_1 rfl (by decide) rfl ?_
        refine x_aload_n dX13_goesOn_139 rfl ?_
        refine x_dup dX13_goesOn_140 rfl ?_
        refine g_M_spot fX13_103 dX13_goesOn_141 ?_
        first
          | rw [h8]
          | skip
        refine x_iconst dX13_goesOn_144 li_1 ?_
        refine x_iaddN dX13_goesOn_145 ?_
        refine p_M_spot fX13_103 dX13_goesOn_146 ?_
        refine x_goto 89 dX13_goesOn_149 (by decide) ?_
        have hfn : j + 1 + fst (fun i => !isL (T i)) (tA T e a + (j + 1)) (e - (tA T e a + (j + 1))) = tL T e (tA T e a) := by
          rw [← hf]
          conv => rhs; rw [fst, dif_neg (by omega), if_neg (by rw [hb.2]; decide)]
          rw [show tA T e a + (j + 1) = tA T e a + j + 1 by omega, show e - (tA T e a + j + 1) = e - (tA T e a + j) - 1 by omega]
          omega
        first
          | (refine x_ls ?_ (ih (j + 1) _ L1 (by omega) (by omega) (by rw [xu_nk (by decide)]; exact h7) (by rw [xu_nk (by decide)]; exact h10) xu_s (by rw [xu_nk (by decide)]; exact h9) (hF.p (by decide)) hwn hfn)
             exact ⟨rfl, rfl, rfl, trivial⟩)
          | (refine x_ls ?_ (ih (j + 1) _ _ (by omega) (by omega) (by rw [xu_nk (by decide)]; exact h7) (by rw [xu_nk (by decide)]; exact h10) xu_s (by rw [xu_nk (by decide)]; exact h9) (hF.l.p (by decide)) ?_ hfn)
             · exact ⟨rfl, rfl, rfl, trivial⟩
             · rw [xu_s, hw, show min j 9 = j by omega, show min (j + 1) 9 = j + 1 by omega]
               exact sh5 _ (by omega))
end M28
