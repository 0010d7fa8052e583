section Tel2
variable {G : xG} {ad : Nat → Nat → Nat} {nb : Nat} {b r : Option Nat} {L : Nat → Nat → Nat → Int64} {V : sV} {I : Nat → Nat → Nat → Int32} {d : Nat}

theorem wiF_or {k : Nat} {v : Int64} : ∀ (f j num : Nat) (w : Int64), wiF k v f j num w = -1 ∨ ∃ m, m ≤ num + f ∧ wiF k v f j num w = nI m
  | 0, j, num, w => by
    unfold wiF
    split
    · exact Or.inr ⟨num, by omega, rfl⟩
    · exact Or.inl rfl
  | f + 1, j, num, w => by
    unfold wiF
    split
    · split
      · exact Or.inr ⟨num, by omega, rfl⟩
      · rcases wiF_or f (j + 1) (num + 1) (lN 0) with h | ⟨m, h1, h2⟩
        · exact Or.inl h
        · exact Or.inr ⟨m, by omega, h2⟩
    · rcases wiF_or f (j + 1) num (w <<< ((nI 5).toInt64 &&& 63) ||| (nI (sch k j - 97 + 1)).toInt64) with h | ⟨m, h1, h2⟩
      · exact Or.inl h
      · exact Or.inr ⟨m, by omega, h2⟩
/-- the number of a word in a string, and one more; 0: it is not there -/
def wiN (k : Nat) (v : Int64) : Nat := if wix k v = -1 then 0 else zN (wix k v) + 1
theorem wiN_eq {k : Nat} {v : Int64} (hk : k < 41) : wix k v = nO (-1) (wiN k v) ∧ wiN k v ≤ 101 := by
  have hl := xsb_len k hk
  unfold wiN
  rcases wiF_or (k := k) (v := v) (xsb k).length 0 0 (lN 0) with h | ⟨m, h1, h2⟩
  · have h' : wix k v = -1 := h
    rw [if_pos h']; exact ⟨h', by omega⟩
  · have h' : wix k v = nI m := h2
    have hne : ¬ nI m = -1 := nI_ne_m1 (by omega)
    rw [h', if_neg hne, zN_nI (by omega)]
    exact ⟨by rw [nO_pos (by omega), Nat.add_sub_cancel], by omega⟩
/-- what a step finds: a fault and where, or a number -/
abbrev pR : Type := (Nat × Nat) ⊕ Nat
/-- but for the teller, the tokens and the draft -/
def FP (I I' : Nat → Nat → Nat → Int32) : Prop := ∀ a c, ¬ (a = 6 ∨ a = 7 ∨ a = 39 ∨ a = 40 ∨ db a c) → I' a c = I a c
def FL (L L' : Nat → Nat → Nat → Int64) : Prop := ∀ s, s ≠ 7 → s ≠ 38 → L' s = L s
def qP (T : Nat → Nat) (e a : Nat) (ad : Nat → Nat → Nat) (nb : Nat) (b r : Option Nat) (I : Nat → Nat → Nat → Int32) (L : Nat → Nat → Nat → Int64) (q : pR) : Option Value → xM → Prop := qI (fun rr M' => match q with
  | .inl f => rr = nI 0 ∧ ∃ I' L', M' = MM ad nb b r I' L' ∧ I' 6 0 1 = nI f.1 ∧ I' 6 0 2 = nI f.2 ∧ FP I I' ∧ FL L L'
  | .inr num => rr = nI 1 ∧ ∃ I' L', M' = MM ad nb b r I' L' ∧ TK T e (nx T e a) I' L' ∧ I' 6 0 8 = nI num ∧ I' 6 0 9 = nI (tA T e a) ∧ (∀ k, k ≠ 8 → k ≠ 9 → I' 6 0 k = I 6 0 k) ∧ F67 I I' ∧ F7 L L')
theorem qP_no {T : Nat → Nat} {e a : Nat} {f at' : Nat} {q : pR} (h : q = .inl (f, at')) : qP T e a ad nb b r I L q (some (.int (nI 0))) (MM ad nb b r (xu (xu I 6 0 1 (nI f)) 6 0 2 (nI at')) L) := by
  subst h
  refine ⟨_, rfl, rfl, _, _, rfl, ?_, xu_s, fun a c hac => ?_, fun _ _ _ => rfl⟩
  · rw [xu_nk (by decide), xu_s]
  · funext x; rw [xu_ns (by omega), xu_ns (by omega)]
theorem qP_ok {T : Nat → Nat} {e a num : Nat} {q : pR} {rr : Int32} {M' : xM} (h : q = .inr num) (hq : rr = nI 1 ∧ ∃ I' L', M' = MM ad nb b r I' L' ∧ TK T e (nx T e a) I' L' ∧ I' 6 0 8 = nI num ∧ I' 6 0 9 = nI (tA T e a) ∧ (∀ k, k ≠ 8 → k ≠ 9 → I' 6 0 k = I 6 0 k) ∧ F67 I I' ∧ F7 L L') : qP T e a ad nb b r I L q (some (.int rr)) M' := by
  subst h
  exact ⟨_, rfl, hq⟩
def pChoice (T : Nat → Nat) (e k a : Nat) : pR := if kd T e a = 1 ∧ wiN k (vl T e a) ≠ 0 then .inr (wiN k (vl T e a) - 1) else .inl (1, tA T e a)
/-- the number that a WHOLE is -/
def wn (T : Nat → Nat) (e a : Nat) : Nat := if tD T e (tA T e a) = 1 then T (tA T e a) - 48 else (T (tA T e a) - 48) * 10 + (T (tA T e a + 1) - 48)
def pWhole (T : Nat → Nat) (e lo hi a : Nat) : pR := if kd T e a = 2 then (if lo ≤ wn T e a ∧ wn T e a ≤ hi then .inr (wn T e a) else .inl (4, tA T e a)) else .inl (1, tA T e a)
theorem fst_all {P : Nat → Bool} : ∀ (n k i : Nat), i < fst P k n → P (k + i) = false
  | 0, k, i, h => by rw [fst_0] at h; omega
  | n + 1, k, i, h => by
    rw [fst, dif_neg (by omega)] at h
    split at h
    · omega
    · rename_i hp
      cases i with
      | zero => simpa using hp
      | succ i =>
        have := fst_all (P := P) n (k + 1) i (by rw [Nat.add_sub_cancel] at h; omega)
        rwa [show k + 1 + i = k + (i + 1) by omega] at this
theorem i2l_N : ∀ c, c < 256 → (nI c).toInt64 = lN c := by decide +kernel
theorem wn_ok {T : Nat → Nat} {e a : Nat} (h : kd T e a = 2) (hT2 : ∀ i, T i < 256) : vl T e a = lN (wn T e a) ∧ wn T e a ≤ 99 := by
  unfold kd kdF at h
  unfold vl vlF wn
  generalize hA : tA T e a = A at *
  have hl0 : tL T e A = 0 := by
    refine Classical.byContradiction fun q => ?_
    rw [if_pos (by omega)] at h
    split at h <;> omega
  rw [if_neg (by omega)] at h
  have hg0 : 0 < tD T e A := by
    refine Classical.byContradiction fun q => ?_
    rw [if_neg q] at h
    repeat (first | omega | split at h)
  rw [if_pos hg0] at h
  have hg2 : tD T e A ≤ 2 := by
    refine Classical.byContradiction fun q => ?_
    rw [if_neg q] at h
    omega
  have hd : ∀ i, i < tD T e A → 48 ≤ T (A + i) ∧ T (A + i) ≤ 57 := by
    intro i hi
    unfold tD at hi
    rw [if_pos hl0] at hi
    have h1 : (!isD (T (A + i))) = false := fst_all (P := fun i => !isD (T i)) _ _ _ hi
    have h2 : isD (T (A + i)) = true := by simpa using h1
    exact of_decide_eq_true h2
  rw [if_pos hl0]
  have e10 : (10 : Int64) = lN 10 := rfl
  have e48 : (48 : Int64) = lN 48 := rfl
  have d1 : dL T A 1 = lN (T A - 48) := by
    have h0 := hd 0 hg0
    rw [Nat.add_zero] at h0
    show lN 0 * 10 + (nI (T (A + 0))).toInt64 - 48 = _
    rw [Nat.add_zero, i2l_N _ (hT2 A), e10, e48, lN_mul, lN_add, lN_sub (by omega)]
    congr 1
    omega
  rcases (show tD T e A = 1 ∨ tD T e A = 2 by omega) with hg | hg
  · have h0 := hd 0 hg0
    rw [Nat.add_zero] at h0
    rw [hg, if_pos rfl]
    exact ⟨d1, by omega⟩
  · have h0 := hd 0 (by omega)
    have h1 := hd 1 (by omega)
    rw [Nat.add_zero] at h0
    rw [hg, if_neg (by omega)]
    refine ⟨?_, by omega⟩
    show dL T A 1 * 10 + (nI (T (A + 1))).toInt64 - 48 = _
    rw [d1, i2l_N _ (hT2 _), e10, e48, lN_mul, lN_add, lN_sub (by omega)]
    congr 1
    omega

set_option maxRecDepth 100000 in
set_option maxHeartbeats 4000000 in
theorem c_choice {T : Nat → Nat} {e : Nat} (hE : e ≤ 1100) (hT : ∀ i, i < e → I 14 0 i = nI (T i)) (hT2 : ∀ i, T i < 256) {a : Nat} (ha : a ≤ e) (hK : TK T e a I L) {k : Nat} (hk : k < 41) : Mt G vX6_choice (d + 1 + 1 + 1 + 1 + 1) (0, 0) [.ref (ad 6 0), .ref (G.2.2.1 k)] (MM ad nb b r I L) (qP T e a ad nb b r I L (pChoice T e k a)) := by
  have hkd := kd_le (T := T) (e := e) (a := a)
  obtain ⟨w1, w2⟩ := wiN_eq (v := vl T e a) hk
  refine x_start (by decide) (Nat.le_of_ble_eq_true rfl) ?_
  refine x_aload_n dX6_choice_0 rfl ?_
  refine g_Teller_tokens fX6_34 dX6_choice_1 ?_
  refine x_aload_n dX6_choice_4 rfl ?_
  refine x_cvi (c_wordIn (d := d) hk (kn := kd T e a) (v := vl T e a) hK.2.2.2.1 hkd hK.2.2.2.2) kX6_77 dX6_choice_5 rfl (Nat.le_of_ble_eq_true rfl) rfl rfl (Nat.le_of_ble_eq_true rfl) (fun ru Mu hq => ?_)
  obtain ⟨rfl, rfl⟩ := hq
  refine x_istore_n dX6_choice_8 (by decide) rfl ?_
  refine x_iload_n dX6_choice_9 rfl ?_
  refine x_iconst dX6_choice_10 li_m1 ?_
  refine x_ic_ne 27 dX6_choice_11 (by decide) (fun h11 => ?_) (fun h11 => ?_)
  · refine x_aload_n dX6_choice_27 rfl ?_
    refine x_iload_n dX6_choice_28 rfl ?_
    have hx : kd T e a = 1 ∧ wiN k (vl T e a) ≠ 0 := by
      refine Classical.byContradiction fun q => h11 ?_
      by_cases q1 : kd T e a = 1
      · rw [if_pos q1, w1, show wiN k (vl T e a) = 0 from Classical.byContradiction fun q2 => q ⟨q1, q2⟩]; rfl
      · rw [if_neg q1]
    refine x_top (v := nI (wiN k (vl T e a) - 1)) (by rw [if_pos hx.1, w1, nO_pos hx.2]) ?_
    refine x_cvi (c_ttake (d := d + 3) (num := wiN k (vl T e a) - 1) hE hT hT2 ha hK) kX6_215 dX6_choice_29 rfl (Nat.le_of_ble_eq_true rfl) rfl rfl (Nat.le_of_ble_eq_true rfl) (fun ru Mu hq => ?_)
    obtain ⟨rfl, hq⟩ := hq
    refine x_zret dX6_choice_32 rfl rfl ?_
    refine qP_ok ?_ ⟨rfl, hq⟩
    unfold pChoice
    rw [if_pos hx]
  · refine x_aload_n dX6_choice_14 rfl ?_
    refine x_iconst dX6_choice_15 li_1 ?_
    refine x_aload_n dX6_choice_16 rfl ?_
    refine g_Teller_tokens fX6_34 dX6_choice_17 ?_
    refine g_Tokens_at fX6_65 dX6_choice_20 ?_
    rw [hK.2.1]
    refine x_cvi (c_wrong) kX6_68 dX6_choice_23 rfl (Nat.le_of_ble_eq_true rfl) rfl rfl (Nat.le_of_ble_eq_true rfl) (fun ru Mu hq => ?_)
    obtain ⟨rfl, rfl⟩ := hq
    refine x_zret dX6_choice_26 rfl rfl ?_
    refine qP_no ?_
    unfold pChoice
    rw [if_neg]
    intro hx
    rw [if_pos hx.1, w1, nO_pos hx.2] at h11
    exact nI_ne_m1 (by omega) h11
set_option maxRecDepth 100000 in
set_option maxHeartbeats 4000000 in
theorem c_whole {T : Nat → Nat} {e : Nat} (hE : e ≤ 1100) (hT : ∀ i, i < e → I 14 0 i = nI (T i)) (hT2 : ∀ i, T i < 256) {a : Nat} (ha : a ≤ e) (hK : TK T e a I L) {lo hi : Nat} (hlo : lo ≤ 99) (hhi : hi ≤ 99) : Mt G vX6_whole (d + 1 + 1) (0, 0) [.ref (ad 6 0), .int (nI (lo)), .int (nI (hi))] (MM ad nb b r I L) (qP T e a ad nb b r I L (pWhole T e lo hi a)) := by
  have hkd := kd_le (T := T) (e := e) (a := a)
  refine x_start (by decide) (Nat.le_of_ble_eq_true rfl) ?_
  refine x_aload_n dX6_whole_0 rfl ?_
  refine g_Teller_tokens fX6_34 dX6_whole_1 ?_
  refine g_Tokens_kind fX6_59 dX6_whole_4 ?_
  refine x_top (v := nI (kd T e a)) hK.2.2.2.1 ?_
  refine x_iconst dX6_whole_7 li_2 ?_
  refine x_icN_eq 24 dX6_whole_8 (by decide) (by omega) (by omega) (fun h8 => ?_) (fun h8 => ?_)
  · refine x_aload_n dX6_whole_24 rfl ?_
    refine g_Teller_tokens fX6_34 dX6_whole_25 ?_
    refine g_Tokens_value fX6_218 dX6_whole_28 ?_
    have hwn := wn_ok h8 hT2
    rw [hK.2.2.2.2, show vlF T (tA T e a) (tL T e (tA T e a)) (tD T e (tA T e a)) = lN (wn T e a) from hwn.1]
    refine x_iload_n dX6_whole_31 rfl ?_
    refine x_i2l dX6_whole_32 rfl ?_
    rw [i2l_N lo (by omega)]
    refine x_lcmp dX6_whole_33 ?_
    refine x_if_lt 50 dX6_whole_34 (by decide) (fun h34 => ?_) (fun h34 => ?_)
    · have hc : ¬ (lo ≤ wn T e a ∧ wn T e a ≤ hi) := by have := (lN_lt (by omega) (by omega)).mp ((lg_cmp_lt _ _).mp h34); omega
      refine x_aload_n dX6_whole_50 rfl ?_
      refine x_iconst dX6_whole_51 li_4 ?_
      refine x_aload_n dX6_whole_52 rfl ?_
      refine g_Teller_tokens fX6_34 dX6_whole_53 ?_
      refine g_Tokens_at fX6_65 dX6_whole_56 ?_
      rw [hK.2.1]
      refine x_cvi (c_wrong) kX6_68 dX6_whole_59 rfl (Nat.le_of_ble_eq_true rfl) rfl rfl (Nat.le_of_ble_eq_true rfl) (fun ru Mu hq => ?_)
      obtain ⟨rfl, rfl⟩ := hq
      refine x_zret dX6_whole_62 rfl rfl ?_
      refine qP_no ?_
      unfold pWhole
      rw [if_pos (by omega), if_neg hc]
    · have hlo2 : lo ≤ wn T e a := Nat.le_of_not_lt fun q => h34 ((lg_cmp_lt _ _).mpr ((lN_lt (by omega) (by omega)).mpr q))
      refine x_aload_n dX6_whole_37 rfl ?_
      refine g_Teller_tokens fX6_34 dX6_whole_38 ?_
      refine g_Tokens_value fX6_218 dX6_whole_41 ?_
      rw [hK.2.2.2.2, show vlF T (tA T e a) (tL T e (tA T e a)) (tD T e (tA T e a)) = lN (wn T e a) from hwn.1]
      refine x_iload_n dX6_whole_44 rfl ?_
      refine x_i2l dX6_whole_45 rfl ?_
      rw [i2l_N hi (by omega)]
      refine x_lcmp dX6_whole_46 ?_
      refine x_if_le 63 dX6_whole_47 (by decide) (fun h47 => ?_) (fun h47 => ?_)
      · have hc : lo ≤ wn T e a ∧ wn T e a ≤ hi := ⟨hlo2, (lN_le (by omega) (by omega)).mp ((lg_cmp_le _ _).mp h47)⟩
        refine x_aload_n dX6_whole_63 rfl ?_
        refine x_aload_n dX6_whole_64 rfl ?_
        refine g_Teller_tokens fX6_34 dX6_whole_65 ?_
        refine g_Tokens_value fX6_218 dX6_whole_68 ?_
        rw [hK.2.2.2.2, show vlF T (tA T e a) (tL T e (tA T e a)) (tD T e (tA T e a)) = lN (wn T e a) from hwn.1]
        refine x_l2i dX6_whole_71 rfl ?_
        rw [lN_i]
        refine x_cvi (c_ttake (d := d) (num := wn T e a) hE hT hT2 ha hK) kX6_215 dX6_whole_72 rfl (Nat.le_of_ble_eq_true rfl) rfl rfl (Nat.le_of_ble_eq_true rfl) (fun ru Mu hq => ?_)
        obtain ⟨rfl, hq⟩ := hq
        refine x_zret dX6_whole_75 rfl rfl ?_
        refine qP_ok ?_ ⟨rfl, hq⟩
        unfold pWhole
        rw [if_pos (by omega), if_pos hc]
      · have hc : ¬ (lo ≤ wn T e a ∧ wn T e a ≤ hi) := fun q => h47 ((lg_cmp_le _ _).mpr ((lN_le (by omega) (by omega)).mpr q.2))
        refine x_aload_n dX6_whole_50 rfl ?_
        refine x_iconst dX6_whole_51 li_4 ?_
        refine x_aload_n dX6_whole_52 rfl ?_
        refine g_Teller_tokens fX6_34 dX6_whole_53 ?_
        refine g_Tokens_at fX6_65 dX6_whole_56 ?_
        rw [hK.2.1]
        refine x_cvi (c_wrong) kX6_68 dX6_whole_59 rfl (Nat.le_of_ble_eq_true rfl) rfl rfl (Nat.le_of_ble_eq_true rfl) (fun ru Mu hq => ?_)
        obtain ⟨rfl, rfl⟩ := hq
        refine x_zret dX6_whole_62 rfl rfl ?_
        refine qP_no ?_
        unfold pWhole
        rw [if_pos (by omega), if_neg hc]
  · refine x_aload_n dX6_whole_11 rfl ?_
    refine x_iconst dX6_whole_12 li_1 ?_
    refine x_aload_n dX6_whole_13 rfl ?_
    refine g_Teller_tokens fX6_34 dX6_whole_14 ?_
    refine g_Tokens_at fX6_65 dX6_whole_17 ?_
    rw [hK.2.1]
    refine x_cvi (c_wrong) kX6_68 dX6_whole_20 rfl (Nat.le_of_ble_eq_true rfl) rfl rfl (Nat.le_of_ble_eq_true rfl) (fun ru Mu hq => ?_)
    obtain ⟨rfl, rfl⟩ := hq
    refine x_zret dX6_whole_23 rfl rfl ?_
    refine qP_no ?_
    unfold pWhole
    rw [if_neg (by omega)]

/-- is it a word that may be a name -/
def isN (T : Nat → Nat) (e a : Nat) : Bool := decide (kd T e a = 1) && decide (wiN 0 (vl T e a) = 0)
def pKnown (T : Nat → Nat) (e : Nat) (nm : List (Nat × Nat × Nat)) (so a : Nat) : pR := if isN T e a = true then (if nmA T e nm a < nm.length ∧ (nm.getD (nmA T e nm a) (0, 0, 0)).2.1 = so then .inr (nm.getD (nmA T e nm a) (0, 0, 0)).2.2 else .inl (2, tA T e a)) else .inl (1, tA T e a)

set_option maxRecDepth 100000 in
set_option maxHeartbeats 4000000 in
theorem c_knownName {T : Nat → Nat} {e : Nat} (hE : e ≤ 1100) (hT : ∀ i, i < e → I 14 0 i = nI (T i)) (hT2 : ∀ i, T i < 256) {a : Nat} (ha : a ≤ e) (hK : TK T e a I L) {nm : List (Nat × Nat × Nat)} (hN : XNm T e nm I L) {so : Nat} (hso : so < 12) : Mt G vX6_knownName (d + 1 + 1 + 1 + 1 + 1) (0, 0) [.ref (ad 6 0), .int (nI (so))] (MM ad nb b r I L) (qP T e a ad nb b r I L (pKnown T e nm so a)) := by
  have hkd := kd_le (T := T) (e := e) (a := a)
  obtain ⟨w1, w2⟩ := wiN_eq (k := 0) (v := vl T e a) (by omega)
  refine x_start (by decide) (Nat.le_of_ble_eq_true rfl) ?_
  refine x_aload_n dX6_knownName_0 rfl ?_
  refine g_Teller_tokens fX6_34 dX6_knownName_1 ?_
  refine g_Tokens_kind fX6_59 dX6_knownName_4 ?_
  refine x_top (v := nI (kd T e a)) hK.2.2.2.1 ?_
  refine x_iconst dX6_knownName_7 li_1 ?_
  refine x_icN_ne 24 dX6_knownName_8 (by decide) (by omega) (by omega) (fun h8 => ?_) (fun h8 => ?_)
  · refine x_aload_n dX6_knownName_24 rfl ?_
    refine x_iconst dX6_knownName_25 li_1 ?_
    refine x_aload_n dX6_knownName_26 rfl ?_
    refine g_Teller_tokens fX6_34 dX6_knownName_27 ?_
    refine g_Tokens_at fX6_65 dX6_knownName_30 ?_
    rw [hK.2.1]
    refine x_cvi (c_wrong) kX6_68 dX6_knownName_33 rfl (Nat.le_of_ble_eq_true rfl) rfl rfl (Nat.le_of_ble_eq_true rfl) (fun ru Mu hq => ?_)
    obtain ⟨rfl, rfl⟩ := hq
    refine x_zret dX6_knownName_36 rfl rfl ?_
    refine qP_no ?_
    have hn : isN T e a = false := by
      unfold isN
      first
        | (rw [decide_eq_false h8]; rfl)
        | (rw [show decide (wiN 0 (vl T e a) = 0) = false from decide_eq_false (fun z => h21 (by rw [if_pos h8, w1, z]; rfl)), Bool.and_false])
    unfold pKnown
    rw [hn]
    rfl
  · refine x_aload_n dX6_knownName_11 rfl ?_
    refine g_Teller_tokens fX6_34 dX6_knownName_12 ?_
    refine x_ldcS (n := 0) dX6_knownName_15 rfl ?_
    refine x_cvi (c_wordIn (d := d) (i := 0) (by omega) (kn := kd T e a) (v := vl T e a) hK.2.2.2.1 hkd hK.2.2.2.2) kX6_77 dX6_knownName_17 rfl (Nat.le_of_ble_eq_true rfl) rfl rfl (Nat.le_of_ble_eq_true rfl) (fun ru Mu hq => ?_)
    obtain ⟨rfl, rfl⟩ := hq
    refine x_iconst dX6_knownName_20 li_m1 ?_
    refine x_ic_eq 37 dX6_knownName_21 (by decide) (fun h21 => ?_) (fun h21 => ?_)
    · have hn : isN T e a = true := by
        unfold isN
        rw [decide_eq_true h8, Bool.true_and]
        refine decide_eq_true (Classical.byContradiction fun z => ?_)
        rw [if_pos h8, w1, nO_pos z] at h21
        exact nI_ne_m1 (by omega) h21
      refine x_aload_n dX6_knownName_37 rfl ?_
      refine x_cvi (c_nameAt (d := d + 1 + 1 + 1 + 1) hK hN) kX6_222 dX6_knownName_38 rfl (Nat.le_of_ble_eq_true rfl) rfl rfl (Nat.le_of_ble_eq_true rfl) (fun ru Mu hq => ?_)
      obtain ⟨rfl, rfl⟩ := hq
      have hnl := hN.2.1
      refine x_istore_n dX6_knownName_41 (by decide) rfl ?_
      refine x_iload_n dX6_knownName_42 rfl ?_
      refine x_iconst dX6_knownName_43 li_m1 ?_
      refine x_ic_eq 57 dX6_knownName_44 (by decide) (fun h44 => ?_) (fun h44 => ?_)
      · refine x_aload_n dX6_knownName_57 rfl ?_
        refine x_iconst dX6_knownName_58 li_2 ?_
        refine x_aload_n dX6_knownName_59 rfl ?_
        refine g_Teller_tokens fX6_34 dX6_knownName_60 ?_
        refine g_Tokens_at fX6_65 dX6_knownName_63 ?_
        rw [hK.2.1]
        refine x_cvi (c_wrong) kX6_68 dX6_knownName_66 rfl (Nat.le_of_ble_eq_true rfl) rfl rfl (Nat.le_of_ble_eq_true rfl) (fun ru Mu hq => ?_)
        obtain ⟨rfl, rfl⟩ := hq
        refine x_zret dX6_knownName_69 rfl rfl ?_
        refine qP_no ?_
        unfold pKnown
        rw [if_pos hn, if_neg]
        intro z
        first
          | exact h54 z.2
          | (rw [if_pos z.1] at h44; exact nI_ne_m1 (by omega) h44)
      · have hj : nmA T e nm a < nm.length := Classical.byContradiction fun q => h44 (if_neg q)
        have hq : nm[nmA T e nm a]? = some (nm.getD (nmA T e nm a) (0, 0, 0)) := by rw [List.getD_eq_getElem?_getD, List.getElem?_eq_getElem hj]; rfl
        obtain ⟨g1, g2, g3, g4, g5, g6⟩ := hN.2.2 _ _ hq
        refine x_aload_n dX6_knownName_47 rfl ?_
        refine g_Teller_nameSorts fX6_22 dX6_knownName_48 ?_
        refine x_iload_n dX6_knownName_51 rfl ?_
        refine x_top (v := nI (nmA T e nm a)) (if_pos hj) ?_
        refine x_iald dX6_knownName_52 rfl rfl (Nat.le_of_ble_eq_true rfl) (by first | exact Nat.le_of_ble_eq_true rfl | assumption | omega) ?_
        rw [g5]
        refine x_iload_n dX6_knownName_53 rfl ?_
        refine x_icN_eq 70 dX6_knownName_54 (by decide) (by omega) (by omega) (fun h54 => ?_) (fun h54 => ?_)
        · refine x_aload_n dX6_knownName_70 rfl ?_
          refine x_aload_n dX6_knownName_71 rfl ?_
          refine g_Teller_nameNumbers fX6_26 dX6_knownName_72 ?_
          refine x_iload_n dX6_knownName_75 rfl ?_
          refine x_top (v := nI (nmA T e nm a)) (if_pos hj) ?_
          refine x_iald dX6_knownName_76 rfl rfl (Nat.le_of_ble_eq_true rfl) (by first | exact Nat.le_of_ble_eq_true rfl | assumption | omega) ?_
          rw [g6]
          refine x_cvi (c_ttake (d := d + 3) (num := (nm.getD (nmA T e nm a) (0, 0, 0)).2.2) hE hT hT2 ha hK) kX6_215 dX6_knownName_77 rfl (Nat.le_of_ble_eq_true rfl) rfl rfl (Nat.le_of_ble_eq_true rfl) (fun ru Mu hq => ?_)
          obtain ⟨rfl, hq⟩ := hq
          refine x_zret dX6_knownName_80 rfl rfl ?_
          refine qP_ok ?_ ⟨rfl, hq⟩
          unfold pKnown
          rw [if_pos hn, if_pos ⟨hj, h54⟩]
        · refine x_aload_n dX6_knownName_57 rfl ?_
          refine x_iconst dX6_knownName_58 li_2 ?_
          refine x_aload_n dX6_knownName_59 rfl ?_
          refine g_Teller_tokens fX6_34 dX6_knownName_60 ?_
          refine g_Tokens_at fX6_65 dX6_knownName_63 ?_
          rw [hK.2.1]
          refine x_cvi (c_wrong) kX6_68 dX6_knownName_66 rfl (Nat.le_of_ble_eq_true rfl) rfl rfl (Nat.le_of_ble_eq_true rfl) (fun ru Mu hq => ?_)
          obtain ⟨rfl, rfl⟩ := hq
          refine x_zret dX6_knownName_69 rfl rfl ?_
          refine qP_no ?_
          unfold pKnown
          rw [if_pos hn, if_neg]
          intro z
          first
            | exact h54 z.2
            | (rw [if_pos z.1] at h44; exact nI_ne_m1 (by omega) h44)
    · refine x_aload_n dX6_knownName_24 rfl ?_
      refine x_iconst dX6_knownName_25 li_1 ?_
      refine x_aload_n dX6_knownName_26 rfl ?_
      refine g_Teller_tokens fX6_34 dX6_knownName_27 ?_
      refine g_Tokens_at fX6_65 dX6_knownName_30 ?_
      rw [hK.2.1]
      refine x_cvi (c_wrong) kX6_68 dX6_knownName_33 rfl (Nat.le_of_ble_eq_true rfl) rfl rfl (Nat.le_of_ble_eq_true rfl) (fun ru Mu hq => ?_)
      obtain ⟨rfl, rfl⟩ := hq
      refine x_zret dX6_knownName_36 rfl rfl ?_
      refine qP_no ?_
      have hn : isN T e a = false := by
        unfold isN
        first
          | (rw [decide_eq_false h8]; rfl)
          | (rw [show decide (wiN 0 (vl T e a) = 0) = false from decide_eq_false (fun z => h21 (by rw [if_pos h8, w1, z]; rfl)), Bool.and_false])
      unfold pKnown
      rw [hn]
      rfl
end Tel2
