section Tel
variable {G : xG} {ad : Nat → Nat → Nat} {nb : Nat} {b r : Option Nat} {L : Nat → Nat → Nat → Int64} {V : sV} {I : Nat → Nat → Nat → Int32} {d : Nat}

theorem sch_az : ∀ k, k < 41 → ∀ j, j < (xsb k).length → sch k j = 32 ∨ (97 ≤ sch k j ∧ sch k j ≤ 122) := by decide +kernel
/-- which word of the k-th string, a blank between two, has the number v: behind j letters, num words, of the word w -/
def wiF (k : Nat) (v : Int64) : Nat → Nat → Nat → Int64 → Int32
  | 0, _, num, w => if w = v then nI num else -1
  | f + 1, j, num, w => if sch k j = 32 then (if w = v then nI num else wiF k v f (j + 1) (num + 1) (lN 0)) else wiF k v f (j + 1) num (w <<< ((nI 5).toInt64 &&& 63) ||| (nI (sch k j - 97 + 1)).toInt64)
theorem wiF_0 {k f j num : Nat} {v w : Int64} (hf : f = 0) : wiF k v f j num w = if w = v then nI num else -1 := by subst hf; rfl
theorem wiF_s {k f j num : Nat} {v w : Int64} (hf : 0 < f) : wiF k v f j num w = if sch k j = 32 then (if w = v then nI num else wiF k v (f - 1) (j + 1) (num + 1) (lN 0)) else wiF k v (f - 1) (j + 1) num (w <<< ((nI 5).toInt64 &&& 63) ||| (nI (sch k j - 97 + 1)).toInt64) := by
  obtain ⟨g, rfl⟩ : ∃ g, f = g + 1 := ⟨f - 1, by omega⟩
  rfl
def wix (k : Nat) (v : Int64) : Int32 := wiF k v (xsb k).length 0 0 (lN 0)
def nx (T : Nat → Nat) (e a : Nat) : Nat := afF e (tA T e a) (tL T e (tA T e a)) (tD T e (tA T e a))
def kd (T : Nat → Nat) (e a : Nat) : Nat := kdF T e (tA T e a) (tL T e (tA T e a)) (tD T e (tA T e a))
def vl (T : Nat → Nat) (e a : Nat) : Int64 := vlF T (tA T e a) (tL T e (tA T e a)) (tD T e (tA T e a))
theorem kd_le {T : Nat → Nat} {e a : Nat} : kd T e a ≤ 5 := by
  unfold kd kdF
  repeat (first | omega | split)
theorem tA_le {T : Nat → Nat} {e a : Nat} (h : a ≤ e) : a ≤ tA T e a ∧ tA T e a ≤ e := by
  have := fst_le (P := fun i => decide (T i ≠ 32)) (e - a) a
  unfold tA
  omega
theorem nx_le {T : Nat → Nat} {e a : Nat} (h : a ≤ e) : a ≤ nx T e a ∧ nx T e a ≤ e := by
  have h1 := tA_le (T := T) h
  have h2 := fst_le (P := fun i => !isL (T i)) (e - tA T e a) (tA T e a)
  have h3 := fst_le (P := fun i => !isD (T i)) (e - tA T e a) (tA T e a)
  unfold nx afF
  have h4 : tL T e (tA T e a) ≤ e - tA T e a := h2
  have h5 : tL T e (tA T e a) + tD T e (tA T e a) ≤ e - tA T e a := by
    unfold tD
    split <;> omega
  split <;> omega
def F67 (I I' : Nat → Nat → Nat → Int32) : Prop := ∀ s, s ≠ 6 → s ≠ 7 → I' s = I s

set_option maxRecDepth 100000 in
set_option maxHeartbeats 4000000 in
theorem c_wordIn {i : Nat} (hi : i < 41) {kn : Nat} {v : Int64} (ek : I 7 0 3 = nI kn) (hk : kn ≤ 5) (ev : L 7 0 5 = v) : Mt G vX7_wordIn (d + 1 + 1 + 1 + 1) (0, 0) [.ref (ad 7 0), .ref (G.2.2.1 i)] (MM ad nb b r I L) (qE (if kn = 1 then wix i v else -1) (MM ad nb b r I L)) := by
  have hl := xsb_len i hi
  have loop17 : ∀ (n : Nat) (j num : Nat) (w : Int64), (xsb i).length - j < n → kn = 1 → j ≤ (xsb i).length → num ≤ j → wiF i v ((xsb i).length - j) j num w = wix i v → X G vX7_wordIn (d + 1 + 1 + 1 + 1) (0, 0) 17 [(0, some (.ref (ad 7 0))), (1, some (.ref (G.2.2.1 i))), (2, some (.int (nI (num)))), (3, some (.long (w))), (5, some (.int (nI (j))))] [] (MM ad nb b r I L) (xT G (qE (if kn = 1 then wix i v else -1) (MM ad nb b r I L))) := by
    intro n
    induction n with
    | zero => intro j num w h0; omega
    | succ n ih =>
      intro j num w hn k1 hj hnm hw
      refine x_iload dX7_wordIn_17 rfl ?_
      refine x_aload_n dX7_wordIn_19 rfl ?_
      refine x_cSi (c_strlen (d := d + 2) hi) kX7_48 dX7_wordIn_20 hi rfl rfl (Nat.le_of_ble_eq_true rfl) (fun ru Mu hq => ?_)
      obtain ⟨rfl, rfl⟩ := hq
      refine x_icN_ge 79 dX7_wordIn_23 (by decide) (by omega) (by omega) (fun h23 => ?_) (fun h23 => ?_)
      · refine x_lload_n dX7_wordIn_79 rfl ?_
        refine x_aload_n dX7_wordIn_80 rfl ?_
        refine g_Tokens_value fX7_37 dX7_wordIn_81 ?_
        rw [ev]
        refine x_lcmp dX7_wordIn_84 ?_
        refine x_if_ne 92 dX7_wordIn_85 (by decide) (fun h85 => ?_) (fun h85 => ?_)
        · refine x_iconst dX7_wordIn_92 li_m1 ?_
          refine x_iret dX7_wordIn_93 rfl ?_
          refine ⟨_, rfl, ?_, rfl⟩
          rw [if_pos k1, ← hw, wiF_0 (f := (xsb i).length - j) (by omega)]
          first | rw [if_pos ((lg_cmp_eq _ _).mp h85)] | rw [if_neg (fun z => h85 ((lg_cmp_eq _ _).mpr z))]
        · refine x_iload_n dX7_wordIn_88 rfl ?_
          refine x_goto 93 dX7_wordIn_89 (by decide) ?_
          refine x_iret dX7_wordIn_93 rfl ?_
          refine ⟨_, rfl, ?_, rfl⟩
          rw [if_pos k1, ← hw, wiF_0 (f := (xsb i).length - j) (by omega)]
          first | rw [if_pos ((lg_cmp_eq _ _).mp h85)] | rw [if_neg (fun z => h85 ((lg_cmp_eq _ _).mpr z))]
      · refine x_aload_n dX7_wordIn_26 rfl ?_
        refine x_iload dX7_wordIn_27 rfl ?_
        refine x_cSi (c_charAt (d := d) hi (j := j) h23) kX7_54 dX7_wordIn_29 hi rfl rfl (Nat.le_of_ble_eq_true rfl) (fun ru Mu hq => ?_)
        obtain ⟨rfl, rfl⟩ := hq
        have hc := sch_az i hi j h23
        have hc2 := (sch_ok i hi j h23).2
        refine x_istore dX7_wordIn_32 (by decide) rfl ?_
        refine x_iload dX7_wordIn_34 rfl ?_
        refine x_bipush dX7_wordIn_36 lb_32 ?_
        refine x_icN_eq 57 dX7_wordIn_38 (by decide) (by omega) (by omega) (fun h38 => ?_) (fun h38 => ?_)
        · refine x_lload_n dX7_wordIn_57 rfl ?_
          refine x_aload_n dX7_wordIn_58 rfl ?_
          refine g_Tokens_value fX7_37 dX7_wordIn_59 ?_
          rw [ev]
          refine x_lcmp dX7_wordIn_62 ?_
          refine x_if_ne 68 dX7_wordIn_63 (by decide) (fun h63 => ?_) (fun h63 => ?_)
          · refine x_iincN 1 dX7_wordIn_68 li_1 rfl (by decide) rfl ?_
            refine x_lconst dX7_wordIn_71 (v := lN 0) rfl ?_
            refine x_lstore_n dX7_wordIn_72 (by decide) rfl ?_
            refine x_iincN 1 dX7_wordIn_73 li_1 rfl (by decide) rfl ?_
            refine x_goto 17 dX7_wordIn_76 (by decide) ?_
            first
              | (refine x_ls ?_ (ih (j + 1) num (w <<< ((nI 5).toInt64 &&& 63) ||| (nI (sch i j - 97 + 1)).toInt64) (by omega) k1 (by omega) (by omega) ?_)
                 · exact ⟨rfl, rfl, rfl, rfl, rfl, trivial⟩
                 · rw [← hw, wiF_s (f := (xsb i).length - j) (by omega), if_neg h38, show (xsb i).length - (j + 1) = (xsb i).length - j - 1 by omega])
              | (refine x_ls ?_ (ih (j + 1) (num + 1) (lN 0) (by omega) k1 (by omega) (by omega) ?_)
                 · exact ⟨rfl, rfl, rfl, rfl, rfl, trivial⟩
                 · rw [← hw, wiF_s (f := (xsb i).length - j) (by omega), if_pos h38, if_neg (fun z => h63 ((lg_cmp_eq _ _).mpr z)), show (xsb i).length - (j + 1) = (xsb i).length - j - 1 by omega])
          · refine x_iload_n dX7_wordIn_66 rfl ?_
            refine x_iret dX7_wordIn_67 rfl ?_
            refine ⟨_, rfl, ?_, rfl⟩
            rw [if_pos k1, ← hw, wiF_s (f := (xsb i).length - j) (by omega), if_pos h38, if_pos ((lg_cmp_eq _ _).mp h63)]
        · refine x_lload_n dX7_wordIn_41 rfl ?_
          refine x_iconst dX7_wordIn_42 li_5 ?_
          refine x_lshl dX7_wordIn_43 rfl ?_
          refine x_iload dX7_wordIn_44 rfl ?_
          refine x_bipush dX7_wordIn_46 lb_97 ?_
          refine x_isubN dX7_wordIn_48 (by omega) ?_
          refine x_iconst dX7_wordIn_49 li_1 ?_
          refine x_iaddN dX7_wordIn_50 ?_
          refine x_i2l dX7_wordIn_51 rfl ?_
          refine x_lor dX7_wordIn_52 ?_
          refine x_lstore_n dX7_wordIn_53 (by decide) rfl ?_
          refine x_goto 73 dX7_wordIn_54 (by decide) ?_
          refine x_iincN 1 dX7_wordIn_73 li_1 rfl (by decide) rfl ?_
          refine x_goto 17 dX7_wordIn_76 (by decide) ?_
          first
            | (refine x_ls ?_ (ih (j + 1) num (w <<< ((nI 5).toInt64 &&& 63) ||| (nI (sch i j - 97 + 1)).toInt64) (by omega) k1 (by omega) (by omega) ?_)
               · exact ⟨rfl, rfl, rfl, rfl, rfl, trivial⟩
               · rw [← hw, wiF_s (f := (xsb i).length - j) (by omega), if_neg h38, show (xsb i).length - (j + 1) = (xsb i).length - j - 1 by omega])
            | (refine x_ls ?_ (ih (j + 1) (num + 1) (lN 0) (by omega) k1 (by omega) (by omega) ?_)
               · exact ⟨rfl, rfl, rfl, rfl, rfl, trivial⟩
               · rw [← hw, wiF_s (f := (xsb i).length - j) (by omega), if_pos h38, if_neg (fun z => h63 ((lg_cmp_eq _ _).mpr z)), show (xsb i).length - (j + 1) = (xsb i).length - j - 1 by omega])
  refine x_start (by decide) (Nat.le_of_ble_eq_true rfl) ?_
  refine x_aload_n dX7_wordIn_0 rfl ?_
  refine g_Tokens_kind fX7_45 dX7_wordIn_1 ?_
  rw [ek]
  refine x_iconst dX7_wordIn_4 li_1 ?_
  refine x_icN_eq 10 dX7_wordIn_5 (by decide) (by omega) (by omega) (fun h5 => ?_) (fun h5 => ?_)
  · refine x_iconst dX7_wordIn_10 li_0 ?_
    refine x_istore_n dX7_wordIn_11 (by decide) rfl ?_
    refine x_lconst dX7_wordIn_12 (v := lN 0) rfl ?_
    refine x_lstore_n dX7_wordIn_13 (by decide) rfl ?_
    refine x_iconst dX7_wordIn_14 li_0 ?_
    refine x_istore dX7_wordIn_15 (by decide) rfl ?_
    refine x_ls ?_ (loop17 101 0 0 (lN 0) (by omega) (by omega) (by omega) (by omega) rfl)
    exact ⟨rfl, rfl, rfl, rfl, rfl, trivial⟩
  · refine x_iconst dX7_wordIn_8 li_m1 ?_
    refine x_iret dX7_wordIn_9 rfl ?_
    refine ⟨_, rfl, ?_, rfl⟩
    rw [if_neg (by omega)]
set_option maxRecDepth 100000 in
set_option maxHeartbeats 4000000 in
theorem c_tbegin {T : Nat → Nat} {e : Nat} (hE : e ≤ 1100) (hT : ∀ i, i < e → I 14 0 i = nI (T i)) (hT2 : ∀ i, T i < 256) : Mt G vX7_begin (d + 1) (0, 0) [.ref (ad 7 0), .int (nI (e))] (MM ad nb b r I L) (qV (fun M' => ∃ I' L', M' = MM ad nb b r I' L' ∧ TK T e 0 I' L' ∧ F7 I I' ∧ F7 L L')) := by
  refine x_start (by decide) (Nat.le_of_ble_eq_true rfl) ?_
  refine x_aload_n dX7_begin_0 rfl ?_
  refine x_iconst dX7_begin_1 li_0 ?_
  refine x_iload_n dX7_begin_2 rfl ?_
  refine x_aload_n dX7_begin_3 rfl ?_
  refine g_Tokens_tape fX7_9 dX7_begin_4 ?_
  refine x_alen dX7_begin_7 rfl (by decide) (Nat.le_of_ble_eq_true rfl) ?_
  refine x_min dX7_begin_8 (xm3 65 rfl rfl) (Nat.le_of_ble_eq_true rfl) ?_
  rw [nI_min (by omega) (by omega), show min e 1100 = e by omega]
  refine x_max dX7_begin_11 (xm3 68 rfl rfl) (Nat.le_of_ble_eq_true rfl) ?_
  rw [nI_max (by omega) (by omega), show max 0 e = e by omega]
  refine p_Tokens_end fX7_24 dX7_begin_14 ?_
  refine x_aload_n dX7_begin_17 rfl ?_
  refine x_iconst dX7_begin_18 li_0 ?_
  refine p_Tokens_after fX7_28 dX7_begin_19 ?_
  refine x_aload_n dX7_begin_22 rfl ?_
  refine x_cvv (c_next (d := d) (I := xu (xu I 7 0 1 (nI e)) 7 0 2 (nI 0)) (T := T) (a := 0) hE (fun i hi => by rw [xu_ns (by decide), xu_ns (by decide)]; exact hT i hi) hT2 (by omega) (by rw [xu_nk (by decide), xu_s]) xu_s) kX7_31 dX7_begin_23 rfl (Nat.le_of_ble_eq_true rfl) rfl rfl (Nat.le_of_ble_eq_true rfl) (fun M2 hq => ?_)
  obtain ⟨I2, L2, rfl, k1, k2, k3⟩ := hq
  refine x_vret dX7_begin_26 rfl ?_
  exact ⟨rfl, _, _, rfl, k1, fun s hs => (k2 s hs).trans (by funext a c; rw [xu_ns hs, xu_ns hs]), k3⟩
set_option maxRecDepth 100000 in
set_option maxHeartbeats 4000000 in
theorem c_wrong {f q : Nat} : Mt G vX6_wrong (d) (0, 0) [.ref (ad 6 0), .int (nI (f)), .int (nI (q))] (MM ad nb b r I L) (qE (nI 0) (MM ad nb b r (xu (xu I 6 0 1 (nI f)) 6 0 2 (nI q)) L)) := by
  refine x_start (by decide) (Nat.le_of_ble_eq_true rfl) ?_
  refine x_aload_n dX6_wrong_0 rfl ?_
  refine x_iload_n dX6_wrong_1 rfl ?_
  refine p_Teller_fault fX6_45 dX6_wrong_2 ?_
  refine x_aload_n dX6_wrong_5 rfl ?_
  refine x_iload_n dX6_wrong_6 rfl ?_
  refine p_Teller_faultAt fX6_48 dX6_wrong_7 ?_
  refine x_iconst dX6_wrong_10 li_0 ?_
  refine x_zret dX6_wrong_11 rfl rfl ?_
  exact ⟨_, rfl, rfl, rfl⟩
set_option maxRecDepth 100000 in
set_option maxHeartbeats 4000000 in
theorem c_ttake {T : Nat → Nat} {e : Nat} (hE : e ≤ 1100) (hT : ∀ i, i < e → I 14 0 i = nI (T i)) (hT2 : ∀ i, T i < 256) {a : Nat} (ha : a ≤ e) (hK : TK T e a I L) {num : Nat} : Mt G vX6_take (d + 1) (0, 0) [.ref (ad 6 0), .int (nI (num))] (MM ad nb b r I L) (qI (fun rr M' => rr = nI 1 ∧ ∃ I' L', M' = MM ad nb b r I' L' ∧ TK T e (nx T e a) I' L' ∧ I' 6 0 8 = nI num ∧ I' 6 0 9 = nI (tA T e a) ∧ (∀ k, k ≠ 8 → k ≠ 9 → I' 6 0 k = I 6 0 k) ∧ F67 I I' ∧ F7 L L')) := by
  refine x_start (by decide) (Nat.le_of_ble_eq_true rfl) ?_
  refine x_aload_n dX6_take_0 rfl ?_
  refine x_iload_n dX6_take_1 rfl ?_
  refine p_Teller_found fX6_137 dX6_take_2 ?_
  refine x_aload_n dX6_take_5 rfl ?_
  refine x_aload_n dX6_take_6 rfl ?_
  refine g_Teller_tokens fX6_34 dX6_take_7 ?_
  refine g_Tokens_at fX6_65 dX6_take_10 ?_
  rw [xu_ns (by decide), hK.2.1]
  refine p_Teller_foundAt fX6_183 dX6_take_13 ?_
  refine x_aload_n dX6_take_16 rfl ?_
  refine g_Teller_tokens fX6_34 dX6_take_17 ?_
  refine x_cvv (c_next (d := d) (I := (xu (xu I 6 0 8 (nI num)) 6 0 9 (nI (tA T e a)))) (T := T) (a := nx T e a) hE (fun i hi => by rw [xu_ns (by decide), xu_ns (by decide)]; exact hT i hi) hT2 (nx_le ha).2 (by rw [xu_ns (by decide), xu_ns (by decide)]; exact hK.1) (by rw [xu_ns (by decide), xu_ns (by decide)]; exact hK.2.2.1)) kX6_62 dX6_take_20 rfl (Nat.le_of_ble_eq_true rfl) rfl rfl (Nat.le_of_ble_eq_true rfl) (fun M2 hq => ?_)
  obtain ⟨I2, L2, rfl, k1, k2, k3⟩ := hq
  refine x_iconst dX6_take_23 li_1 ?_
  refine x_zret dX6_take_24 rfl rfl ?_
  refine ⟨_, rfl, rfl, _, _, rfl, k1, ?_, ?_, fun k h8 h9 => ?_, fun s h6 h7 => ?_, k3⟩
  · rw [k2 6 (by decide), xu_nk (by decide), xu_s]
  · rw [k2 6 (by decide), xu_s]
  · rw [k2 6 (by decide), xu_nk h9, xu_nk h8]
  · rw [k2 s h7]; funext x y; rw [xu_ns h6, xu_ns h6]

/-- names: where they were told first, what they name -/
def XNm (T : Nat → Nat) (e : Nat) (nm : List (Nat × Nat × Nat)) (I : Nat → Nat → Nat → Int32) (L : Nat → Nat → Nat → Int64) : Prop := I 6 0 7 = nI nm.length ∧ nm.length ≤ 24 ∧ ∀ (i : Nat) (q : Nat × Nat × Nat), nm[i]? = some q → kd T e q.1 = 1 ∧ q.2.1 < 12 ∧ q.2.2 ≤ 6 ∧ L 38 0 i = vl T e q.1 ∧ I 39 0 i = nI q.2.1 ∧ I 40 0 i = nI q.2.2
def nmA (T : Nat → Nat) (e : Nat) (nm : List (Nat × Nat × Nat)) (a : Nat) : Nat := fst (fun i => decide (vl T e (nm.getD i (0, 0, 0)).1 = vl T e a)) 0 nm.length

set_option maxRecDepth 100000 in
set_option maxHeartbeats 4000000 in
theorem c_nameAt {T : Nat → Nat} {e a : Nat} {nm : List (Nat × Nat × Nat)} (hK : TK T e a I L) (hN : XNm T e nm I L) : Mt G vX6_nameAt (d) (0, 0) [.ref (ad 6 0)] (MM ad nb b r I L) (qE (if nmA T e nm a < nm.length then nI (nmA T e nm a) else -1) (MM ad nb b r I L)) := by
  obtain ⟨n1, n2, n3⟩ := hN
  have loop2 : ∀ (n : Nat) (k : Nat), nm.length - k < n → k ≤ nm.length → k + fst (fun i => decide (vl T e (nm.getD i (0, 0, 0)).1 = vl T e a)) k (nm.length - k) = fst (fun i => decide (vl T e (nm.getD i (0, 0, 0)).1 = vl T e a)) 0 nm.length → X G vX6_nameAt (d) (0, 0) 2 [(0, some (.ref (ad 6 0))), (1, some (.int (nI (k))))] [] (MM ad nb b r I L) (xT G (qE (if nmA T e nm a < nm.length then nI (nmA T e nm a) else -1) (MM ad nb b r I L))) := by
    intro n
    induction n with
    | zero => intro k h0; omega
    | succ n ih =>
      intro k hn hk hf
      refine x_iload_n dX6_nameAt_2 rfl ?_
      refine x_aload_n dX6_nameAt_3 rfl ?_
      refine g_Teller_named fX6_41 dX6_nameAt_4 ?_
      rw [n1]
      refine x_icN_ge 35 dX6_nameAt_7 (by decide) (by omega) (by omega) (fun h7 => ?_) (fun h7 => ?_)
      · refine x_iconst dX6_nameAt_35 li_m1 ?_
        refine x_iret dX6_nameAt_36 rfl ?_
        refine ⟨_, rfl, ?_, rfl⟩
        have hx : nmA T e nm a = nm.length := by
          unfold nmA
          rw [← hf, show nm.length - k = 0 by omega, fst_0]
          omega
        rw [hx, if_neg (by omega)]
      · refine x_aload_n dX6_nameAt_10 rfl ?_
        refine g_Teller_names fX6_18 dX6_nameAt_11 ?_
        refine x_iload_n dX6_nameAt_14 rfl ?_
        refine x_lald dX6_nameAt_15 rfl rfl (Nat.le_of_ble_eq_true rfl) (by first | exact Nat.le_of_ble_eq_true rfl | assumption | omega) ?_
        have hq : nm[k]? = some (nm.getD k (0, 0, 0)) := by rw [List.getD_eq_getElem?_getD, List.getElem?_eq_getElem h7]; rfl
        rw [(n3 k _ hq).2.2.2.1]
        refine x_aload_n dX6_nameAt_16 rfl ?_
        refine g_Teller_tokens fX6_34 dX6_nameAt_17 ?_
        refine g_Tokens_value fX6_218 dX6_nameAt_20 ?_
        rw [hK.2.2.2.2]
        refine x_lcmp dX6_nameAt_23 ?_
        refine x_if_ne 29 dX6_nameAt_24 (by decide) (fun h24 => ?_) (fun h24 => ?_)
        · refine x_iincN 1 dX6_nameAt_29 li_1 rfl (by decide) rfl ?_
          refine x_goto 2 dX6_nameAt_32 (by decide) ?_
          refine x_ls ?_ (ih (k + 1) (by omega) (by omega) ((fst_f h7 (decide_eq_false (fun z => h24 ((lg_cmp_eq _ _).mpr z)))).trans hf))
          exact ⟨rfl, rfl, trivial⟩
        · refine x_iload_n dX6_nameAt_27 rfl ?_
          refine x_iret dX6_nameAt_28 rfl ?_
          refine ⟨_, rfl, ?_, rfl⟩
          have hx : nmA T e nm a = k := by
            unfold nmA
            rw [← hf]
            exact fst_t (decide_eq_true ((lg_cmp_eq _ _).mp h24))
          rw [hx, if_pos h7]
  refine x_start (by decide) (Nat.le_of_ble_eq_true rfl) ?_
  refine x_iconst dX6_nameAt_0 li_0 ?_
  refine x_istore_n dX6_nameAt_1 (by decide) rfl ?_
  refine x_ls ?_ (loop2 25 0 (by omega) (by omega) (by rw [Nat.zero_add, Nat.sub_zero]))
  exact ⟨rfl, rfl, trivial⟩
end Tel
