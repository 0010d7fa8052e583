section Tel16
variable {G : xG} {ad : Nat → Nat → Nat} {nb : Nat} {b r : Option Nat} {L : Nat → Nat → Nat → Int64} {V : sV} {I : Nat → Nat → Nat → Int32} {d : Nat}

/-- lines, a semicolon between two, to the end -/
def rdAll (T : Nat → Nat) (e : Nat) : Nat → pS → lR
  | 0, s => .inr s
  | f + 1, s => match rdLn T e s with
    | .inl q => .inl q
    | .inr s' => if kd T e s'.2.2 = 3 then rdAll T e f (s'.1, s'.2.1, nx T e s'.2.2) else if kd T e s'.2.2 ≠ 0 then .inl (1, tA T e s'.2.2) else if s'.1 0 1 0 = 0 ∨ s'.1 0 4 0 = 0 then .inl (6, tA T e s'.2.2) else .inr s'
theorem rdAll_l {T : Nat → Nat} {e f : Nat} {s : pS} {q : Nat × Nat} (hf : 0 < f) (h : rdLn T e s = .inl q) : rdAll T e f s = .inl q := by
  obtain ⟨g, rfl⟩ : ∃ g, f = g + 1 := ⟨f - 1, by omega⟩
  unfold rdAll
  rw [h]
theorem rdAll_r {T : Nat → Nat} {e f : Nat} {s s' : pS} (hf : 0 < f) (h : rdLn T e s = .inr s') : rdAll T e f s = if kd T e s'.2.2 = 3 then rdAll T e (f - 1) (s'.1, s'.2.1, nx T e s'.2.2) else if kd T e s'.2.2 ≠ 0 then .inl (1, tA T e s'.2.2) else if s'.1 0 1 0 = 0 ∨ s'.1 0 4 0 = 0 then .inl (6, tA T e s'.2.2) else .inr s' := by
  obtain ⟨g, rfl⟩ : ∃ g, f = g + 1 := ⟨f - 1, by omega⟩
  conv => lhs; unfold rdAll
  rw [h]
  rfl
theorem nx_lt {T : Nat → Nat} {e a : Nat} (h : a ≤ e) (hk : kd T e a = 3 ∨ kd T e a = 4) : a < nx T e a := by
  have h1 := tA_le (T := T) h
  unfold kd kdF at hk
  unfold nx afF
  by_cases l : 0 < tL T e (tA T e a)
  · rw [if_pos l] at hk
    split at hk <;> omega
  · by_cases g : 0 < tD T e (tA T e a)
    · rw [if_neg l, if_pos g] at hk
      split at hk <;> omega
    · rw [if_neg l, if_neg g] at hk
      by_cases z : e ≤ tA T e a
      · rw [if_pos z] at hk; omega
      · rw [if_pos (by omega)]; omega
def qRd (ad : Nat → Nat → Nat) (nb : Nat) (b r : Option Nat) (I : Nat → Nat → Nat → Int32) (L : Nat → Nat → Nat → Int64) (q : lR) : Option Value → xM → Prop := qI (fun rr M' => rr = bI q.isRight ∧ ∃ I' L', M' = MM ad nb b r I' L' ∧ FP I I' ∧ FL L L' ∧ (∀ f, q = .inl f → I' 6 0 1 = nI f.1 ∧ I' 6 0 2 = nI f.2) ∧ ∀ s, q = .inr s → XB s.1 1 I' ∧ PC s ∧ 0 < s.1 0 0 0 ∧ I' 6 0 1 = nI 0 ∧ I' 6 0 2 = -1)
theorem qRd_no {q : lR} {f : Nat × Nat} {I' : Nat → Nat → Nat → Int32} {L' : Nat → Nat → Nat → Int64} (h : q = .inl f) (h1 : I' 6 0 1 = nI f.1 ∧ I' 6 0 2 = nI f.2) (h2 : FP I I') (h3 : FL L L') : qRd ad nb b r I L q (some (.int (nI 0))) (MM ad nb b r I' L') := by
  subst h
  exact ⟨_, rfl, rfl, _, _, rfl, h2, h3, fun g hg => by cases hg; exact h1, fun s hs => by cases hs⟩
theorem qRd_ok {q : lR} {s : pS} {I' : Nat → Nat → Nat → Int32} {L' : Nat → Nat → Nat → Int64} (h : q = .inr s) (h1 : XB s.1 1 I' ∧ PC s ∧ 0 < s.1 0 0 0 ∧ I' 6 0 1 = nI 0 ∧ I' 6 0 2 = -1) (h2 : FP I I') (h3 : FL L L') : qRd ad nb b r I L q (some (.int (nI 1))) (MM ad nb b r I' L') := by
  subst h
  exact ⟨_, rfl, rfl, _, _, rfl, h2, h3, (fun g hg => nomatch hg), fun s hs => by cases hs; exact h1⟩
theorem lR_l {q : lR} (h : bI q.isRight = 0) : ∃ f, q = .inl f := by
  cases q with
  | inl f => exact ⟨f, rfl⟩
  | inr x => exact absurd (show nI 1 = 0 from h) (by decide)
theorem lR_r {q : lR} (h : ¬ bI q.isRight = 0) : ∃ x, q = .inr x := by
  cases q with
  | inl f => exact absurd rfl h
  | inr x => exact ⟨x, rfl⟩
def V00 : sV := fun _ _ _ => 0
theorem PC_0 : PC (V00, [], 0) := by
  refine ⟨⟨?_, rfl, fun q hq => absurd hq List.not_mem_nil⟩, rfl, rfl⟩
  exact ⟨Nat.zero_le _, Nat.zero_le _, Nat.zero_le _, Nat.zero_le _, Nat.zero_le _, Nat.zero_le _, Nat.zero_le _, Nat.zero_le _, Nat.zero_le _, Nat.zero_le _, Nat.zero_le _, Nat.zero_le _, fun l hl => Nat.zero_le _, fun l hl => absurd hl (Nat.not_lt_zero l), fun l hl => absurd hl (Nat.not_lt_zero l), fun l hl => absurd hl (Nat.not_lt_zero l), fun _ _ => Nat.zero_le _, fun _ _ => Nat.zero_le _, fun l hl => absurd hl (Nat.not_lt_zero l), fun _ _ => Nat.zero_le _, fun _ => Nat.zero_le _, fun _ i hi => absurd hi (Nat.not_lt_zero i), fun l hl => absurd hl (Nat.not_lt_zero l), fun _ => Nat.zero_le _⟩

set_option maxRecDepth 100000 in
set_option maxHeartbeats 4000000 in
theorem lp_read {T : Nat → Nat} {e : Nat} (hE : e ≤ 1100) (hT : ∀ i, i < e → I 14 0 i = nI (T i)) (hT2 : ∀ i, T i < 256)  : ∀ (n : Nat) (k : Nat) (s : pS) (I1 : Nat → Nat → Nat → Int32) (L1 : Nat → Nat → Nat → Int64) (q : lR), e - k < n → k ≤ s.2.2 → PSt T e s I1 L1 → PC s → (I1 6 0 1 = nI 0 ∧ I1 6 0 2 = -1) → FP I I1 → FL L L1 → rdAll T e (e + 1 - k) s = q → X G vX6_read (d + 8) (0, 0) 34 [(0, some (.ref (ad 6 0))), (1, some (.int (nI (e)))), (2, some (.int (nI (1)))), (3, some (.int (nI (k))))] [] (MM ad nb b r I1 L1) (xT G (qRd ad nb b r I L q)) := by
  intro n
  induction n with
  | zero => intro k s I1 L1 q h0; omega
  | succ n ih =>
    intro k s I1 L1 q hn hk hP hC f6 fp fl hs
    have hse := hP.1
    have hT1 : ∀ i, i < e → I1 14 0 i = nI (T i) := fun i hi => by rw [fp 14 0 (by unfold db; omega)]; exact hT i hi
    refine x_iload_n dX6_read_34 rfl ?_
    refine x_ifN_eq 86 dX6_read_35 (by decide) (by omega) (fun h35 => absurd h35 (by omega)) (fun h35 => ?_)
    refine x_iload_n dX6_read_38 rfl ?_
    refine x_iload_n dX6_read_39 rfl ?_
    refine x_icN_gt 86 dX6_read_40 (by decide) (by omega) (by omega) (fun h40 => absurd h40 (by omega)) (fun h40 => ?_)
    refine x_aload_n dX6_read_43 rfl ?_
    refine x_cvi (c_readLine (d := d) hE hT1 hT2 hP hC.1) kX6_55 dX6_read_44 rfl (Nat.le_of_ble_eq_true rfl) rfl rfl (Nat.le_of_ble_eq_true rfl) (fun ru Mu hq => ?_)
    obtain ⟨rfl, I2, L2, rfl, p2, l2, e2, g2⟩ := hq
    refine x_if_ne 52 dX6_read_47 (by decide) (fun h47 => ?_) (fun h47 => ?_)
    · obtain ⟨s', hs'⟩ := lR_r h47
      obtain ⟨hP2, g21, g22⟩ := g2 s' hs'
      have hk2 := kp_ln hC hse hs'
      have hsz1 := hk2.1.1.1.1.sz 1 (by omega)
      have hsz4 := hk2.1.1.1.1.sz 4 (by omega)
      have hkd := kd_le (T := T) (e := e) (a := s'.2.2)
      have hta := (tA_le (T := T) hP2.1).2
      refine x_aload_n dX6_read_52 rfl ?_
      refine g_Teller_tokens fX6_34 dX6_read_53 ?_
      refine g_Tokens_kind fX6_59 dX6_read_56 ?_
      refine x_top (v := nI (kd T e s'.2.2)) hP2.2.1.2.2.2.1 ?_
      refine x_iconst dX6_read_59 li_3 ?_
      refine x_icN_ne 67 dX6_read_60 (by decide) (by omega) (by omega) (fun h60 => ?_) (fun h60 => ?_)
      · refine x_iconst dX6_read_67 li_0 ?_
        refine x_istore_n dX6_read_68 (by decide) rfl ?_
        refine x_iload_n dX6_read_69 rfl ?_
        refine x_ifN_eq 80 dX6_read_70 (by decide) (by omega) (fun h70 => ?_) (fun h70 => absurd h70 (by omega))
        refine x_iincN 1 dX6_read_80 li_1 rfl (by decide) rfl ?_
        refine x_goto 34 dX6_read_83 (by decide) ?_
        refine x_iload_n dX6_read_34 rfl ?_
        refine x_ifN_eq 86 dX6_read_35 (by decide) (by omega) (fun h35 => ?_) (fun h35 => absurd h35 (by omega))
        refine x_aload_n dX6_read_86 rfl ?_
        refine g_Teller_tokens fX6_34 dX6_read_87 ?_
        refine g_Tokens_kind fX6_59 dX6_read_90 ?_
        refine x_top (v := nI (kd T e s'.2.2)) hP2.2.1.2.2.2.1 ?_
        refine x_ifN_eq 109 dX6_read_93 (by decide) (by omega) (fun h93 => ?_) (fun h93 => ?_)
        · refine x_aload_n dX6_read_109 rfl ?_
          refine g_Teller_draft fX6_12 dX6_read_110 ?_
          refine g_Border_sizes fX6_72 dX6_read_113 (by first | exact Nat.le_of_ble_eq_true rfl | assumption | omega) ?_
          refine x_iconst dX6_read_116 li_1 ?_
          refine x_iald dX6_read_117 rfl rfl (Nat.lt_of_lt_of_le (by first | assumption | omega | decide) (Nat.le_refl 2)) (by first | exact Nat.le_of_ble_eq_true rfl | assumption | omega) ?_
          rw [hP2.2.2.1.1 1 (by omega)]
          refine x_ifN_eq 133 dX6_read_118 (by decide) (by omega) (fun h118 => ?_) (fun h118 => ?_)
          · refine x_aload_n dX6_read_133 rfl ?_
            refine x_bipush dX6_read_134 lb_6 ?_
            refine x_aload_n dX6_read_136 rfl ?_
            refine g_Teller_tokens fX6_34 dX6_read_137 ?_
            refine g_Tokens_at fX6_65 dX6_read_140 ?_
            rw [hP2.2.1.2.1]
            refine x_cvi (c_wrong (d := d + 7)) kX6_68 dX6_read_143 rfl (Nat.le_of_ble_eq_true rfl) rfl rfl (Nat.le_of_ble_eq_true rfl) (fun ru Mu hq => ?_)
            obtain ⟨rfl, rfl⟩ := hq
            refine x_zret dX6_read_146 rfl rfl ?_
            refine qRd_no (f := (6, tA T e s'.2.2)) ?_ ⟨by rw [xu_nk (by decide), xu_s], xu_s⟩ ((fp.tr p2).tr (fun a c hac => by funext x; rw [xu_ns (by omega), xu_ns (by omega)])) (fl.tr l2)
            rw [← hs, rdAll_r (by omega) hs']
            rw [if_neg h60, if_neg (by omega)]
            exact if_pos (by omega)
          · refine x_aload_n dX6_read_121 rfl ?_
            refine g_Teller_draft fX6_12 dX6_read_122 ?_
            refine g_Border_sizes fX6_72 dX6_read_125 (by first | exact Nat.le_of_ble_eq_true rfl | assumption | omega) ?_
            refine x_iconst dX6_read_128 li_4 ?_
            refine x_iald dX6_read_129 rfl rfl (Nat.lt_of_lt_of_le (by first | assumption | omega | decide) (Nat.le_refl 2)) (by first | exact Nat.le_of_ble_eq_true rfl | assumption | omega) ?_
            rw [hP2.2.2.1.1 4 (by omega)]
            refine x_ifN_ne 147 dX6_read_130 (by decide) (by omega) (fun h130 => ?_) (fun h130 => ?_)
            · refine x_iconst dX6_read_147 li_1 ?_
              refine x_zret dX6_read_148 rfl rfl ?_
              refine qRd_ok (s := s') ?_ ⟨hP2.2.2.1, hk2.1.1, hk2.2, by rw [g21]; exact f6.1, by rw [g22]; exact f6.2⟩ (fp.tr p2) (fl.tr l2)
              rw [← hs, rdAll_r (by omega) hs', if_neg h60, if_neg (by omega), if_neg (by omega)]
            · refine x_aload_n dX6_read_133 rfl ?_
              refine x_bipush dX6_read_134 lb_6 ?_
              refine x_aload_n dX6_read_136 rfl ?_
              refine g_Teller_tokens fX6_34 dX6_read_137 ?_
              refine g_Tokens_at fX6_65 dX6_read_140 ?_
              rw [hP2.2.1.2.1]
              refine x_cvi (c_wrong (d := d + 7)) kX6_68 dX6_read_143 rfl (Nat.le_of_ble_eq_true rfl) rfl rfl (Nat.le_of_ble_eq_true rfl) (fun ru Mu hq => ?_)
              obtain ⟨rfl, rfl⟩ := hq
              refine x_zret dX6_read_146 rfl rfl ?_
              refine qRd_no (f := (6, tA T e s'.2.2)) ?_ ⟨by rw [xu_nk (by decide), xu_s], xu_s⟩ ((fp.tr p2).tr (fun a c hac => by funext x; rw [xu_ns (by omega), xu_ns (by omega)])) (fl.tr l2)
              rw [← hs, rdAll_r (by omega) hs']
              rw [if_neg h60, if_neg (by omega)]
              exact if_pos (by omega)
        · refine x_aload_n dX6_read_96 rfl ?_
          refine x_iconst dX6_read_97 li_1 ?_
          refine x_aload_n dX6_read_98 rfl ?_
          refine g_Teller_tokens fX6_34 dX6_read_99 ?_
          refine g_Tokens_at fX6_65 dX6_read_102 ?_
          rw [hP2.2.1.2.1]
          refine x_cvi (c_wrong (d := d + 7)) kX6_68 dX6_read_105 rfl (Nat.le_of_ble_eq_true rfl) rfl rfl (Nat.le_of_ble_eq_true rfl) (fun ru Mu hq => ?_)
          obtain ⟨rfl, rfl⟩ := hq
          refine x_zret dX6_read_108 rfl rfl ?_
          refine qRd_no (f := (1, tA T e s'.2.2)) ?_ ⟨by rw [xu_nk (by decide), xu_s], xu_s⟩ ((fp.tr p2).tr (fun a c hac => by funext x; rw [xu_ns (by omega), xu_ns (by omega)])) (fl.tr l2)
          rw [← hs, rdAll_r (by omega) hs']
          rw [if_neg h60]
          exact if_pos (by omega)
      · refine x_iconst dX6_read_63 li_1 ?_
        refine x_goto 68 dX6_read_64 (by decide) ?_
        refine x_istore_n dX6_read_68 (by decide) rfl ?_
        refine x_iload_n dX6_read_69 rfl ?_
        refine x_ifN_eq 80 dX6_read_70 (by decide) (by omega) (fun h70 => absurd h70 (by omega)) (fun h70 => ?_)
        refine x_aload_n dX6_read_73 rfl ?_
        refine g_Teller_tokens fX6_34 dX6_read_74 ?_
        refine x_cvv (c_next (d := d + 7) (a := nx T e s'.2.2) hE (fun i hi => by rw [p2 14 0 (by unfold db; omega)]; exact hT1 i hi) hT2 (nx_le hP2.1).2 hP2.2.1.1 hP2.2.1.2.2.1) kX6_62 dX6_read_77 rfl (Nat.le_of_ble_eq_true rfl) rfl rfl (Nat.le_of_ble_eq_true rfl) (fun Mu hq => ?_)
        obtain ⟨I3, L3, rfl, k7, f7, l7⟩ := hq
        have hP3 := hP2.nx k7 f7 l7
        refine x_iincN 1 dX6_read_80 li_1 rfl (by decide) rfl ?_
        refine x_goto 34 dX6_read_83 (by decide) ?_
        have hlt := nx_lt (T := T) hP2.1 (Or.inl h60)
        have hmn := hk2.1.2.1
        have hP3e : nx T e s'.2.2 ≤ e := hP3.1
        refine x_ls ?_ (ih (k + 1) (s'.1, s'.2.1, nx T e s'.2.2) I3 L3 q (by omega) (by show k + 1 ≤ nx T e s'.2.2; omega) hP3 hk2.1.1 ⟨by rw [f7 6 (by decide), g21]; exact f6.1, by rw [f7 6 (by decide), g22]; exact f6.2⟩ ((fp.tr p2).tr (fun a c hac => by rw [f7 a (by omega)])) ((fl.tr l2).tr (fun a h7 _ => l7 a h7)) ?_)
        · exact ⟨rfl, rfl, rfl, rfl, trivial⟩
        · rw [← hs, rdAll_r (by omega) hs', if_pos h60, show e + 1 - (k + 1) = e + 1 - k - 1 by omega]
    · obtain ⟨f, hf⟩ := lR_l h47
      refine x_iconst dX6_read_50 li_0 ?_
      refine x_zret dX6_read_51 rfl rfl ?_
      refine qRd_no (f := f) ?_ (e2 f hf) (fp.tr p2) (fl.tr l2)
      rw [← hs]
      exact rdAll_l (by omega) hf
set_option maxRecDepth 100000 in
set_option maxHeartbeats 4000000 in
theorem c_read {T : Nat → Nat} {e : Nat} (hE : e ≤ 1100) (hT : ∀ i, i < e → I 14 0 i = nI (T i)) (hT2 : ∀ i, T i < 256) : Mt G vX6_read (d + 8) (0, 0) [.ref (ad 6 0), .int (nI (e))] (MM ad nb b r I L) (qRd ad nb b r I L (rdAll T e (e + 1) (V00, [], 0))) := by
  refine x_start (by decide) (Nat.le_of_ble_eq_true rfl) ?_
  refine x_aload_n dX6_read_0 rfl ?_
  refine g_Teller_draft fX6_12 dX6_read_1 ?_
  refine x_cvv (c_bclear (d := d + 6)) kX6_38 dX6_read_4 rfl (Nat.le_of_ble_eq_true rfl) rfl rfl (Nat.le_of_ble_eq_true rfl) (fun Mu hq => ?_)
  obtain ⟨I1, rfl, b1, b2, b3⟩ := hq
  refine x_aload_n dX6_read_7 rfl ?_
  refine x_iconst dX6_read_8 li_0 ?_
  refine p_Teller_named fX6_41 dX6_read_9 ?_
  refine x_aload_n dX6_read_12 rfl ?_
  refine x_iconst dX6_read_13 li_0 ?_
  refine p_Teller_fault fX6_45 dX6_read_14 ?_
  refine x_aload_n dX6_read_17 rfl ?_
  refine x_iconst dX6_read_18 li_m1 ?_
  refine p_Teller_faultAt fX6_48 dX6_read_19 ?_
  have e6 : ∀ q, q ≠ 6 → (xu (xu (xu I1 6 0 7 (nI 0)) 6 0 1 (nI 0)) 6 0 2 (-1)) q = I1 q := fun q h => by funext x y; rw [xu_ns h, xu_ns h, xu_ns h]
  refine x_aload_n dX6_read_22 rfl ?_
  refine g_Teller_tokens fX6_34 dX6_read_23 ?_
  refine x_iload_n dX6_read_26 rfl ?_
  refine x_cvv (c_tbegin (d := d + 6) hE (fun i hi => by rw [e6 14 (by decide), b3 14 0 (by unfold db; omega)]; exact hT i hi) hT2) kX6_51 dX6_read_27 rfl (Nat.le_of_ble_eq_true rfl) rfl rfl (Nat.le_of_ble_eq_true rfl) (fun Mu hq => ?_)
  obtain ⟨I2, L2, rfl, k7, f7, l7⟩ := hq
  refine x_iconst dX6_read_30 li_1 ?_
  refine x_istore_n dX6_read_31 (by decide) rfl ?_
  refine x_iconst dX6_read_32 li_0 ?_
  refine x_istore_n dX6_read_33 (by decide) rfl ?_
  refine x_ls ?_ (lp_read hE hT hT2 (e + 1) 0 (V00, [], 0) I2 L2 _ (by omega) (Nat.le_refl 0) ⟨Nat.zero_le e, k7, ?_, ?_, ?_⟩ PC_0 ⟨?_, ?_⟩ ?_ ?_ rfl)
  · exact ⟨rfl, rfl, rfl, rfl, trivial⟩
  · exact b1.sm (fun q h1 h2 => by rw [f7 q (by omega), e6 q (by omega)])
  · intro i hi; rw [f7 29 (by decide), e6 29 (by decide), b2 i hi]; rfl
  · refine ⟨?_, Nat.zero_le 24, fun i q hq => by simp at hq⟩
    rw [f7 6 (by decide), xu_nk (by decide), xu_nk (by decide), xu_s]; rfl
  · rw [f7 6 (by decide), xu_nk (by decide), xu_s]
  · rw [f7 6 (by decide), xu_s]
  · intro a c hac; rw [f7 a (by omega), e6 a (by omega), b3 a c (fun z => hac (Or.inr (Or.inr (Or.inr (Or.inr z)))))]
  · exact fun a h7 _ => l7 a h7

/-- BORDER: the border and how it begins, or a fault and where -/
def rdB (T : Nat → Nat) (e : Nat) : lR := rdAll T e (e + 1) (V00, [], 0)
theorem rdAll_pc {T : Nat → Nat} {e : Nat} : ∀ (f : Nat) (s s' : pS), e < s.2.2 + f → s.2.2 ≤ e → PC s → rdAll T e f s = .inr s' → PC s' ∧ 0 < s'.1 0 0 0 ∧ 0 < s'.1 0 1 0 ∧ 0 < s'.1 0 4 0
  | 0, s, s', hf, he, hC, h => by omega
  | f + 1, s, s', hf, he, hC, h => by
    cases hr : rdLn T e s with
    | inl q => rw [rdAll_l (by omega) hr] at h; cases h
    | inr s1 =>
      have hk := kp_ln hC he hr
      rw [rdAll_r (by omega) hr] at h
      split at h
      · rename_i k3
        have := nx_lt hk.1.2.2 (Or.inl k3)
        exact rdAll_pc f (s1.1, s1.2.1, nx T e s1.2.2) s' (by show e < nx T e s1.2.2 + f; have := hk.1.2.1; omega) (nx_le hk.1.2.2).2 hk.1.1 h
      · split at h
        · cases h
        · split at h
          · cases h
          · cases h
            exact ⟨hk.1.1, hk.2, by omega, by omega⟩

end Tel16
