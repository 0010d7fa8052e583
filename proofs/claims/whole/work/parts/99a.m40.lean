section M40
variable {G : xG} {ad : Nat → Nat → Nat} {nb : Nat} {b r : Option Nat} {L : Nat → Nat → Nat → Int64} {V : sV} {I : Nat → Nat → Nat → Int32} {d : Nat}

variable {T : Nat → Nat} {e a : Nat} {nm : List (Nat × Nat × Nat)} {ri : Nat} {c : cS} {s : pS}
theorem csk_inv {q : Nat → pR} {x : Nat} (h : csk q c = .inr x) : ∃ n, c = .inr x ∧ q x = .inr n := by
  cases c with
  | inl f => cases h
  | inr a =>
    cases hq : q a with
    | inl f => rw [csk_f hq] at h; cases h
    | inr n => rw [csk_r hq] at h; cases h; exact ⟨n, rfl, hq⟩
theorem cbg_inv {full : Bool} {w x : Nat} (h : cbg T e full w (.inr a) = .inr x) : full = false ∧ w ≠ 0 ∧ x = nx T e a := by
  unfold cbg at h
  by_cases hw : w = 0
  · rw [if_pos hw] at h
    cases full <;> cases h
  · rw [if_neg hw] at h
    cases full with
    | true => cases h
    | false => cases h; exact ⟨rfl, hw, rfl⟩
theorem lc_csk {q : Nat → pR} {k : Nat → lR} {g : Nat × Nat} (h : csk q (.inr a) = .inl g) : bnd (q a) k = .inl g := by
  cases hq : q a with
  | inl f => rw [csk_f hq] at h; cases h; rfl
  | inr n => rw [csk_r hq] at h; cases h
theorem lc_cst {q : Nat → pR} {k : Nat → lR} {g : Nat × Nat} (h : cst T e q (.inr a) = .inl g) : bnd (q a) k = .inl g := by
  cases hq : q a with
  | inl f => rw [cst_f hq] at h; cases h; rfl
  | inr n => rw [cst_r hq] at h; cases h
theorem cbg_no {so cap : Nat} {g : Nat × Nat} (h0 : so ≠ 0) (h12 : so < 12) (hl : lw T e s.2.2 = so + 1) (hZ : PZ s) (hcap : 0 < cap) (hrm : rmN so = cap) (hle : s.1 0 so 0 ≤ cap) (h : cbg T e (decide (s.1 0 so 0 = cap)) (s.1 0 0 0) (.inr s.2.2) = .inl g) : rdLn T e s = .inl g := by
  by_cases z : ∃ y, cbg T e (decide (s.1 0 so 0 = cap)) (s.1 0 0 0) (.inr s.2.2) = .inr y
  · obtain ⟨y, hy⟩ := z
    rw [hy] at h; cases h
  · rw [rdLn_so h0 h12 hl]
    unfold cbg at h
    by_cases w0 : s.1 0 0 0 = 0
    · have e0 : s.1 0 so 0 = 0 := by rw [hZ w0]; rfl
      rw [if_pos w0, if_neg (by rw [decide_eq_false (by omega)]; decide)] at h
      rw [if_pos w0]
      cases h; rfl
    · rw [if_neg w0] at h ⊢
      by_cases y : s.1 0 so 0 = cap
      · rw [if_pos (decide_eq_true y)] at h
        rw [if_pos (by omega)]
        cases h; rfl
      · rw [if_neg (by rw [decide_eq_false y]; decide)] at h
        cases h
theorem pKn_5 {so n : Nat} (h : pKnown T e nm so a = .inr n) : kd T e a ≠ 5 := by
  unfold pKnown at h
  split at h
  · rename_i h1; have := isN_1 h1; omega
  · cases h

set_option maxRecDepth 100000 in
set_option maxHeartbeats 600000 in
theorem mov_leaves {g : Nat × Nat} {I4 : Nat → Nat → Nat → Int32} {L4 : Nat → Nat → Nat → Int64} (hT : YTp T e I4) (hR : RSt T e (.inl g) I4 L4) (hF : FR I I4 L L4) : X G vX13_readLeaves (d + 9) (0, 0) 55 [(0, some (.ref (ad 13 0)))] [] (MM ad nb b r I4 L4) (xT G (qV (fun M' => ∃ I' L', M' = MM ad nb b r I' L' ∧ RSt T e (.inl g) I' L' ∧ FR I I' L L'))) := by
  refine x_aload_n dX13_readLeaves_55 rfl ?_
  refine x_cvv (m_goesOn' (d := d + 7) hR.2.1) kX13_139 dX13_readLeaves_56 rfl (Nat.le_of_ble_eq_true rfl) rfl rfl (Nat.le_of_ble_eq_true rfl) (fun Mu hq => ?_)
  subst hq
  refine x_aload_n dX13_readLeaves_59 rfl ?_
  refine x_iconst dX13_readLeaves_60 li_1 ?_
  refine x_bipush dX13_readLeaves_61 lb_60 ?_
  refine x_cvi (m_readWhole (d := d + 6) (c := .inl g) (lo := 1) (hi := 60) (by decide) (by decide) hT hR) kX13_158 dX13_readLeaves_63 rfl (Nat.le_of_ble_eq_true rfl) rfl rfl (Nat.le_of_ble_eq_true rfl) (fun rw_ Mu hq => ?_)
  obtain ⟨I5, L5, rfl, r5, f5, -⟩ := hq
  refine x_istore_n dX13_readLeaves_66 (by decide) rfl ?_
  refine x_aload_n dX13_readLeaves_67 rfl ?_
  refine g_M_sort fX13_100 dX13_readLeaves_68 ?_
  refine x_top (show I5 13 0 9 = nI 5 from r5.2.1) ?_
  refine x_iconst dX13_readLeaves_71 li_5 ?_
  refine x_icN_ne 76 dX13_readLeaves_72 (by decide) (by omega) (by omega) (fun h72 => absurd rfl h72) (fun h72 => ?_)
  refine x_vret dX13_readLeaves_75 rfl ?_
  exact ⟨rfl, _, _, rfl, r5, hF.tr f5⟩
set_option maxRecDepth 100000 in
set_option maxHeartbeats 600000 in
theorem m_read_leaves (hr : r = some ri) (hbn : ri < nb) (hT : YTp T e I) (hP : YPS T e s ri I L) (hW : PW s) (hZ : PZ s) (hl : lw T e s.2.2 = 7) : Mt G vX13_readLeaves (d + 9) (0, 0) [.ref (ad 13 0)] (MM ad nb b r I L) (qLn T e ad nb b r ri I L (rdLn T e s)) := by
  have hV := hW.1
  have v0 := hV.1
  have v1 := hV.2.1
  have v2 := hV.2.2.1
  have v3 := hV.2.2.2.1
  have v4 := hV.2.2.2.2.1
  have v7 := hV.2.2.2.2.2.2.2.1
  have v9 := hV.2.2.2.2.2.2.2.2.2.1
  have v10 := hV.2.2.2.2.2.2.2.2.2.2.1
  have hB := hP.2.1
  have hle : s.1 0 6 0 ≤ 8 := by have := hV; unfold VW at this; omega
  have hk1 := lw_kd (T := T) (e := e) (a := s.2.2) (by rw [hl]; decide)
  refine x_start (by decide) (Nat.le_of_ble_eq_true rfl) ?_
  refine x_aload_n dX13_readLeaves_0 rfl ?_
  refine x_aload_n dX13_readLeaves_1 rfl ?_
  refine g_M_read hr fX13_185 dX13_readLeaves_2 ?_
  refine g_MB_left fX13_338 dX13_readLeaves_5 hbn ?_
  refine x_top (y12_6 hB) ?_
  refine x_bipush dX13_readLeaves_8 lb_8 ?_
  refine x_cvv (m_begins (d := d + 6) (x := s.1 0 6 0) (y := 8) (w := s.1 0 0 0) hr hbn (by omega) (by omega) (y12_0 hB) (by omega) hT hP.1 (fun a z => by cases z; omega)) kX13_276 dX13_readLeaves_10 rfl (Nat.le_of_ble_eq_true rfl) rfl rfl (Nat.le_of_ble_eq_true rfl) (fun Mu hq => ?_)
  obtain ⟨I1, L1, rfl, r1, f1⟩ := hq
  refine x_aload_n dX13_readLeaves_13 rfl ?_
  refine x_iconst dX13_readLeaves_14 li_3 ?_
  refine x_cvi (m_readKnown (d := d) (so := 4) hr hbn (by omega) (hT.fr f1) r1 (hP.2.2.fr f1)) kX13_218 dX13_readLeaves_15 rfl (Nat.le_of_ble_eq_true rfl) rfl rfl (Nat.le_of_ble_eq_true rfl) (fun rk Mu hq => ?_)
  obtain ⟨I2, L2, rfl, r2, f2, u2⟩ := hq
  have f12 := f1.tr f2
  refine x_istore_n dX13_readLeaves_18 (by decide) rfl ?_
  refine x_aload_n dX13_readLeaves_19 rfl ?_
  refine x_iconst dX13_readLeaves_20 li_1 ?_
  refine x_cvi (m_knownOne (d := d + 1) (so := 2) hr hbn (by omega) r2 (hP.2.2.fr f12)) kX13_215 dX13_readLeaves_21 rfl (Nat.le_of_ble_eq_true rfl) rfl rfl (Nat.le_of_ble_eq_true rfl) (fun ro Mu hq => ?_)
  obtain ⟨I3, L3, rfl, r3, f3, u3⟩ := hq
  have f3 := f12.tr f3
  refine x_istore_n dX13_readLeaves_24 (by decide) rfl ?_
  cases hc3 : (csk (pKnown T e s.2.1 2) (cst T e (pKnown T e s.2.1 4) (cbg T e (decide (s.1 0 6 0 = 8)) (s.1 0 0 0) (.inr s.2.2)))) with
  | inl g =>
    rw [hc3] at r3
    have hq0 : rdLn T e s = .inl g := by
      cases hc1 : (cbg T e (decide (s.1 0 6 0 = 8)) (s.1 0 0 0) (.inr s.2.2)) with
      | inl g1 =>
        rw [hc1] at hc3
        cases hc3
        exact cbg_no (so := 6) (cap := 8) (by decide) (by decide) hl hZ (by decide) rfl hle hc1
      | inr a1 =>
        obtain ⟨hfu, hw0, rfl⟩ := cbg_inv hc1
        have hfu := of_decide_eq_false hfu
        rw [hc1] at hc3
        rw [rdLn_so (so := 6) (by decide) (by decide) hl, if_neg hw0, if_neg (by show ¬ 8 ≤ _; omega)]
        show bnd (pKnown T e s.2.1 4 (nx T e s.2.2)) _ = _
        cases hp : pKnown T e s.2.1 4 (nx T e s.2.2) with
        | inl g2 => rw [cst_f hp] at hc3; cases hc3; rfl
        | inr x1 =>
          rw [cst_r hp] at hc3
          show bnd (pKnown T e s.2.1 2 (nx T e (nx T e s.2.2))) _ = _
          exact lc_csk (q := pKnown T e s.2.1 2) (a := (nx T e (nx T e s.2.2))) hc3
    refine x_aload_n dX13_readLeaves_25 rfl ?_
    refine g_M_sort fX13_100 dX13_readLeaves_26 ?_
    refine x_top (r3.2.1) ?_
    refine x_iconst dX13_readLeaves_29 li_5 ?_
    refine x_icN_eq 55 dX13_readLeaves_30 (by decide) (by omega) (by omega) (fun h30 => ?_) (fun h30 => absurd rfl h30)
    refine x_wk (x_ls ?_ (mov_leaves (d := d) (hT.fr f3) r3 f3)) (fun v M2 hv => by obtain ⟨h1, I6, L6, h2, h3, h4⟩ := hv; exact ⟨h1, I6, L6, h2, h4.fq, (fun g2 z => by rw [hq0] at z; cases z; exact h3), (fun s2 z => by rw [hq0] at z; cases z)⟩)
    exact ⟨rfl, trivial⟩
  | inr x =>
    rw [hc3] at r3
    obtain ⟨x2, hc2, e2⟩ := csk_inv hc3
    obtain ⟨a1, x1, hc1, e1, hxx⟩ := cst_inv hc2
    obtain ⟨hfu, hw0, ha1⟩ := cbg_inv hc1
    have hfu := of_decide_eq_false hfu
    subst ha1
    subst hxx
    have hrk := u2 _ _ hc1 e1
    have hro := u3 _ _ hc2 e2
    subst hrk
    subst hro
    have hx1 := pKnown_lt (V := s.1) e1 hW.2.2
    have hx2 := pKnown_lt (V := s.1) e2 hW.2.2
    have hB3 := hB.sm (I' := I3) (fun q hq => f3.1 q (by omega))
    have hN3 := hP.2.2.fr f3
    have hvb := hV.2.2.2.2.2.2.2.2.2.2.2.2.2.2.2.2.2.1 x1 x2
    have hm9 := mso_le _ (kd_le (T := T) (e := e) (a := (nx T e (nx T e s.2.2))))
    have hrd : rdLn T e s = if s.1 8 x1 x2 = 0 then bnd (pWhole T e 1 60 (nx T e (nx T e (nx T e s.2.2)))) (fun x3 => .inr (setV (setV s.1 8 x1 x2 x3) 0 6 0 (s.1 0 6 0 + 1), s.2.1, nx T e (nx T e (nx T e (nx T e s.2.2))))) else .inl (3, tA T e (nx T e (nx T e s.2.2))) := by
      rw [rdLn_so (so := 6) (by decide) (by decide) hl, if_neg hw0, if_neg (by show ¬ 8 ≤ _; omega)]
      show bnd (pKnown T e s.2.1 4 (nx T e s.2.2)) _ = _
      rw [e1]
      show bnd (pKnown T e s.2.1 2 (nx T e (nx T e s.2.2))) _ = _
      rw [e2]
      rfl
    refine x_aload_n dX13_readLeaves_25 rfl ?_
    refine g_M_sort fX13_100 dX13_readLeaves_26 ?_
    refine x_top (r3.2.1.1.2.2) ?_
    refine x_iconst dX13_readLeaves_29 li_5 ?_
    refine x_icN_eq 55 dX13_readLeaves_30 (by decide) (by omega) (by omega) (fun h30 => absurd h30 (by omega)) (fun h30 => ?_)
    refine x_aload_n dX13_readLeaves_33 rfl ?_
    refine g_M_read hr fX13_185 dX13_readLeaves_34 ?_
    refine g_MB_leaves fX13_341 dX13_readLeaves_37 hbn ?_
    refine x_bipush dX13_readLeaves_40 lb_6 ?_
    refine x_iload_n dX13_readLeaves_42 rfl ?_
    refine x_imulN dX13_readLeaves_43 ?_
    refine x_iload_n dX13_readLeaves_44 rfl ?_
    refine x_iaddN dX13_readLeaves_45 ?_
    refine x_iald dX13_readLeaves_46 rfl rfl hbn (by first | exact Nat.le_of_ble_eq_true rfl | assumption | omega) ?_
    refine x_top (y71 hB3 (by omega) (by omega)) ?_
    refine x_ifN_le 55 dX13_readLeaves_47 (by decide) (by omega) (fun h47 => ?_) (fun h47 => ?_)
    · have hrd2 : rdLn T e s = bnd (pWhole T e 1 60 (nx T e (nx T e (nx T e s.2.2)))) (fun x3 => .inr (setV (setV s.1 8 x1 x2 x3) 0 6 0 (s.1 0 6 0 + 1), s.2.1, nx T e (nx T e (nx T e (nx T e s.2.2))))) := by rw [hrd, if_pos (by omega)]
      refine x_aload_n dX13_readLeaves_55 rfl ?_
      refine x_cvv (m_next (d := d + 7) (c := .inr (nx T e (nx T e s.2.2))) (hT.fr f3) r3 (fun a z => by cases z; exact pKn_5 e2)) kX13_139 dX13_readLeaves_56 rfl (Nat.le_of_ble_eq_true rfl) rfl rfl (Nat.le_of_ble_eq_true rfl) (fun Mu hq => ?_)
      obtain ⟨I4, L4, rfl, r4, f4⟩ := hq
      have f4 := f3.tr f4
      refine x_aload_n dX13_readLeaves_59 rfl ?_
      refine x_iconst dX13_readLeaves_60 li_1 ?_
      refine x_bipush dX13_readLeaves_61 lb_60 ?_
      refine x_cvi (m_readWhole (d := d + 6) (c := .inr (nx T e (nx T e (nx T e s.2.2)))) (lo := 1) (hi := 60) (by decide) (by decide) (hT.fr f4) r4) kX13_158 dX13_readLeaves_63 rfl (Nat.le_of_ble_eq_true rfl) rfl rfl (Nat.le_of_ble_eq_true rfl) (fun rw_ Mu hq => ?_)
      obtain ⟨I5, L5, rfl, r5, f5, u5⟩ := hq
      have f5 := f4.tr f5
      refine x_istore_n dX13_readLeaves_66 (by decide) rfl ?_
      cases hpw : pWhole T e 1 60 (nx T e (nx T e (nx T e s.2.2))) with
      | inl g =>
        rw [cst_f hpw] at r5
        refine x_aload_n dX13_readLeaves_67 rfl ?_
        refine g_M_sort fX13_100 dX13_readLeaves_68 ?_
        refine x_top (show I5 13 0 9 = nI 5 from r5.2.1) ?_
        refine x_iconst dX13_readLeaves_71 li_5 ?_
        refine x_icN_ne 76 dX13_readLeaves_72 (by decide) (by omega) (by omega) (fun h72 => absurd rfl h72) (fun h72 => ?_)
        refine x_vret dX13_readLeaves_75 rfl ?_
        exact ⟨rfl, _, _, rfl, f5.fq, (fun g z => by rw [hrd2, hpw] at z; cases z; exact r5), (fun s2 z => by rw [hrd2, hpw] at z; cases z)⟩
      | inr x3 =>
        rw [cst_r hpw] at r5
        have hrw := u5 _ _ rfl hpw
        subst hrw
        have hB5 := hB.sm (I' := I5) (fun q hq => f5.1 q (by omega))
        have hm5 := mso_le _ (kd_le (T := T) (e := e) (a := nx T e (nx T e (nx T e (nx T e s.2.2)))))
        refine x_aload_n dX13_readLeaves_67 rfl ?_
        refine g_M_sort fX13_100 dX13_readLeaves_68 ?_
        refine x_top (show I5 13 0 9 = nI (mso (kd T e (nx T e (nx T e (nx T e (nx T e s.2.2)))))) from r5.2.1.1.2.2) ?_
        refine x_iconst dX13_readLeaves_71 li_5 ?_
        refine x_icN_ne 76 dX13_readLeaves_72 (by decide) (by omega) (by omega) (fun h72 => ?_) (fun h72 => absurd h72 (by omega))
        refine x_aload_n dX13_readLeaves_76 rfl ?_
        refine g_M_read hr fX13_185 dX13_readLeaves_77 ?_
        refine g_MB_leaves fX13_341 dX13_readLeaves_80 hbn ?_
        refine x_bipush dX13_readLeaves_83 lb_6 ?_
        refine x_iload_n dX13_readLeaves_85 rfl ?_
        refine x_imulN dX13_readLeaves_86 ?_
        refine x_iload_n dX13_readLeaves_87 rfl ?_
        refine x_iaddN dX13_readLeaves_88 ?_
        refine x_iload_n dX13_readLeaves_89 rfl ?_
        refine x_iast dX13_readLeaves_90 rfl rfl hbn (by first | exact Nat.le_of_ble_eq_true rfl | assumption | omega) ?_
        refine x_aload_n dX13_readLeaves_91 rfl ?_
        refine g_M_read hr fX13_185 dX13_readLeaves_92 ?_
        refine x_dup dX13_readLeaves_95 rfl ?_
        refine g_MB_left fX13_338 dX13_readLeaves_96 hbn ?_
        rw [xu_ns (by decide)]
        refine x_top (show I5 12 ri 6 = nI (s.1 0 6 0) from y12_6 hB5) ?_
        refine x_iconst dX13_readLeaves_99 li_1 ?_
        refine x_iaddN dX13_readLeaves_100 ?_
        refine p_MB_left fX13_338 dX13_readLeaves_101 hbn ?_
        refine x_vret dX13_readLeaves_104 rfl ?_
        have hfq : FQ ri I (xu (xu I5 71 ri (6 * x1 + x2) (nI x3)) 12 ri 6 (nI (s.1 0 6 0 + 1))) L L5 := (f5.fq.xu (by omega)).xu (by omega)
        refine ⟨rfl, _, _, rfl, hfq, (fun g z => by rw [hrd2, hpw] at z; cases z), fun s5 z => ?_⟩
        rw [hrd2, hpw] at z
        cases z
        refine ⟨YPS.st r5 (by funext y; rw [xu_ns (by decide), xu_ns (by decide)]) rfl, YB.leaves (x := x1) (y := x2) (z := x3) (I' := (xu (xu I5 71 ri (6 * x1 + x2) (nI x3)) 12 ri 6 (nI (s.1 0 6 0 + 1)))) ?_ (fun l hl2 => ?_) (by omega) hB5 xu_s (fun k h1 h2 => ?_) (fun q h1 h2 h3 => ?_), ?_⟩
        · rw [xu_ns (by decide), xu_s]
        · rw [xu_ns (by decide), xu_nk hl2]
        · rw [xu_nk h1, xu_ns (by decide)]
        · funext y; rw [xu_ns (by omega), xu_ns h3]
        · exact (hP.2.2.fr f5).sm2 (by rw [xu_nk (by decide), xu_ns (by decide)]) (by funext y; rw [xu_ns (by decide), xu_ns (by decide)]) (by funext y; rw [xu_ns (by decide), xu_ns (by decide)]) rfl
    · refine x_aload_n dX13_readLeaves_50 rfl ?_
      refine x_iconst dX13_readLeaves_51 li_3 ?_
      refine x_cvv (m_flaw (d := d + 8) (c := .inr (nx T e (nx T e s.2.2))) r3) kX13_146 dX13_readLeaves_52 rfl (Nat.le_of_ble_eq_true rfl) rfl rfl (Nat.le_of_ble_eq_true rfl) (fun Mu hq => ?_)
      obtain ⟨I4, rfl, r4, f4⟩ := hq
      have hq0 : rdLn T e s = .inl (3, tA T e (nx T e (nx T e s.2.2))) := by rw [hrd, if_neg (by omega)]
      refine x_wk (x_ls ?_ (mov_leaves (d := d) (g := (3, tA T e (nx T e (nx T e s.2.2)))) (hT.fr (f3.tr f4)) r4 (f3.tr f4))) (fun v M2 hv => by obtain ⟨h1, I6, L6, h2, h3, h4⟩ := hv; exact ⟨h1, I6, L6, h2, h4.fq, (fun g2 z => by rw [hq0] at z; cases z; exact h3), (fun s2 z => by rw [hq0] at z; cases z)⟩)
      exact ⟨rfl, trivial⟩
set_option maxRecDepth 100000 in
set_option maxHeartbeats 600000 in
theorem mov_on {g : Nat × Nat} {I4 : Nat → Nat → Nat → Int32} {L4 : Nat → Nat → Nat → Int64} (hT : YTp T e I4) (hR : RSt T e (.inl g) I4 L4) (hF : FR I I4 L L4) : X G vX13_readOn (d + 9) (0, 0) 55 [(0, some (.ref (ad 13 0)))] [] (MM ad nb b r I4 L4) (xT G (qV (fun M' => ∃ I' L', M' = MM ad nb b r I' L' ∧ RSt T e (.inl g) I' L' ∧ FR I I' L L'))) := by
  refine x_aload_n dX13_readOn_55 rfl ?_
  refine x_cvv (m_goesOn' (d := d + 7) hR.2.1) kX13_139 dX13_readOn_56 rfl (Nat.le_of_ble_eq_true rfl) rfl rfl (Nat.le_of_ble_eq_true rfl) (fun Mu hq => ?_)
  subst hq
  refine x_aload_n dX13_readOn_59 rfl ?_
  refine x_iconst dX13_readOn_60 li_1 ?_
  refine x_bipush dX13_readOn_61 lb_99 ?_
  refine x_cvi (m_readWhole (d := d + 6) (c := .inl g) (lo := 1) (hi := 99) (by decide) (by decide) hT hR) kX13_158 dX13_readOn_63 rfl (Nat.le_of_ble_eq_true rfl) rfl rfl (Nat.le_of_ble_eq_true rfl) (fun rw_ Mu hq => ?_)
  obtain ⟨I5, L5, rfl, r5, f5, -⟩ := hq
  refine x_istore_n dX13_readOn_66 (by decide) rfl ?_
  refine x_aload_n dX13_readOn_67 rfl ?_
  refine g_M_sort fX13_100 dX13_readOn_68 ?_
  refine x_top (show I5 13 0 9 = nI 5 from r5.2.1) ?_
  refine x_iconst dX13_readOn_71 li_5 ?_
  refine x_icN_ne 76 dX13_readOn_72 (by decide) (by omega) (by omega) (fun h72 => absurd rfl h72) (fun h72 => ?_)
  refine x_vret dX13_readOn_75 rfl ?_
  exact ⟨rfl, _, _, rfl, r5, hF.tr f5⟩
set_option maxRecDepth 100000 in
set_option maxHeartbeats 600000 in
theorem m_read_on (hr : r = some ri) (hbn : ri < nb) (hT : YTp T e I) (hP : YPS T e s ri I L) (hW : PW s) (hZ : PZ s) (hl : lw T e s.2.2 = 12) : Mt G vX13_readOn (d + 9) (0, 0) [.ref (ad 13 0)] (MM ad nb b r I L) (qLn T e ad nb b r ri I L (rdLn T e s)) := by
  have hV := hW.1
  have v0 := hV.1
  have v1 := hV.2.1
  have v2 := hV.2.2.1
  have v3 := hV.2.2.2.1
  have v4 := hV.2.2.2.2.1
  have v7 := hV.2.2.2.2.2.2.2.1
  have v9 := hV.2.2.2.2.2.2.2.2.2.1
  have v10 := hV.2.2.2.2.2.2.2.2.2.2.1
  have hB := hP.2.1
  have hle : s.1 0 11 0 ≤ 12 := by have := hV; unfold VW at this; omega
  have hk1 := lw_kd (T := T) (e := e) (a := s.2.2) (by rw [hl]; decide)
  refine x_start (by decide) (Nat.le_of_ble_eq_true rfl) ?_
  refine x_aload_n dX13_readOn_0 rfl ?_
  refine x_aload_n dX13_readOn_1 rfl ?_
  refine g_M_read hr fX13_185 dX13_readOn_2 ?_
  refine g_MB_ons fX13_365 dX13_readOn_5 hbn ?_
  refine x_top (y12_8 hB) ?_
  refine x_bipush dX13_readOn_8 lb_12 ?_
  refine x_cvv (m_begins (d := d + 6) (x := s.1 0 11 0) (y := 12) (w := s.1 0 0 0) hr hbn (by omega) (by omega) (y12_0 hB) (by omega) hT hP.1 (fun a z => by cases z; omega)) kX13_276 dX13_readOn_10 rfl (Nat.le_of_ble_eq_true rfl) rfl rfl (Nat.le_of_ble_eq_true rfl) (fun Mu hq => ?_)
  obtain ⟨I1, L1, rfl, r1, f1⟩ := hq
  refine x_aload_n dX13_readOn_13 rfl ?_
  refine x_iconst dX13_readOn_14 li_4 ?_
  refine x_cvi (m_readKnown (d := d) (so := 7) hr hbn (by omega) (hT.fr f1) r1 (hP.2.2.fr f1)) kX13_218 dX13_readOn_15 rfl (Nat.le_of_ble_eq_true rfl) rfl rfl (Nat.le_of_ble_eq_true rfl) (fun rk Mu hq => ?_)
  obtain ⟨I2, L2, rfl, r2, f2, u2⟩ := hq
  have f12 := f1.tr f2
  refine x_istore_n dX13_readOn_18 (by decide) rfl ?_
  refine x_aload_n dX13_readOn_19 rfl ?_
  refine x_iconst dX13_readOn_20 li_1 ?_
  refine x_cvi (m_knownOne (d := d + 1) (so := 2) hr hbn (by omega) r2 (hP.2.2.fr f12)) kX13_215 dX13_readOn_21 rfl (Nat.le_of_ble_eq_true rfl) rfl rfl (Nat.le_of_ble_eq_true rfl) (fun ro Mu hq => ?_)
  obtain ⟨I3, L3, rfl, r3, f3, u3⟩ := hq
  have f3 := f12.tr f3
  refine x_istore_n dX13_readOn_24 (by decide) rfl ?_
  cases hc3 : (csk (pKnown T e s.2.1 2) (cst T e (pKnown T e s.2.1 7) (cbg T e (decide (s.1 0 11 0 = 12)) (s.1 0 0 0) (.inr s.2.2)))) with
  | inl g =>
    rw [hc3] at r3
    have hq0 : rdLn T e s = .inl g := by
      cases hc1 : (cbg T e (decide (s.1 0 11 0 = 12)) (s.1 0 0 0) (.inr s.2.2)) with
      | inl g1 =>
        rw [hc1] at hc3
        cases hc3
        exact cbg_no (so := 11) (cap := 12) (by decide) (by decide) hl hZ (by decide) rfl hle hc1
      | inr a1 =>
        obtain ⟨hfu, hw0, rfl⟩ := cbg_inv hc1
        have hfu := of_decide_eq_false hfu
        rw [hc1] at hc3
        rw [rdLn_so (so := 11) (by decide) (by decide) hl, if_neg hw0, if_neg (by show ¬ 12 ≤ _; omega)]
        show bnd (pKnown T e s.2.1 7 (nx T e s.2.2)) _ = _
        cases hp : pKnown T e s.2.1 7 (nx T e s.2.2) with
        | inl g2 => rw [cst_f hp] at hc3; cases hc3; rfl
        | inr x1 =>
          rw [cst_r hp] at hc3
          show bnd (pKnown T e s.2.1 2 (nx T e (nx T e s.2.2))) _ = _
          exact lc_csk (q := pKnown T e s.2.1 2) (a := (nx T e (nx T e s.2.2))) hc3
    refine x_aload_n dX13_readOn_25 rfl ?_
    refine g_M_sort fX13_100 dX13_readOn_26 ?_
    refine x_top (r3.2.1) ?_
    refine x_iconst dX13_readOn_29 li_5 ?_
    refine x_icN_eq 55 dX13_readOn_30 (by decide) (by omega) (by omega) (fun h30 => ?_) (fun h30 => absurd rfl h30)
    refine x_wk (x_ls ?_ (mov_on (d := d) (hT.fr f3) r3 f3)) (fun v M2 hv => by obtain ⟨h1, I6, L6, h2, h3, h4⟩ := hv; exact ⟨h1, I6, L6, h2, h4.fq, (fun g2 z => by rw [hq0] at z; cases z; exact h3), (fun s2 z => by rw [hq0] at z; cases z)⟩)
    exact ⟨rfl, trivial⟩
  | inr x =>
    rw [hc3] at r3
    obtain ⟨x2, hc2, e2⟩ := csk_inv hc3
    obtain ⟨a1, x1, hc1, e1, hxx⟩ := cst_inv hc2
    obtain ⟨hfu, hw0, ha1⟩ := cbg_inv hc1
    have hfu := of_decide_eq_false hfu
    subst ha1
    subst hxx
    have hrk := u2 _ _ hc1 e1
    have hro := u3 _ _ hc2 e2
    subst hrk
    subst hro
    have hx1 := pKnown_lt (V := s.1) e1 hW.2.2
    have hx2 := pKnown_lt (V := s.1) e2 hW.2.2
    have hB3 := hB.sm (I' := I3) (fun q hq => f3.1 q (by omega))
    have hN3 := hP.2.2.fr f3
    have hvb := hV.2.2.2.2.2.2.2.2.2.2.2.2.2.2.2.2.2.2.2.1 x1 x2
    have hm9 := mso_le _ (kd_le (T := T) (e := e) (a := (nx T e (nx T e s.2.2))))
    have hrd : rdLn T e s = if s.1 12 x1 x2 = 0 then bnd (pWhole T e 1 99 (nx T e (nx T e (nx T e s.2.2)))) (fun x3 => .inr (setV (setV s.1 12 x1 x2 x3) 0 11 0 (s.1 0 11 0 + 1), s.2.1, nx T e (nx T e (nx T e (nx T e s.2.2))))) else .inl (3, tA T e (nx T e (nx T e s.2.2))) := by
      rw [rdLn_so (so := 11) (by decide) (by decide) hl, if_neg hw0, if_neg (by show ¬ 12 ≤ _; omega)]
      show bnd (pKnown T e s.2.1 7 (nx T e s.2.2)) _ = _
      rw [e1]
      show bnd (pKnown T e s.2.1 2 (nx T e (nx T e s.2.2))) _ = _
      rw [e2]
      rfl
    refine x_aload_n dX13_readOn_25 rfl ?_
    refine g_M_sort fX13_100 dX13_readOn_26 ?_
    refine x_top (r3.2.1.1.2.2) ?_
    refine x_iconst dX13_readOn_29 li_5 ?_
    refine x_icN_eq 55 dX13_readOn_30 (by decide) (by omega) (by omega) (fun h30 => absurd h30 (by omega)) (fun h30 => ?_)
    refine x_aload_n dX13_readOn_33 rfl ?_
    refine g_M_read hr fX13_185 dX13_readOn_34 ?_
    refine g_MB_on fX13_368 dX13_readOn_37 hbn ?_
    refine x_bipush dX13_readOn_40 lb_6 ?_
    refine x_iload_n dX13_readOn_42 rfl ?_
    refine x_imulN dX13_readOn_43 ?_
    refine x_iload_n dX13_readOn_44 rfl ?_
    refine x_iaddN dX13_readOn_45 ?_
    refine x_iald dX13_readOn_46 rfl rfl hbn (by first | exact Nat.le_of_ble_eq_true rfl | assumption | omega) ?_
    refine x_top (y75 hB3 (by omega) (by omega)) ?_
    refine x_ifN_le 55 dX13_readOn_47 (by decide) (by omega) (fun h47 => ?_) (fun h47 => ?_)
    · have hrd2 : rdLn T e s = bnd (pWhole T e 1 99 (nx T e (nx T e (nx T e s.2.2)))) (fun x3 => .inr (setV (setV s.1 12 x1 x2 x3) 0 11 0 (s.1 0 11 0 + 1), s.2.1, nx T e (nx T e (nx T e (nx T e s.2.2))))) := by rw [hrd, if_pos (by omega)]
      refine x_aload_n dX13_readOn_55 rfl ?_
      refine x_cvv (m_next (d := d + 7) (c := .inr (nx T e (nx T e s.2.2))) (hT.fr f3) r3 (fun a z => by cases z; exact pKn_5 e2)) kX13_139 dX13_readOn_56 rfl (Nat.le_of_ble_eq_true rfl) rfl rfl (Nat.le_of_ble_eq_true rfl) (fun Mu hq => ?_)
      obtain ⟨I4, L4, rfl, r4, f4⟩ := hq
      have f4 := f3.tr f4
      refine x_aload_n dX13_readOn_59 rfl ?_
      refine x_iconst dX13_readOn_60 li_1 ?_
      refine x_bipush dX13_readOn_61 lb_99 ?_
      refine x_cvi (m_readWhole (d := d + 6) (c := .inr (nx T e (nx T e (nx T e s.2.2)))) (lo := 1) (hi := 99) (by decide) (by decide) (hT.fr f4) r4) kX13_158 dX13_readOn_63 rfl (Nat.le_of_ble_eq_true rfl) rfl rfl (Nat.le_of_ble_eq_true rfl) (fun rw_ Mu hq => ?_)
      obtain ⟨I5, L5, rfl, r5, f5, u5⟩ := hq
      have f5 := f4.tr f5
      refine x_istore_n dX13_readOn_66 (by decide) rfl ?_
      cases hpw : pWhole T e 1 99 (nx T e (nx T e (nx T e s.2.2))) with
      | inl g =>
        rw [cst_f hpw] at r5
        refine x_aload_n dX13_readOn_67 rfl ?_
        refine g_M_sort fX13_100 dX13_readOn_68 ?_
        refine x_top (show I5 13 0 9 = nI 5 from r5.2.1) ?_
        refine x_iconst dX13_readOn_71 li_5 ?_
        refine x_icN_ne 76 dX13_readOn_72 (by decide) (by omega) (by omega) (fun h72 => absurd rfl h72) (fun h72 => ?_)
        refine x_vret dX13_readOn_75 rfl ?_
        exact ⟨rfl, _, _, rfl, f5.fq, (fun g z => by rw [hrd2, hpw] at z; cases z; exact r5), (fun s2 z => by rw [hrd2, hpw] at z; cases z)⟩
      | inr x3 =>
        rw [cst_r hpw] at r5
        have hrw := u5 _ _ rfl hpw
        subst hrw
        have hB5 := hB.sm (I' := I5) (fun q hq => f5.1 q (by omega))
        have hm5 := mso_le _ (kd_le (T := T) (e := e) (a := nx T e (nx T e (nx T e (nx T e s.2.2)))))
        refine x_aload_n dX13_readOn_67 rfl ?_
        refine g_M_sort fX13_100 dX13_readOn_68 ?_
        refine x_top (show I5 13 0 9 = nI (mso (kd T e (nx T e (nx T e (nx T e (nx T e s.2.2)))))) from r5.2.1.1.2.2) ?_
        refine x_iconst dX13_readOn_71 li_5 ?_
        refine x_icN_ne 76 dX13_readOn_72 (by decide) (by omega) (by omega) (fun h72 => ?_) (fun h72 => absurd h72 (by omega))
        refine x_aload_n dX13_readOn_76 rfl ?_
        refine g_M_read hr fX13_185 dX13_readOn_77 ?_
        refine g_MB_on fX13_368 dX13_readOn_80 hbn ?_
        refine x_bipush dX13_readOn_83 lb_6 ?_
        refine x_iload_n dX13_readOn_85 rfl ?_
        refine x_imulN dX13_readOn_86 ?_
        refine x_iload_n dX13_readOn_87 rfl ?_
        refine x_iaddN dX13_readOn_88 ?_
        refine x_iload_n dX13_readOn_89 rfl ?_
        refine x_iast dX13_readOn_90 rfl rfl hbn (by first | exact Nat.le_of_ble_eq_true rfl | assumption | omega) ?_
        refine x_aload_n dX13_readOn_91 rfl ?_
        refine g_M_read hr fX13_185 dX13_readOn_92 ?_
        refine x_dup dX13_readOn_95 rfl ?_
        refine g_MB_ons fX13_365 dX13_readOn_96 hbn ?_
        rw [xu_ns (by decide)]
        refine x_top (show I5 12 ri 8 = nI (s.1 0 11 0) from y12_8 hB5) ?_
        refine x_iconst dX13_readOn_99 li_1 ?_
        refine x_iaddN dX13_readOn_100 ?_
        refine p_MB_ons fX13_365 dX13_readOn_101 hbn ?_
        refine x_vret dX13_readOn_104 rfl ?_
        have hfq : FQ ri I (xu (xu I5 75 ri (6 * x1 + x2) (nI x3)) 12 ri 8 (nI (s.1 0 11 0 + 1))) L L5 := (f5.fq.xu (by omega)).xu (by omega)
        refine ⟨rfl, _, _, rfl, hfq, (fun g z => by rw [hrd2, hpw] at z; cases z), fun s5 z => ?_⟩
        rw [hrd2, hpw] at z
        cases z
        refine ⟨YPS.st r5 (by funext y; rw [xu_ns (by decide), xu_ns (by decide)]) rfl, YB.on (x := x1) (y := x2) (z := x3) (I' := (xu (xu I5 75 ri (6 * x1 + x2) (nI x3)) 12 ri 8 (nI (s.1 0 11 0 + 1)))) ?_ (fun l hl2 => ?_) (by omega) hB5 xu_s (fun k h1 h2 => ?_) (fun q h1 h2 h3 => ?_), ?_⟩
        · rw [xu_ns (by decide), xu_s]
        · rw [xu_ns (by decide), xu_nk hl2]
        · rw [xu_nk h1, xu_ns (by decide)]
        · funext y; rw [xu_ns (by omega), xu_ns h3]
        · exact (hP.2.2.fr f5).sm2 (by rw [xu_nk (by decide), xu_ns (by decide)]) (by funext y; rw [xu_ns (by decide), xu_ns (by decide)]) (by funext y; rw [xu_ns (by decide), xu_ns (by decide)]) rfl
    · refine x_aload_n dX13_readOn_50 rfl ?_
      refine x_iconst dX13_readOn_51 li_3 ?_
      refine x_cvv (m_flaw (d := d + 8) (c := .inr (nx T e (nx T e s.2.2))) r3) kX13_146 dX13_readOn_52 rfl (Nat.le_of_ble_eq_true rfl) rfl rfl (Nat.le_of_ble_eq_true rfl) (fun Mu hq => ?_)
      obtain ⟨I4, rfl, r4, f4⟩ := hq
      have hq0 : rdLn T e s = .inl (3, tA T e (nx T e (nx T e s.2.2))) := by rw [hrd, if_neg (by omega)]
      refine x_wk (x_ls ?_ (mov_on (d := d) (g := (3, tA T e (nx T e (nx T e s.2.2)))) (hT.fr (f3.tr f4)) r4 (f3.tr f4))) (fun v M2 hv => by obtain ⟨h1, I6, L6, h2, h3, h4⟩ := hv; exact ⟨h1, I6, L6, h2, h4.fq, (fun g2 z => by rw [hq0] at z; cases z; exact h3), (fun s2 z => by rw [hq0] at z; cases z)⟩)
      exact ⟨rfl, trivial⟩
end M40
