section M41
variable {G : xG} {ad : Nat → Nat → Nat} {nb : Nat} {b r : Option Nat} {L : Nat → Nat → Nat → Int64} {V : sV} {I : Nat → Nat → Nat → Int32} {d : Nat}
variable {T : Nat → Nat} {e a : Nat} {nm : List (Nat × Nat × Nat)} {ri : Nat} {c : cS} {s : pS}
set_option maxRecDepth 100000 in
set_option maxHeartbeats 600000 in
theorem mov_whiff {g : Nat × Nat} {I4 : Nat → Nat → Nat → Int32} {L4 : Nat → Nat → Nat → Int64} (hT : YTp T e I4) (hR : RSt T e (.inl g) I4 L4) (hF : FR I I4 L L4) : X G vX13_readWhiff (d + 8) (0, 0) 38 [(0, some (.ref (ad 13 0)))] [] (MM ad nb b r I4 L4) (xT G (qV (fun M' => ∃ I' L', M' = MM ad nb b r I' L' ∧ RSt T e (.inl g) I' L' ∧ FR I I' L L'))) := by
  refine x_aload_n dX13_readWhiff_38 rfl ?_
  refine x_cvv (m_goesOn' (d := d + 6) hR.2.1) kX13_139 dX13_readWhiff_39 rfl (Nat.le_of_ble_eq_true rfl) rfl rfl (Nat.le_of_ble_eq_true rfl) (fun Mu hq => ?_)
  subst hq
  refine x_aload_n dX13_readWhiff_42 rfl ?_
  refine x_iconst dX13_readWhiff_43 li_0 ?_
  refine x_bipush dX13_readWhiff_44 lb_60 ?_
  refine x_cvi (m_readWhole (d := d + 5) (c := .inl g) (lo := 0) (hi := 60) (by decide) (by decide) hT hR) kX13_158 dX13_readWhiff_46 rfl (Nat.le_of_ble_eq_true rfl) rfl rfl (Nat.le_of_ble_eq_true rfl) (fun rw_ Mu hq => ?_)
  obtain ⟨I5, L5, rfl, r5, f5, -⟩ := hq
  refine x_istore_n dX13_readWhiff_49 (by decide) rfl ?_
  refine x_aload_n dX13_readWhiff_50 rfl ?_
  refine g_M_sort fX13_100 dX13_readWhiff_51 ?_
  refine x_top (show I5 13 0 9 = nI 5 from r5.2.1) ?_
  refine x_iconst dX13_readWhiff_54 li_5 ?_
  refine x_icN_ne 59 dX13_readWhiff_55 (by decide) (by omega) (by omega) (fun h55 => absurd rfl h55) (fun h55 => ?_)
  refine x_vret dX13_readWhiff_58 rfl ?_
  exact ⟨rfl, _, _, rfl, r5, hF.tr f5⟩
set_option maxRecDepth 100000 in
set_option maxHeartbeats 600000 in
theorem m_read_whiff (hr : r = some ri) (hbn : ri < nb) (hT : YTp T e I) (hP : YPS T e s ri I L) (hW : PW s) (hZ : PZ s) (hl : lw T e s.2.2 = 11) (h99 : s.1 0 10 0 < 99) : Mt G vX13_readWhiff (d + 8) (0, 0) [.ref (ad 13 0)] (MM ad nb b r I L) (qLn T e ad nb b r ri I L (rdLn T e s)) := by
  have hV := hW.1
  have v0 := hV.1
  have v1 := hV.2.1
  have v2 := hV.2.2.1
  have v3 := hV.2.2.2.1
  have v4 := hV.2.2.2.2.1
  have v7 := hV.2.2.2.2.2.2.2.1
  have v9 := hV.2.2.2.2.2.2.2.2.2.1
  have v10 := hV.2.2.2.2.2.2.2.2.2.2.1
  have hB := hP.2.1
  have hk1 := lw_kd (T := T) (e := e) (a := s.2.2) (by rw [hl]; decide)
  refine x_start (by decide) (Nat.le_of_ble_eq_true rfl) ?_
  refine x_aload_n dX13_readWhiff_0 rfl ?_
  refine x_iconst dX13_readWhiff_1 li_0 ?_
  refine x_iconst dX13_readWhiff_2 li_1 ?_
  refine x_cvv (m_begins (d := d + 5) (x := 0) (y := 1) (w := s.1 0 0 0) hr hbn (by omega) (by omega) (y12_0 hB) (by omega) hT hP.1 (fun a z => by cases z; omega)) kX13_276 dX13_readWhiff_3 rfl (Nat.le_of_ble_eq_true rfl) rfl rfl (Nat.le_of_ble_eq_true rfl) (fun Mu hq => ?_)
  obtain ⟨I1, L1, rfl, r1, f1⟩ := hq
  refine x_aload_n dX13_readWhiff_6 rfl ?_
  refine x_iconst dX13_readWhiff_7 li_1 ?_
  refine x_cvi (m_knownOne (d := d) (so := 2) hr hbn (by omega) r1 (hP.2.2.fr f1)) kX13_215 dX13_readWhiff_8 rfl (Nat.le_of_ble_eq_true rfl) rfl rfl (Nat.le_of_ble_eq_true rfl) (fun ro Mu hq => ?_)
  obtain ⟨I3, L3, rfl, r3, f3, u3⟩ := hq
  have f3 := f1.tr f3
  refine x_istore_n dX13_readWhiff_11 (by decide) rfl ?_
  cases hc3 : (csk (pKnown T e s.2.1 2) (cbg T e (decide (0 = 1)) (s.1 0 0 0) (.inr s.2.2))) with
  | inl g =>
    rw [hc3] at r3
    have hq0 : rdLn T e s = .inl g := by
      rw [rdLn_so (so := 10) (by decide) (by decide) hl]
      by_cases w0 : s.1 0 0 0 = 0
      · rw [if_pos w0]
        have hcc : (cbg T e (decide (0 = 1)) (s.1 0 0 0) (.inr s.2.2)) = .inl (6, tA T e s.2.2) := by unfold cbg; rw [if_pos w0]; rfl
        rw [hcc] at hc3
        cases hc3; rfl
      · rw [if_neg w0, if_neg (by show ¬ 99 ≤ _; omega)]
        rw [cbg_ok (by decide) w0] at hc3
        show bnd (pKnown T e s.2.1 2 (nx T e s.2.2)) _ = _
        exact lc_csk (q := pKnown T e s.2.1 2) (a := (nx T e s.2.2)) hc3
    refine x_aload_n dX13_readWhiff_12 rfl ?_
    refine g_M_sort fX13_100 dX13_readWhiff_13 ?_
    refine x_top (r3.2.1) ?_
    refine x_iconst dX13_readWhiff_16 li_5 ?_
    refine x_icN_eq 38 dX13_readWhiff_17 (by decide) (by omega) (by omega) (fun h17 => ?_) (fun h17 => absurd rfl h17)
    refine x_wk (x_ls ?_ (mov_whiff (d := d) (hT.fr f3) r3 f3)) (fun v M2 hv => by obtain ⟨h1, I6, L6, h2, h3, h4⟩ := hv; exact ⟨h1, I6, L6, h2, h4.fq, (fun g2 z => by rw [hq0] at z; cases z; exact h3), (fun s2 z => by rw [hq0] at z; cases z)⟩)
    exact ⟨rfl, trivial⟩
  | inr x =>
    rw [hc3] at r3
    obtain ⟨x2, hc1, e2⟩ := csk_inv hc3
    obtain ⟨-, hw0, ha1⟩ := cbg_inv hc1
    subst ha1
    have hro := u3 _ _ hc1 e2
    subst hro
    have hx2 := pKnown_lt (V := s.1) e2 hW.2.2
    have hB3 := hB.sm (I' := I3) (fun q hq => f3.1 q (by omega))
    have h17 := hV.2.2.2.2.2.2.2.2.2.2.2.2.2.2.2.2.2.2.2.2.2.2.2 x2
    have hm9 := mso_le _ (kd_le (T := T) (e := e) (a := (nx T e s.2.2)))
    have hrd : rdLn T e s = if s.1 17 x2 0 = 0 then bnd (pWhole T e 0 60 (nx T e (nx T e s.2.2))) (fun x3 => .inr (setV (setV s.1 17 x2 0 (x3 + 1)) 0 10 0 (s.1 0 10 0 + 1), s.2.1, nx T e (nx T e (nx T e s.2.2)))) else .inl (3, tA T e (nx T e s.2.2)) := by
      rw [rdLn_so (so := 10) (by decide) (by decide) hl, if_neg hw0, if_neg (by show ¬ 99 ≤ _; omega)]
      show bnd (pKnown T e s.2.1 2 (nx T e s.2.2)) _ = _
      rw [e2]
      rfl
    refine x_aload_n dX13_readWhiff_12 rfl ?_
    refine g_M_sort fX13_100 dX13_readWhiff_13 ?_
    refine x_top (r3.2.1.1.2.2) ?_
    refine x_iconst dX13_readWhiff_16 li_5 ?_
    refine x_icN_eq 38 dX13_readWhiff_17 (by decide) (by omega) (by omega) (fun h17 => ?_) (fun h17 => ?_)
    · exact absurd (show mso (kd T e (nx T e s.2.2)) = 5 from h17) (by omega)
    · refine x_aload_n dX13_readWhiff_20 rfl ?_
      refine g_M_read hr fX13_185 dX13_readWhiff_21 ?_
      refine g_MB_whiff fX13_274 dX13_readWhiff_24 hbn ?_
      refine x_iload_n dX13_readWhiff_27 rfl ?_
      refine x_iald dX13_readWhiff_28 rfl rfl hbn (by first | exact Nat.le_of_ble_eq_true rfl | assumption | omega) ?_
      refine x_top (y80 hB3 (by omega) (by omega)) ?_
      refine x_iconst dX13_readWhiff_29 li_m1 ?_
      refine x_ic_eq 38 dX13_readWhiff_30 (by decide) (fun h30 => ?_) (fun h30 => ?_)
      · have hz17 : s.1 17 x2 0 = 0 := (nO_m1 (by omega)).mp h30
        have hrd2 : rdLn T e s = bnd (pWhole T e 0 60 (nx T e (nx T e s.2.2))) (fun x3 => .inr (setV (setV s.1 17 x2 0 (x3 + 1)) 0 10 0 (s.1 0 10 0 + 1), s.2.1, nx T e (nx T e (nx T e s.2.2)))) := by rw [hrd, if_pos hz17]
        refine x_aload_n dX13_readWhiff_38 rfl ?_
        refine x_cvv (m_next (d := d + 6) (c := .inr (nx T e s.2.2)) (hT.fr f3) r3 (fun a z => by cases z; exact pKn_5 e2)) kX13_139 dX13_readWhiff_39 rfl (Nat.le_of_ble_eq_true rfl) rfl rfl (Nat.le_of_ble_eq_true rfl) (fun Mu hq => ?_)
        obtain ⟨I4, L4, rfl, r4, f4⟩ := hq
        have f4 := f3.tr f4
        refine x_aload_n dX13_readWhiff_42 rfl ?_
        refine x_iconst dX13_readWhiff_43 li_0 ?_
        refine x_bipush dX13_readWhiff_44 lb_60 ?_
        refine x_cvi (m_readWhole (d := d + 5) (c := .inr (nx T e (nx T e s.2.2))) (lo := 0) (hi := 60) (by decide) (by decide) (hT.fr f4) r4) kX13_158 dX13_readWhiff_46 rfl (Nat.le_of_ble_eq_true rfl) rfl rfl (Nat.le_of_ble_eq_true rfl) (fun rw_ Mu hq => ?_)
        obtain ⟨I5, L5, rfl, r5, f5, u5⟩ := hq
        have f5 := f4.tr f5
        refine x_istore_n dX13_readWhiff_49 (by decide) rfl ?_
        cases hpw : pWhole T e 0 60 (nx T e (nx T e s.2.2)) with
        | inl g =>
          rw [cst_f hpw] at r5
          refine x_aload_n dX13_readWhiff_50 rfl ?_
          refine g_M_sort fX13_100 dX13_readWhiff_51 ?_
          refine x_top (show I5 13 0 9 = nI 5 from r5.2.1) ?_
          refine x_iconst dX13_readWhiff_54 li_5 ?_
          refine x_icN_ne 59 dX13_readWhiff_55 (by decide) (by omega) (by omega) (fun h55 => absurd rfl h55) (fun h55 => ?_)
          refine x_vret dX13_readWhiff_58 rfl ?_
          exact ⟨rfl, _, _, rfl, f5.fq, (fun g z => by rw [hrd2, hpw] at z; cases z; exact r5), (fun s2 z => by rw [hrd2, hpw] at z; cases z)⟩
        | inr x3 =>
          rw [cst_r hpw] at r5
          have hrw := u5 _ _ rfl hpw
          subst hrw
          have hB5 := hB.sm (I' := I5) (fun q hq => f5.1 q (by omega))
          have hm5 := mso_le _ (kd_le (T := T) (e := e) (a := nx T e (nx T e (nx T e s.2.2))))
          refine x_aload_n dX13_readWhiff_50 rfl ?_
          refine g_M_sort fX13_100 dX13_readWhiff_51 ?_
          refine x_top (show I5 13 0 9 = nI (mso (kd T e (nx T e (nx T e (nx T e s.2.2))))) from r5.2.1.1.2.2) ?_
          refine x_iconst dX13_readWhiff_54 li_5 ?_
          refine x_icN_ne 59 dX13_readWhiff_55 (by decide) (by omega) (by omega) (fun h55 => ?_) (fun h55 => absurd h55 (by omega))
          refine x_aload_n dX13_readWhiff_59 rfl ?_
          refine g_M_read hr fX13_185 dX13_readWhiff_60 ?_
          refine g_MB_whiff fX13_274 dX13_readWhiff_63 hbn ?_
          refine x_iload_n dX13_readWhiff_66 rfl ?_
          refine x_iload_n dX13_readWhiff_67 rfl ?_
          refine x_iast dX13_readWhiff_68 rfl rfl hbn (by first | exact Nat.le_of_ble_eq_true rfl | assumption | omega) ?_
          refine x_aload_n dX13_readWhiff_69 rfl ?_
          refine g_M_read hr fX13_185 dX13_readWhiff_70 ?_
          refine x_dup dX13_readWhiff_73 rfl ?_
          refine g_MB_whiffs fX13_387 dX13_readWhiff_74 hbn ?_
          rw [xu_ns (by decide)]
          refine x_top (show I5 12 ri 11 = nI (s.1 0 10 0) from y12_11 hB5) ?_
          refine x_iconst dX13_readWhiff_77 li_1 ?_
          refine x_iaddN dX13_readWhiff_78 ?_
          refine p_MB_whiffs fX13_387 dX13_readWhiff_79 hbn ?_
          refine x_vret dX13_readWhiff_82 rfl ?_
          have hfq : FQ ri I (xu (xu I5 80 ri x2 (nI x3)) 12 ri 11 (nI (s.1 0 10 0 + 1))) L L5 := (f5.fq.xu (by omega)).xu (by omega)
          refine ⟨rfl, _, _, rfl, hfq, (fun g z => by rw [hrd2, hpw] at z; cases z), fun s5 z => ?_⟩
          rw [hrd2, hpw] at z
          cases z
          refine ⟨YPS.st r5 (by funext y; rw [xu_ns (by decide), xu_ns (by decide)]) rfl, YB.whiff (x := x2) (z := x3) (I' := (xu (xu I5 80 ri x2 (nI x3)) 12 ri 11 (nI (s.1 0 10 0 + 1)))) ?_ (fun l hl2 => ?_) hB5 xu_s (fun k h1 h2 => ?_) (fun q h1 h2 h3 => ?_), ?_⟩
          · rw [xu_ns (by decide), xu_s]
          · rw [xu_ns (by decide), xu_nk hl2]
          · rw [xu_nk h1, xu_ns (by decide)]
          · funext y; rw [xu_ns (by omega), xu_ns h3]
          · exact (hP.2.2.fr f5).sm2 (by rw [xu_nk (by decide), xu_ns (by decide)]) (by funext y; rw [xu_ns (by decide), xu_ns (by decide)]) (by funext y; rw [xu_ns (by decide), xu_ns (by decide)]) rfl
      · refine x_aload_n dX13_readWhiff_33 rfl ?_
        refine x_iconst dX13_readWhiff_34 li_3 ?_
        refine x_cvv (m_flaw (d := d + 7) (c := .inr (nx T e s.2.2)) r3) kX13_146 dX13_readWhiff_35 rfl (Nat.le_of_ble_eq_true rfl) rfl rfl (Nat.le_of_ble_eq_true rfl) (fun Mu hq => ?_)
        obtain ⟨I4, rfl, r4, f4⟩ := hq
        have hq0 : rdLn T e s = .inl (3, tA T e (nx T e s.2.2)) := by rw [hrd, if_neg (fun y => h30 ((nO_m1 (by omega)).mpr y))]
        refine x_wk (x_ls ?_ (mov_whiff (d := d) (g := (3, tA T e (nx T e s.2.2))) (hT.fr (f3.tr f4)) r4 (f3.tr f4))) (fun v M2 hv => by obtain ⟨h1, I6, L6, h2, h3, h4⟩ := hv; exact ⟨h1, I6, L6, h2, h4.fq, (fun g2 z => by rw [hq0] at z; cases z; exact h3), (fun s2 z => by rw [hq0] at z; cases z)⟩)
        exact ⟨rfl, trivial⟩
end M41
