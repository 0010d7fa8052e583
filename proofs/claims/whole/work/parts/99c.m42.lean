section M42
variable {G : xG} {ad : Nat → Nat → Nat} {nb : Nat} {b r : Option Nat} {L : Nat → Nat → Nat → Int64} {V : sV} {I : Nat → Nat → Nat → Int32} {d : Nat}
variable {T : Nat → Nat} {e a : Nat} {nm : List (Nat × Nat × Nat)} {ri : Nat} {c : cS} {s : pS}
theorem ch_8 (v : Int64) : wiN 8 v ≠ 0 ↔ v = pkS 34 := by rw [wiN_8]; constructor <;> intro h <;> (by_cases z : pkS 34 = v) <;> simp_all
set_option maxRecDepth 100000 in
set_option maxHeartbeats 600000 in
theorem mov_path {g : Nat × Nat} {I4 : Nat → Nat → Nat → Int32} {L4 : Nat → Nat → Nat → Int64} (hT : YTp T e I4) (hR : RSt T e (.inl g) I4 L4) (hF : FR I I4 L L4) : X G vX13_readPath (d + 9) (0, 0) 60 [(0, some (.ref (ad 13 0)))] [] (MM ad nb b r I4 L4) (xT G (qV (fun M' => ∃ I' L', M' = MM ad nb b r I' L' ∧ RSt T e (.inl g) I' L' ∧ FR I I' L L'))) := by
  refine x_aload_n dX13_readPath_60 rfl ?_
  refine x_cvv (m_goesOn' (d := d + 7) hR.2.1) kX13_139 dX13_readPath_61 rfl (Nat.le_of_ble_eq_true rfl) rfl rfl (Nat.le_of_ble_eq_true rfl) (fun Mu hq => ?_)
  subst hq
  refine x_aload_n dX13_readPath_64 rfl ?_
  refine x_ldcSw (n := 34) dX13_readPath_65 rfl ?_
  refine x_iconst dX13_readPath_68 li_1 ?_
  refine x_bipush dX13_readPath_69 lb_40 ?_
  refine x_cvi (m_readPart (d := d + 1) (c := .inl g) (i := 34) (lo := 1) (hi := 40) (by decide) (by decide) (by decide) (by decide) hT hR) kX13_270 dX13_readPath_71 rfl (Nat.le_of_ble_eq_true rfl) rfl rfl (Nat.le_of_ble_eq_true rfl) (fun rw_ Mu hq => ?_)
  obtain ⟨I5, L5, rfl, r5, f5, -⟩ := hq
  have r5 : RSt T e (.inl g) I5 L5 := r5
  refine x_istore_n dX13_readPath_74 (by decide) rfl ?_
  refine x_aload_n dX13_readPath_75 rfl ?_
  refine g_M_sort fX13_100 dX13_readPath_76 ?_
  refine x_top (show I5 13 0 9 = nI 5 from r5.2.1) ?_
  refine x_iconst dX13_readPath_79 li_5 ?_
  refine x_icN_ne 84 dX13_readPath_80 (by decide) (by omega) (by omega) (fun h80 => absurd rfl h80) (fun h80 => ?_)
  refine x_vret dX13_readPath_83 rfl ?_
  exact ⟨rfl, _, _, rfl, r5, hF.tr f5⟩
set_option maxRecDepth 100000 in
set_option maxHeartbeats 600000 in
theorem m_read_path (hr : r = some ri) (hbn : ri < nb) (hT : YTp T e I) (hP : YPS T e s ri I L) (hW : PW s) (hZ : PZ s) (hl : lw T e s.2.2 = 6) : Mt G vX13_readPath (d + 9) (0, 0) [.ref (ad 13 0)] (MM ad nb b r I L) (qLn T e ad nb b r ri I L (rdLn T e s)) := by
  have hV := hW.1
  have v0 := hV.1
  have v1 := hV.2.1
  have v2 := hV.2.2.1
  have v3 := hV.2.2.2.1
  have v4 := hV.2.2.2.2.1
  have v7 := hV.2.2.2.2.2.2.2.1
  have v9 := hV.2.2.2.2.2.2.2.2.2.1
  have v10 := hV.2.2.2.2.2.2.2.2.2.2.1
  have hB := hP.2.1
  have hle : s.1 0 5 0 ≤ 10 := hV.2.2.2.2.2.1
  have hk1 := lw_kd (T := T) (e := e) (a := s.2.2) (by rw [hl]; decide)
  refine x_start (by decide) (Nat.le_of_ble_eq_true rfl) ?_
  refine x_aload_n dX13_readPath_0 rfl ?_
  refine x_aload_n dX13_readPath_1 rfl ?_
  refine g_M_read hr fX13_185 dX13_readPath_2 ?_
  refine g_MB_paths fX13_331 dX13_readPath_5 hbn ?_
  refine x_top (y12_5 hB) ?_
  refine x_bipush dX13_readPath_8 lb_10 ?_
  refine x_cvv (m_begins (d := d + 6) (x := s.1 0 5 0) (y := 10) (w := s.1 0 0 0) hr hbn (by omega) (by omega) (y12_0 hB) (by omega) hT hP.1 (fun a z => by cases z; omega)) kX13_276 dX13_readPath_10 rfl (Nat.le_of_ble_eq_true rfl) rfl rfl (Nat.le_of_ble_eq_true rfl) (fun Mu hq => ?_)
  obtain ⟨I1, L1, rfl, r1, f1⟩ := hq
  refine x_aload_n dX13_readPath_13 rfl ?_
  refine x_iconst dX13_readPath_14 li_3 ?_
  refine x_cvi (m_readKnown (d := d) (so := 4) hr hbn (by omega) (hT.fr f1) r1 (hP.2.2.fr f1)) kX13_218 dX13_readPath_15 rfl (Nat.le_of_ble_eq_true rfl) rfl rfl (Nat.le_of_ble_eq_true rfl) (fun rk Mu hq => ?_)
  obtain ⟨I2, L2, rfl, r2, f2, u2⟩ := hq
  have f12 := f1.tr f2
  refine x_istore_n dX13_readPath_18 (by decide) rfl ?_
  refine x_aload_n dX13_readPath_19 rfl ?_
  refine x_iconst dX13_readPath_20 li_3 ?_
  refine x_cvi (m_knownOne (d := d + 1) (so := 4) hr hbn (by omega) r2 (hP.2.2.fr f12)) kX13_215 dX13_readPath_21 rfl (Nat.le_of_ble_eq_true rfl) rfl rfl (Nat.le_of_ble_eq_true rfl) (fun ro Mu hq => ?_)
  obtain ⟨I3, L3, rfl, r3, f3, u3⟩ := hq
  have f3 := f12.tr f3
  refine x_istore_n dX13_readPath_24 (by decide) rfl ?_
  cases hc3 : (csk (pKnown T e s.2.1 4) (cst T e (pKnown T e s.2.1 4) (cbg T e (decide (s.1 0 5 0 = 10)) (s.1 0 0 0) (.inr s.2.2)))) with
  | inl g =>
    rw [hc3] at r3
    have hq0 : rdLn T e s = .inl g := by
      cases hc1 : (cbg T e (decide (s.1 0 5 0 = 10)) (s.1 0 0 0) (.inr s.2.2)) with
      | inl g1 =>
        rw [hc1] at hc3
        cases hc3
        exact cbg_no (so := 5) (cap := 10) (by decide) (by decide) hl hZ (by decide) rfl hle hc1
      | inr a1 =>
        obtain ⟨hfu, hw0, rfl⟩ := cbg_inv hc1
        have hfu := of_decide_eq_false hfu
        rw [hc1] at hc3
        rw [rdLn_so (so := 5) (by decide) (by decide) hl, if_neg hw0, if_neg (by show ¬ 10 ≤ _; omega)]
        show bnd (pKnown T e s.2.1 4 (nx T e s.2.2)) _ = _
        cases hp : pKnown T e s.2.1 4 (nx T e s.2.2) with
        | inl g2 => rw [cst_f hp] at hc3; cases hc3; rfl
        | inr x1 =>
          rw [cst_r hp] at hc3
          show bnd (pKnown T e s.2.1 4 (nx T e (nx T e s.2.2))) _ = _
          exact lc_csk (q := pKnown T e s.2.1 4) (a := (nx T e (nx T e s.2.2))) hc3
    refine x_aload_n dX13_readPath_25 rfl ?_
    refine g_M_sort fX13_100 dX13_readPath_26 ?_
    refine x_top (r3.2.1) ?_
    refine x_iconst dX13_readPath_29 li_5 ?_
    refine x_icN_eq 60 dX13_readPath_30 (by decide) (by omega) (by omega) (fun h30 => ?_) (fun h30 => absurd rfl h30)
    refine x_wk (x_ls ?_ (mov_path (d := d) (hT.fr f3) r3 f3)) (fun v M2 hv => by obtain ⟨h1, I6, L6, h2, h3, h4⟩ := hv; exact ⟨h1, I6, L6, h2, h4.fq, (fun g2 z => by rw [hq0] at z; cases z; exact h3), (fun s2 z => by rw [hq0] at z; cases z)⟩)
    exact ⟨rfl, trivial⟩
  | inr x =>
    rw [hc3] at r3
    obtain ⟨x2, hc2, e2⟩ := csk_inv hc3
    obtain ⟨a1, x1, hc1, e1, hxx⟩ := cst_inv hc2
    obtain ⟨hfu, hw0, ha1⟩ := cbg_inv hc1
    have hfu := of_decide_eq_false hfu
    subst ha1
    subst hxx
    have hrk := u2 _ _ hc1 e1
    have hro := u3 _ _ hc2 e2
    subst hrk
    subst hro
    have hx1 := pKnown_lt (V := s.1) e1 hW.2.2
    have hx2 := pKnown_lt (V := s.1) e2 hW.2.2
    have hB3 := hB.sm (I' := I3) (fun q hq => f3.1 q (by omega))
    have hvb := hV.2.2.2.2.2.2.2.2.2.2.2.2.2.2.2.2.1 x1 x2
    have hm9 := mso_le _ (kd_le (T := T) (e := e) (a := (nx T e (nx T e s.2.2))))
    have hrd : rdLn T e s = if x2 = x1 ∨ 0 < s.1 7 x1 x2 then .inl (3, tA T e (nx T e (nx T e s.2.2))) else bnd (pChoice T e 8 (nx T e (nx T e (nx T e s.2.2)))) (fun _ => bnd (pWhole T e 1 40 (nx T e (nx T e (nx T e (nx T e s.2.2))))) (fun x4 => .inr (setV (setV (setV s.1 7 x1 x2 x4) 7 x2 x1 x4) 0 5 0 (s.1 0 5 0 + 1), s.2.1, nx T e (nx T e (nx T e (nx T e (nx T e s.2.2))))))) := by
      rw [rdLn_so (so := 5) (by decide) (by decide) hl, if_neg hw0, if_neg (by show ¬ 10 ≤ _; omega)]
      show bnd (pKnown T e s.2.1 4 (nx T e s.2.2)) _ = _
      rw [e1]
      show bnd (pKnown T e s.2.1 4 (nx T e (nx T e s.2.2))) _ = _
      rw [e2]
      rfl
    refine x_aload_n dX13_readPath_25 rfl ?_
    refine g_M_sort fX13_100 dX13_readPath_26 ?_
    refine x_top (r3.2.1.1.2.2) ?_
    refine x_iconst dX13_readPath_29 li_5 ?_
    refine x_icN_eq 60 dX13_readPath_30 (by decide) (by omega) (by omega) (fun h30 => absurd h30 (by omega)) (fun h30 => ?_)
    refine x_iload_n dX13_readPath_33 rfl ?_
    refine x_iload_n dX13_readPath_34 rfl ?_
    refine x_icN_eq 55 dX13_readPath_35 (by decide) (by omega) (by omega) (fun h35 => ?_) (fun h35 => ?_)
    · refine x_aload_n dX13_readPath_55 rfl ?_
      refine x_iconst dX13_readPath_56 li_3 ?_
      refine x_cvv (m_flaw (d := d + 8) (c := .inr (nx T e (nx T e s.2.2))) r3) kX13_146 dX13_readPath_57 rfl (Nat.le_of_ble_eq_true rfl) rfl rfl (Nat.le_of_ble_eq_true rfl) (fun Mu hq => ?_)
      obtain ⟨I4, rfl, r4, f4⟩ := hq
      have hq0 : rdLn T e s = .inl (3, tA T e (nx T e (nx T e s.2.2))) := by rw [hrd, if_pos (by omega)]
      refine x_wk (x_ls ?_ (mov_path (d := d) (g := (3, tA T e (nx T e (nx T e s.2.2)))) (hT.fr (f3.tr f4)) r4 (f3.tr f4))) (fun v M2 hv => by obtain ⟨h1, I6, L6, h2, h3, h4⟩ := hv; exact ⟨h1, I6, L6, h2, h4.fq, (fun g2 z => by rw [hq0] at z; cases z; exact h3), (fun s2 z => by rw [hq0] at z; cases z)⟩)
      exact ⟨rfl, trivial⟩
    · refine x_aload_n dX13_readPath_38 rfl ?_
      refine g_M_read hr fX13_185 dX13_readPath_39 ?_
      refine g_MB_hours fX13_334 dX13_readPath_42 hbn ?_
      refine x_bipush dX13_readPath_45 lb_6 ?_
      refine x_iload_n dX13_readPath_47 rfl ?_
      refine x_imulN dX13_readPath_48 ?_
      refine x_iload_n dX13_readPath_49 rfl ?_
      refine x_iaddN dX13_readPath_50 ?_
      refine x_iald dX13_readPath_51 rfl rfl hbn (by first | exact Nat.le_of_ble_eq_true rfl | assumption | omega) ?_
      refine x_top (y70 hB3 (by omega) (by omega)) ?_
      refine x_ifN_le 60 dX13_readPath_52 (by decide) (by omega) (fun h52 => ?_) (fun h52 => ?_)
      · have hrd2 : rdLn T e s = bnd (pChoice T e 8 (nx T e (nx T e (nx T e s.2.2)))) (fun _ => bnd (pWhole T e 1 40 (nx T e (nx T e (nx T e (nx T e s.2.2))))) (fun x4 => .inr (setV (setV (setV s.1 7 x1 x2 x4) 7 x2 x1 x4) 0 5 0 (s.1 0 5 0 + 1), s.2.1, nx T e (nx T e (nx T e (nx T e (nx T e s.2.2))))))) := by rw [hrd, if_neg (by omega)]
        refine x_aload_n dX13_readPath_60 rfl ?_
        refine x_cvv (m_next (d := d + 7) (c := .inr (nx T e (nx T e s.2.2))) (hT.fr f3) r3 (fun a z => by cases z; exact pKn_5 e2)) kX13_139 dX13_readPath_61 rfl (Nat.le_of_ble_eq_true rfl) rfl rfl (Nat.le_of_ble_eq_true rfl) (fun Mu hq => ?_)
        obtain ⟨I4, L4, rfl, r4, f4⟩ := hq
        have f4 := f3.tr f4
        refine x_aload_n dX13_readPath_64 rfl ?_
        refine x_ldcSw (n := 34) dX13_readPath_65 rfl ?_
        refine x_iconst dX13_readPath_68 li_1 ?_
        refine x_bipush dX13_readPath_69 lb_40 ?_
        refine x_cvi (m_readPart (d := d + 1) (c := .inr (nx T e (nx T e (nx T e s.2.2)))) (i := 34) (lo := 1) (hi := 40) (by decide) (by decide) (by decide) (by decide) (hT.fr f4) r4) kX13_270 dX13_readPath_71 rfl (Nat.le_of_ble_eq_true rfl) rfl rfl (Nat.le_of_ble_eq_true rfl) (fun rw_ Mu hq => ?_)
        obtain ⟨I5, L5, rfl, r5, f5, u5⟩ := hq
        have f5 := f4.tr f5
        refine x_istore_n dX13_readPath_74 (by decide) rfl ?_
        have hE : lcur (rdLn T e s) = (cpt T e 34 1 40 (.inr (nx T e (nx T e (nx T e s.2.2))))) := by
          rw [hrd2]
          unfold cpt
          rw [cneed_ch ch_8]
          refine lc_step (q := pChoice T e 8) (F := fun c => cst T e (pWhole T e 1 40) c) (fun _ => rfl) (fun x _ => ?_)
          refine lc_step (q := pWhole T e 1 40) (F := fun c => c) (fun _ => rfl) (fun x3 _ => ?_)
          rfl
        cases hpw : (cpt T e 34 1 40 (.inr (nx T e (nx T e (nx T e s.2.2))))) with
        | inl g =>
          rw [hpw] at r5 hE
          refine x_aload_n dX13_readPath_75 rfl ?_
          refine g_M_sort fX13_100 dX13_readPath_76 ?_
          refine x_top (show I5 13 0 9 = nI 5 from r5.2.1) ?_
          refine x_iconst dX13_readPath_79 li_5 ?_
          refine x_icN_ne 84 dX13_readPath_80 (by decide) (by omega) (by omega) (fun h80 => absurd rfl h80) (fun h80 => ?_)
          refine x_vret dX13_readPath_83 rfl ?_
          exact ⟨rfl, _, _, rfl, f5.fq, (fun g z => by rw [lcur_l hE] at z; cases z; exact r5), (fun s2 z => by rw [lcur_l hE] at z; cases z)⟩
        | inr x =>
          rw [hpw] at r5 hE
          obtain ⟨s2, hs2, hx⟩ := lcur_r hE
          have hs4 := hs2
          rw [hrd2] at hs4
          obtain ⟨x3, e3, hs4⟩ := bnd_r hs4
          obtain ⟨x4, e4, hs4⟩ := bnd_r hs4
          have hrw := u5 _ _ (show cneed T e 34 (.inr (nx T e (nx T e (nx T e s.2.2)))) = .inr (nx T e (nx T e (nx T e (nx T e s.2.2)))) by rw [cneed_ch ch_8]; exact cst_r e3) e4
          subst hrw
          have hB5 := hB.sm (I' := I5) (fun q hq => f5.1 q (by omega))
          have hm5 := mso_le _ (kd_le (T := T) (e := e) (a := x))
          refine x_aload_n dX13_readPath_75 rfl ?_
          refine g_M_sort fX13_100 dX13_readPath_76 ?_
          refine x_top (show I5 13 0 9 = nI (mso (kd T e x)) from r5.2.1.1.2.2) ?_
          refine x_iconst dX13_readPath_79 li_5 ?_
          refine x_icN_ne 84 dX13_readPath_80 (by decide) (by omega) (by omega) (fun h80 => ?_) (fun h80 => absurd h80 (by omega))
          refine x_aload_n dX13_readPath_84 rfl ?_
          refine g_M_read hr fX13_185 dX13_readPath_85 ?_
          refine g_MB_hours fX13_334 dX13_readPath_88 hbn ?_
          refine x_bipush dX13_readPath_91 lb_6 ?_
          refine x_iload_n dX13_readPath_93 rfl ?_
          refine x_imulN dX13_readPath_94 ?_
          refine x_iload_n dX13_readPath_95 rfl ?_
          refine x_iaddN dX13_readPath_96 ?_
          refine x_iload_n dX13_readPath_97 rfl ?_
          refine x_iast dX13_readPath_98 rfl rfl hbn (by first | exact Nat.le_of_ble_eq_true rfl | assumption | omega) ?_
          refine x_aload_n dX13_readPath_99 rfl ?_
          refine g_M_read hr fX13_185 dX13_readPath_100 ?_
          refine g_MB_hours fX13_334 dX13_readPath_103 hbn ?_
          refine x_bipush dX13_readPath_106 lb_6 ?_
          refine x_iload_n dX13_readPath_108 rfl ?_
          refine x_imulN dX13_readPath_109 ?_
          refine x_iload_n dX13_readPath_110 rfl ?_
          refine x_iaddN dX13_readPath_111 ?_
          refine x_iload_n dX13_readPath_112 rfl ?_
          refine x_iast dX13_readPath_113 rfl rfl hbn (by first | exact Nat.le_of_ble_eq_true rfl | assumption | omega) ?_
          refine x_aload_n dX13_readPath_114 rfl ?_
          refine g_M_read hr fX13_185 dX13_readPath_115 ?_
          refine x_dup dX13_readPath_118 rfl ?_
          refine g_MB_paths fX13_331 dX13_readPath_119 hbn ?_
          rw [xu_ns (by decide), xu_ns (by decide)]
          refine x_top (show I5 12 ri 5 = nI (s.1 0 5 0) from y12_5 hB5) ?_
          refine x_iconst dX13_readPath_122 li_1 ?_
          refine x_iaddN dX13_readPath_123 ?_
          refine p_MB_paths fX13_331 dX13_readPath_124 hbn ?_
          refine x_vret dX13_readPath_127 rfl ?_
          have hfq : FQ ri I (xu (xu (xu I5 70 ri (6 * x1 + x2) (nI x4)) 70 ri (6 * x2 + x1) (nI x4)) 12 ri 5 (nI (s.1 0 5 0 + 1))) L L5 := ((f5.fq.xu (by omega)).xu (by omega)).xu (by omega)
          refine ⟨rfl, _, _, rfl, hfq, (fun g z => by rw [hs2] at z; cases z), fun s5 z => ?_⟩
          rw [hs2] at z
          cases z
          cases hs4
          refine ⟨?_, YB.path (x := x1) (y := x2) (z := x4) (I' := (xu (xu (xu I5 70 ri (6 * x1 + x2) (nI x4)) 70 ri (6 * x2 + x1) (nI x4)) 12 ri 5 (nI (s.1 0 5 0 + 1)))) ⟨?_, ?_⟩ (fun l hl2 hl3 => ?_) (by omega) (by omega) hB5 xu_s (fun k h1 h2 => ?_) (fun q h1 h2 h3 => ?_), ?_⟩
          · have hx2 : x = nx T e (nx T e (nx T e (nx T e (nx T e s.2.2)))) := hx.symm
            subst hx2
            exact YPS.st r5 (by funext y; rw [xu_ns (by decide), xu_ns (by decide), xu_ns (by decide)]) rfl
          · rw [xu_ns (by decide), xu_nk (by omega), xu_s]
          · rw [xu_ns (by decide), xu_s]
          · rw [xu_ns (by decide), xu_nk hl3, xu_nk hl2]
          · rw [xu_nk h1, xu_ns (by decide), xu_ns (by decide)]
          · funext y; rw [xu_ns (by omega), xu_ns h3, xu_ns h3]
          · exact (hP.2.2.fr f5).sm2 (by rw [xu_nk (by decide), xu_ns (by decide), xu_ns (by decide)]) (by funext y; rw [xu_ns (by decide), xu_ns (by decide), xu_ns (by decide)]) (by funext y; rw [xu_ns (by decide), xu_ns (by decide), xu_ns (by decide)]) rfl
      · refine x_aload_n dX13_readPath_55 rfl ?_
        refine x_iconst dX13_readPath_56 li_3 ?_
        refine x_cvv (m_flaw (d := d + 8) (c := .inr (nx T e (nx T e s.2.2))) r3) kX13_146 dX13_readPath_57 rfl (Nat.le_of_ble_eq_true rfl) rfl rfl (Nat.le_of_ble_eq_true rfl) (fun Mu hq => ?_)
        obtain ⟨I4, rfl, r4, f4⟩ := hq
        have hq0 : rdLn T e s = .inl (3, tA T e (nx T e (nx T e s.2.2))) := by rw [hrd, if_pos (by omega)]
        refine x_wk (x_ls ?_ (mov_path (d := d) (g := (3, tA T e (nx T e (nx T e s.2.2)))) (hT.fr (f3.tr f4)) r4 (f3.tr f4))) (fun v M2 hv => by obtain ⟨h1, I6, L6, h2, h3, h4⟩ := hv; exact ⟨h1, I6, L6, h2, h4.fq, (fun g2 z => by rw [hq0] at z; cases z; exact h3), (fun s2 z => by rw [hq0] at z; cases z)⟩)
        exact ⟨rfl, trivial⟩
end M42
