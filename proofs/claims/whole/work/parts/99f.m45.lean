section M45
variable {G : xG} {ad : Nat → Nat → Nat} {nb : Nat} {b r : Option Nat} {L : Nat → Nat → Nat → Int64} {V : sV} {I : Nat → Nat → Nat → Int32} {d : Nat}
variable {T : Nat → Nat} {e a : Nat} {nm : List (Nat × Nat × Nat)} {ri : Nat} {c : cS} {s : pS}
theorem ch_7 (v : Int64) : wiN 7 v ≠ 0 ↔ v = pkS 16 := by rw [wiN_7]; constructor <;> intro h <;> (by_cases z : pkS 16 = v) <;> simp_all
set_option maxRecDepth 100000 in
set_option maxHeartbeats 600000 in
theorem mpl_bad {g : Nat × Nat} {I3 : Nat → Nat → Nat → Int32} {L3 : Nat → Nat → Nat → Int64} (f3 : FR I I3 L L3) (r3 : RSt T e (.inl g) I3 L3) (hq0 : rdLn T e s = .inl g) : X G vX13_readPlace (d + 10) (0, 0) 50 [(0, some (.ref (ad 13 0)))] [] (MM ad nb b r I3 L3) (xT G (qLn T e ad nb b r ri I L (rdLn T e s))) := by
  refine x_aload_n dX13_readPlace_50 rfl ?_
  refine g_M_sort fX13_100 dX13_readPlace_51 ?_
  refine x_top (r3.2.1) ?_
  refine x_iconst dX13_readPlace_54 li_5 ?_
  refine x_icN_ne 59 dX13_readPlace_55 (by decide) (by omega) (by omega) (fun h55 => absurd rfl h55) (fun h55 => ?_)
  refine x_vret dX13_readPlace_58 rfl ?_
  exact ⟨rfl, _, _, rfl, f3.fq, (fun g z => by rw [hq0] at z; cases z; exact r3), (fun s2 z => by rw [hq0] at z; cases z)⟩
set_option maxRecDepth 100000 in
set_option maxHeartbeats 600000 in
theorem mpl_good (hr : r = some ri) (hbn : ri < nb) (hT : YTp T e I) (hP : YPS T e s ri I L) (hW : PW s) (hZ : PZ s) {x x3 x4 : Nat} {I3 : Nat → Nat → Nat → Int32} {L3 : Nat → Nat → Nat → Int64} (f3 : FR I I3 L L3) (r3 : RSt T e (.inr x) I3 L3) (hrm2 : s.1 0 4 0 < 6) (hs2 : rdLn T e s = .inr (addV s.1 4 (s.1 0 4 0) [(5, x3), (6, x4)], s.2.1 ++ [((nx T e s.2.2), 4, s.1 0 4 0)], x)) : X G vX13_readPlace (d + 10) (0, 0) 50 [(0, some (.ref (ad 13 0))), (1, some (.long (vl T e (nx T e s.2.2)))), (3, some (.int (nI (x3)))), (4, some (.int (nO (-2) x4)))] [] (MM ad nb b r I3 L3) (xT G (qLn T e ad nb b r ri I L (rdLn T e s))) := by
  have hV := hW.1
  have v0 := hV.1
  have v1 := hV.2.1
  have v2 := hV.2.2.1
  have v3 := hV.2.2.2.1
  have v4 := hV.2.2.2.2.1
  have v7 := hV.2.2.2.2.2.2.2.1
  have v9 := hV.2.2.2.2.2.2.2.2.2.1
  have v10 := hV.2.2.2.2.2.2.2.2.2.2.1
  have hB := hP.2.1
  have hB3 := hB.sm (I' := I3) (fun q hq => f3.1 q (by omega))
  have hN3 := hP.2.2.fr f3
  have hln := hW.2.1
  have hm9 := mso_le _ (kd_le (T := T) (e := e) (a := x))
  refine x_aload_n dX13_readPlace_50 rfl ?_
  refine g_M_sort fX13_100 dX13_readPlace_51 ?_
  refine x_top (r3.2.1.1.2.2) ?_
  refine x_iconst dX13_readPlace_54 li_5 ?_
  refine x_icN_ne 59 dX13_readPlace_55 (by decide) (by omega) (by omega) (fun h55 => ?_) (fun h55 => absurd h55 (by omega))
  refine x_aload_n dX13_readPlace_59 rfl ?_
  refine x_lload_n dX13_readPlace_60 rfl ?_
  refine x_iconst dX13_readPlace_61 li_3 ?_
  refine x_aload_n dX13_readPlace_62 rfl ?_
  refine g_M_read hr fX13_185 dX13_readPlace_63 ?_
  refine g_MB_places fX13_230 dX13_readPlace_66 hbn ?_
  refine x_top (show I3 12 ri 4 = nI (s.1 0 4 0) from y12_4 hB3) ?_
  refine x_cvv (m_names (d := d + 9) (nm := s.2.1) (a := (nx T e s.2.2)) (so := 4) (x := s.1 0 4 0) hr hbn hN3 (by omega) (by omega) (by omega)) kX13_286 dX13_readPlace_69 rfl (Nat.le_of_ble_eq_true rfl) rfl rfl (Nat.le_of_ble_eq_true rfl) (fun Mu hq => ?_)
  obtain ⟨J4, M4, rfl, y4, n2, n3, n4⟩ := hq
  have e12 : ∀ k, k < 12 → J4 12 ri k = I3 12 ri k := fun k hk => n3 k (by omega)
  refine x_aload_n dX13_readPlace_72 rfl ?_
  refine g_M_read hr fX13_185 dX13_readPlace_73 ?_
  refine g_MB_landOf fX13_325 dX13_readPlace_76 hbn ?_
  refine x_aload_n dX13_readPlace_79 rfl ?_
  refine g_M_read hr fX13_185 dX13_readPlace_80 ?_
  refine g_MB_places fX13_230 dX13_readPlace_83 hbn ?_
  refine x_top (show J4 12 ri 4 = nI (s.1 0 4 0) from (e12 4 (by decide)).trans (y12_4 hB3)) ?_
  refine x_iload_n dX13_readPlace_86 rfl ?_
  refine x_iast dX13_readPlace_87 rfl rfl hbn (by first | exact Nat.le_of_ble_eq_true rfl | assumption | omega) ?_
  refine x_aload_n dX13_readPlace_88 rfl ?_
  refine g_M_read hr fX13_185 dX13_readPlace_89 ?_
  refine g_MB_noseOf fX13_328 dX13_readPlace_92 hbn ?_
  refine x_aload_n dX13_readPlace_95 rfl ?_
  refine g_M_read hr fX13_185 dX13_readPlace_96 ?_
  refine g_MB_places fX13_230 dX13_readPlace_99 hbn ?_
  rw [xu_ns (by decide)]
  refine x_top (show J4 12 ri 4 = nI (s.1 0 4 0) from (e12 4 (by decide)).trans (y12_4 hB3)) ?_
  refine x_iload dX13_readPlace_102 rfl ?_
  refine x_iast dX13_readPlace_104 rfl rfl hbn (by first | exact Nat.le_of_ble_eq_true rfl | assumption | omega) ?_
  refine x_aload_n dX13_readPlace_105 rfl ?_
  refine g_M_read hr fX13_185 dX13_readPlace_106 ?_
  refine x_dup dX13_readPlace_109 rfl ?_
  refine g_MB_places fX13_230 dX13_readPlace_110 hbn ?_
  rw [xu_ns (by decide), xu_ns (by decide)]
  refine x_top (show J4 12 ri 4 = nI (s.1 0 4 0) from (e12 4 (by decide)).trans (y12_4 hB3)) ?_
  refine x_iconst dX13_readPlace_113 li_1 ?_
  refine x_iaddN dX13_readPlace_114 ?_
  refine p_MB_places fX13_230 dX13_readPlace_115 hbn ?_
  refine x_vret dX13_readPlace_118 rfl ?_
  have hfq : FQ ri I (xu (xu (xu J4 68 ri (s.1 0 4 0) (nI x3)) 69 ri (s.1 0 4 0) (nO (-2) x4)) 12 ri 4 (nI (s.1 0 4 0 + 1))) L M4 := ((((f3.fq.tr ⟨fun q c h1 h2 => n2 q c (by omega), fun k _ => by rw [n2 13 0 (by omega)], fun q c h1 h2 => n4 q c h2⟩).xu (by omega)).xu (by omega)).xu (by omega))
  refine ⟨rfl, _, _, rfl, hfq, (fun g z => by rw [hs2] at z; cases z), fun s5 z => ?_⟩
  rw [hs2] at z
  cases z
  refine ⟨YPS.st r3 (by funext y; rw [xu_ns (by decide), xu_ns (by decide), xu_ns (by decide), n2 13 0 (by omega)]) (n4 13 0 (by omega)), YB.place (x := x3) (y := x4) (I' := (xu (xu (xu J4 68 ri (s.1 0 4 0) (nI x3)) 69 ri (s.1 0 4 0) (nO (-2) x4)) 12 ri 4 (nI (s.1 0 4 0 + 1)))) ?_ (fun l hl2 => ?_) ?_ (fun l hl2 => ?_) hB3 xu_s (fun k h1 h2 => ?_) (fun q h1 h2 g0 g1 => ?_), ?_⟩
  · rw [xu_ns (by decide), xu_ns (by decide), xu_s]
  · rw [xu_ns (by decide), xu_ns (by decide), xu_nk hl2, n2 68 ri (by omega)]
  · rw [xu_ns (by decide), xu_s]
  · rw [xu_ns (by decide), xu_nk hl2, xu_ns (by decide), n2 69 ri (by omega)]
  · rw [xu_nk h1, xu_ns (by decide), xu_ns (by decide)]; exact n3 k h2
  · funext y; rw [xu_ns (by omega), xu_ns g1, xu_ns g0, n2 q ri (by omega)]
  · exact y4.sm2 (by rw [xu_nk (by decide), xu_ns (by decide), xu_ns (by decide)]) (by funext y; rw [xu_ns (by decide), xu_ns (by decide), xu_ns (by decide)]) (by funext y; rw [xu_ns (by decide), xu_ns (by decide), xu_ns (by decide)]) rfl

theorem place_l {g : Nat × Nat} (hl : lw T e s.2.2 = 5) (hZ : PZ s) (hle : s.1 0 4 0 ≤ 6) (h : (cpk T e s.2.1 25 1 (cst T e (pFr T e s.2.1) (cbg T e (decide (s.1 0 4 0 = 6)) (s.1 0 0 0) (.inr s.2.2)))) = .inl g) : rdLn T e s = .inl g := by
  cases hc1 : (cbg T e (decide (s.1 0 4 0 = 6)) (s.1 0 0 0) (.inr s.2.2)) with
  | inl g1 =>
    have : (cpk T e s.2.1 25 1 (cst T e (pFr T e s.2.1) (cbg T e (decide (s.1 0 4 0 = 6)) (s.1 0 0 0) (.inr s.2.2)))) = .inl g1 := by rw [hc1]; rfl
    rw [this] at h
    cases h
    exact cbg_no (so := 4) (cap := 6) (by decide) (by decide) hl hZ (by decide) rfl hle hc1
  | inr a1 =>
    obtain ⟨hfu, hw0, rfl⟩ := cbg_inv hc1
    have hfu := of_decide_eq_false hfu
    rw [hc1] at h
    rw [rdLn_so (so := 4) (by decide) (by decide) hl, if_neg hw0, if_neg (by show ¬ 6 ≤ _; omega)]
    show bnd (pNew s.1 T e s.2.1 4 (nx T e s.2.2)) _ = _
    rw [cst_fr (so := 4) (V := s.1)] at h
    cases hp : pNew s.1 T e s.2.1 4 (nx T e s.2.2) with
    | inl g2 => rw [cst_f hp] at h; cases h; rfl
    | inr x1 =>
      rw [cst_r hp] at h
      unfold cpk at h
      rw [cneed_ch ch_6] at h
      show bnd (pChoice T e 6 (nx T e (nx T e s.2.2))) _ = _
      cases hp2 : pChoice T e 6 (nx T e (nx T e s.2.2)) with
      | inl g2 => rw [cst_f hp2] at h; cases h; rfl
      | inr x2 =>
        rw [cst_r hp2] at h
        show bnd (pKnown T e (s.2.1 ++ [((nx T e s.2.2), 4, x1)]) 1 (nx T e (nx T e (nx T e s.2.2)))) _ = _
        rw [pKn_app (by decide)]
        exact lc_cst (q := pKnown T e s.2.1 1) h
theorem place_i {x : Nat} (hl : lw T e s.2.2 = 5) (hle : s.1 0 4 0 ≤ 6) (h : (cpk T e s.2.1 25 1 (cst T e (pFr T e s.2.1) (cbg T e (decide (s.1 0 4 0 = 6)) (s.1 0 0 0) (.inr s.2.2)))) = .inr x) : x = (nx T e (nx T e (nx T e (nx T e s.2.2)))) ∧ s.1 0 4 0 < 6 ∧ (cbg T e (decide (s.1 0 4 0 = 6)) (s.1 0 0 0) (.inr s.2.2)) = .inr (nx T e s.2.2) ∧ pFr T e s.2.1 (nx T e s.2.2) = .inr 0 ∧ cneed T e 25 (cst T e (pFr T e s.2.1) (cbg T e (decide (s.1 0 4 0 = 6)) (s.1 0 0 0) (.inr s.2.2))) = .inr (nx T e (nx T e (nx T e s.2.2))) ∧ ∃ x3, pKnown T e s.2.1 1 (nx T e (nx T e (nx T e s.2.2))) = .inr x3 ∧ rdLn T e s = if kd T e (nx T e (nx T e (nx T e (nx T e s.2.2)))) = 1 ∧ wiN 7 (vl T e (nx T e (nx T e (nx T e (nx T e s.2.2))))) ≠ 0 then bnd (pKnown T e s.2.1 3 (nx T e (nx T e (nx T e (nx T e (nx T e s.2.2)))))) (fun x4 => .inr (addV s.1 4 (s.1 0 4 0) [(5, x3), (6, x4 + 1)], (s.2.1 ++ [((nx T e s.2.2), 4, s.1 0 4 0)]), (nx T e (nx T e (nx T e (nx T e (nx T e (nx T e s.2.2)))))))) else .inr (addV s.1 4 (s.1 0 4 0) [(5, x3), (6, 0)], (s.2.1 ++ [((nx T e s.2.2), 4, s.1 0 4 0)]), (nx T e (nx T e (nx T e (nx T e s.2.2))))) := by
  obtain ⟨a3, x3, hc3, e3, rfl⟩ := cst_inv h
  have hc2 := hc3
  rw [cneed_ch ch_6] at hc2
  obtain ⟨a2, x2, hc9, e2, rfl⟩ := cst_inv hc2
  rw [cst_fr (so := 4) (V := s.1)] at hc9
  obtain ⟨a1, x1, hc1, e1, rfl⟩ := cst_inv hc9
  obtain ⟨hfu, hw0, rfl⟩ := cbg_inv hc1
  have hfu := of_decide_eq_false hfu
  refine ⟨rfl, by omega, hc1, pFr_new e1, hc3, x3, e3, ?_⟩
  obtain rfl : x1 = s.1 0 4 0 := pNew_eq e1
  rw [rdLn_so (so := 4) (by decide) (by decide) hl, if_neg hw0, if_neg (by show ¬ 6 ≤ _; omega)]
  show bnd (pNew s.1 T e s.2.1 4 (nx T e s.2.2)) _ = _
  rw [e1]
  show bnd (pChoice T e 6 (nx T e (nx T e s.2.2))) _ = _
  rw [e2]
  show bnd (pKnown T e (s.2.1 ++ [((nx T e s.2.2), 4, s.1 0 4 0)]) 1 (nx T e (nx T e (nx T e s.2.2)))) _ = _
  rw [pKn_app (by decide), e3]
  show (if kd T e (nx T e (nx T e (nx T e (nx T e s.2.2)))) = 1 ∧ wiN 7 (vl T e (nx T e (nx T e (nx T e (nx T e s.2.2))))) ≠ 0 then bnd (pKnown T e (s.2.1 ++ [((nx T e s.2.2), 4, s.1 0 4 0)]) 3 (nx T e (nx T e (nx T e (nx T e (nx T e s.2.2)))))) _ else _) = _
  rw [pKn_app (by decide)]

set_option maxRecDepth 100000 in
set_option maxHeartbeats 600000 in
theorem m_read_place (hr : r = some ri) (hbn : ri < nb) (hT : YTp T e I) (hP : YPS T e s ri I L) (hW : PW s) (hZ : PZ s) (hl : lw T e s.2.2 = 5) : Mt G vX13_readPlace (d + 10) (0, 0) [.ref (ad 13 0)] (MM ad nb b r I L) (qLn T e ad nb b r ri I L (rdLn T e s)) := by
  have hV := hW.1
  have v0 := hV.1
  have v1 := hV.2.1
  have v2 := hV.2.2.1
  have v3 := hV.2.2.2.1
  have v4 := hV.2.2.2.2.1
  have v7 := hV.2.2.2.2.2.2.2.1
  have v9 := hV.2.2.2.2.2.2.2.2.2.1
  have v10 := hV.2.2.2.2.2.2.2.2.2.2.1
  have hB := hP.2.1
  have hle : s.1 0 4 0 ≤ 6 := v4
  have hk1 := lw_kd (T := T) (e := e) (a := s.2.2) (by rw [hl]; decide)
  refine x_start (by decide) (Nat.le_of_ble_eq_true rfl) ?_
  refine x_aload_n dX13_readPlace_0 rfl ?_
  refine x_aload_n dX13_readPlace_1 rfl ?_
  refine g_M_read hr fX13_185 dX13_readPlace_2 ?_
  refine g_MB_places fX13_230 dX13_readPlace_5 hbn ?_
  refine x_top (y12_4 hB) ?_
  refine x_bipush dX13_readPlace_8 lb_6 ?_
  refine x_cvv (m_begins (d := d + 7) (x := s.1 0 4 0) (y := 6) (w := s.1 0 0 0) hr hbn (by omega) (by omega) (y12_0 hB) (by omega) hT hP.1 (fun a z => by cases z; omega)) kX13_276 dX13_readPlace_10 rfl (Nat.le_of_ble_eq_true rfl) rfl rfl (Nat.le_of_ble_eq_true rfl) (fun Mu hq => ?_)
  obtain ⟨I1, L1, rfl, r1, f1⟩ := hq
  refine x_aload_n dX13_readPlace_13 rfl ?_
  refine x_cvl (m_readFresh (d := d + 2) hr hbn (hT.fr f1) r1 (hP.2.2.fr f1)) kX13_280 dX13_readPlace_14 rfl (Nat.le_of_ble_eq_true rfl) rfl rfl (Nat.le_of_ble_eq_true rfl) (fun rf Mu hq => ?_)
  obtain ⟨I2, L2, rfl, r2, f2, u2⟩ := hq
  have f12 := f1.tr f2
  refine x_lstore_n dX13_readPlace_17 (by decide) rfl ?_
  refine x_aload_n dX13_readPlace_18 rfl ?_
  refine x_ldcS (n := 25) dX13_readPlace_19 rfl ?_
  refine x_iconst dX13_readPlace_21 li_0 ?_
  refine x_cvi (m_readPartKnown (d := d) (so := 1) (i := 25) hr hbn (by omega) (by decide) (by decide) (hT.fr f12) r2 (hP.2.2.fr f12)) kX13_309 dX13_readPlace_22 rfl (Nat.le_of_ble_eq_true rfl) rfl rfl (Nat.le_of_ble_eq_true rfl) (fun rp Mu hq => ?_)
  obtain ⟨I3, L3, rfl, r3, f3, u3⟩ := hq
  have f3 := f12.tr f3
  refine x_istore_n dX13_readPlace_25 (by decide) rfl ?_
  cases hc3 : (cpk T e s.2.1 25 1 (cst T e (pFr T e s.2.1) (cbg T e (decide (s.1 0 4 0 = 6)) (s.1 0 0 0) (.inr s.2.2)))) with
  | inl g =>
    rw [hc3] at r3
    refine x_bipush dX13_readPlace_26 lb_m2 ?_
    refine x_istore dX13_readPlace_28 (by decide) rfl ?_
    refine x_aload_n dX13_readPlace_30 rfl ?_
    refine x_ldcS (n := 16) dX13_readPlace_31 rfl ?_
    refine x_cvi (m_isWord (d := d + 4) (c := .inl g) (i := 16) (by decide) (by decide) r3) kX13_142 dX13_readPlace_33 rfl (Nat.le_of_ble_eq_true rfl) rfl rfl (Nat.le_of_ble_eq_true rfl) (fun ru Mu hq => ?_)
    obtain ⟨rfl, rfl⟩ := hq
    refine x_if_eq 50 dX13_readPlace_36 (by decide) (fun h36 => ?_) (fun h36 => ?_)
    · refine x_ls ?_ (mpl_bad (d := d) f3 r3 (place_l hl hZ hle hc3))
      exact ⟨rfl, trivial⟩
    · exact (isW_l (bI_ne.mp h36)).elim
  | inr x =>
    rw [hc3] at r3
    obtain ⟨hx, hrm, hc1, hf, hcn, x3, e3, hrd⟩ := place_i hl hle hc3
    subst hx
    have hrf := u2 _ _ hc1 hf
    have hrp := u3 _ _ hcn e3
    subst hrf
    subst hrp
    refine x_bipush dX13_readPlace_26 lb_m2 ?_
    refine x_istore dX13_readPlace_28 (by decide) rfl ?_
    refine x_aload_n dX13_readPlace_30 rfl ?_
    refine x_ldcS (n := 16) dX13_readPlace_31 rfl ?_
    refine x_cvi (m_isWord (d := d + 4) (c := .inr (nx T e (nx T e (nx T e (nx T e s.2.2))))) (i := 16) (by decide) (by decide) r3) kX13_142 dX13_readPlace_33 rfl (Nat.le_of_ble_eq_true rfl) rfl rfl (Nat.le_of_ble_eq_true rfl) (fun ru Mu hq => ?_)
    obtain ⟨rfl, rfl⟩ := hq
    refine x_if_eq 50 dX13_readPlace_36 (by decide) (fun h36 => ?_) (fun h36 => ?_)
    · have hw := bI_eq.mp h36
      rw [if_neg (fun z => isW_n hw z.1 ((ch_7 _).mp z.2).symm)] at hrd
      refine x_ls ?_ (mpl_good (d := d) (x3 := x3) (x4 := 0) hr hbn hT hP hW hZ f3 r3 hrm hrd)
      exact ⟨rfl, rfl, rfl, rfl, trivial⟩
    · have hw := isW_k (bI_ne.mp h36)
      rw [if_pos ⟨hw.1, (ch_7 _).mpr hw.2⟩] at hrd
      have hk5 := hw.1
      refine x_aload_n dX13_readPlace_39 rfl ?_
      refine x_cvv (m_next (d := d + 8) (c := .inr (nx T e (nx T e (nx T e (nx T e s.2.2))))) (hT.fr f3) r3 (fun a z => by cases z; omega)) kX13_139 dX13_readPlace_40 rfl (Nat.le_of_ble_eq_true rfl) rfl rfl (Nat.le_of_ble_eq_true rfl) (fun Mu hq => ?_)
      obtain ⟨I4, L4, rfl, r4, f4⟩ := hq
      have f4 := f3.tr f4
      refine x_aload_n dX13_readPlace_43 rfl ?_
      refine x_iconst dX13_readPlace_44 li_2 ?_
      refine x_cvi (m_readKnown (d := d + 1) (c := .inr (nx T e (nx T e (nx T e (nx T e (nx T e s.2.2)))))) (so := 3) hr hbn (by omega) (hT.fr f4) r4 (hP.2.2.fr f4)) kX13_218 dX13_readPlace_45 rfl (Nat.le_of_ble_eq_true rfl) rfl rfl (Nat.le_of_ble_eq_true rfl) (fun rk Mu hq => ?_)
      obtain ⟨I5, L5, rfl, r5, f5, u5⟩ := hq
      have f5 := f4.tr f5
      refine x_istore dX13_readPlace_48 (by decide) rfl ?_
      cases hp4 : pKnown T e s.2.1 3 (nx T e (nx T e (nx T e (nx T e (nx T e s.2.2))))) with
      | inl g =>
        rw [cst_f hp4] at r5
        refine x_ls ?_ (mpl_bad (d := d) f5 r5 (by rw [hrd, hp4]; rfl))
        exact ⟨rfl, trivial⟩
      | inr x4 =>
        rw [cst_r hp4] at r5
        have hrk := u5 _ _ rfl hp4
        subst hrk
        refine x_ls ?_ (mpl_good (d := d) (x3 := x3) (x4 := x4 + 1) hr hbn hT hP hW hZ f5 r5 hrm (by rw [hrd, hp4]; rfl))
        exact ⟨rfl, rfl, rfl, rfl, trivial⟩
end M45
