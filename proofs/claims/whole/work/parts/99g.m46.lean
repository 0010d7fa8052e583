section M46
variable {G : xG} {ad : Nat → Nat → Nat} {nb : Nat} {b r : Option Nat} {L : Nat → Nat → Nat → Int64} {V : sV} {I : Nat → Nat → Nat → Int32} {d : Nat}
variable {T : Nat → Nat} {e a : Nat} {nm : List (Nat × Nat × Nat)} {ri : Nat} {c : cS} {s : pS}

/-- what a walk's stops change -/
def WKF (ri t : Nat) (I I1 : Nat → Nat → Nat → Int32) (L L1 : Nat → Nat → Nat → Int64) : Prop := FQ ri I I1 L L1 ∧ (∀ l, ¬ (5 * t ≤ l ∧ l < 5 * t + 5) → I1 77 ri l = I 77 ri l) ∧ (∀ q, 64 ≤ q → q ≤ 83 → q ≠ 77 → I1 q ri = I q ri) ∧ I1 12 ri = I 12 ri ∧ L1 81 ri = L 81 ri
theorem FR.wkf {t : Nat} {I1 : Nat → Nat → Nat → Int32} {L1 : Nat → Nat → Nat → Int64} (h : FR I I1 L L1) : WKF ri t I I1 L L1 := ⟨h.fq, fun l _ => by rw [h.1 77 (by decide)], fun q h1 h2 _ => by rw [h.1 q (by omega)], by rw [h.1 12 (by decide)], by rw [h.2.2 81 (by decide)]⟩
theorem WKF.fr {t : Nat} {I1 I2 : Nat → Nat → Nat → Int32} {L1 L2 : Nat → Nat → Nat → Int64} (w : WKF ri t I I1 L L1) (h : FR I1 I2 L1 L2) : WKF ri t I I2 L L2 := ⟨w.1.tr h.fq, fun l hl => by rw [h.1 77 (by decide)]; exact w.2.1 l hl, fun q h1 h2 h3 => by rw [h.1 q (by omega)]; exact w.2.2.1 q h1 h2 h3, by rw [h.1 12 (by decide)]; exact w.2.2.2.1, by rw [h.2.2 81 (by decide)]; exact w.2.2.2.2⟩
theorem WKF.xu {t j : Nat} {v : Int32} {I1 : Nat → Nat → Nat → Int32} {L1 : Nat → Nat → Nat → Int64} (w : WKF ri t I I1 L L1) (hj : j < 5) : WKF ri t I (xu I1 77 ri (5 * t + j) v) L L1 := ⟨w.1.xu (by omega), fun l hl => by rw [xu_nk (by omega)]; exact w.2.1 l hl, fun q h1 h2 h3 => by funext y; rw [xu_ns h3, w.2.2.1 q h1 h2 h3], by funext y; rw [xu_ns (by decide), w.2.2.2.1], w.2.2.2.2⟩
theorem YTp.fq {I1 : Nat → Nat → Nat → Int32} {L1 : Nat → Nat → Nat → Int64} (h : YTp T e I) (f : FQ ri I I1 L L1) : YTp T e I1 := ⟨fun i hi => by rw [f.1 84 0 (by decide) (by omega)]; exact h.1 i hi, h.2⟩
theorem YNm.wkf {t : Nat} {I1 : Nat → Nat → Nat → Int32} {L1 : Nat → Nat → Nat → Int64} (h : YNm T e nm ri I L) (w : WKF ri t I I1 L L1) : YNm T e nm ri I1 L1 := h.sm2 (by rw [w.2.2.2.1]) (w.2.2.1 82 (by decide) (by decide) (by decide)) (w.2.2.1 83 (by decide) (by decide) (by decide)) w.2.2.2.2
theorem getD_app1 {st : List Nat} {x j : Nat} (h : j < st.length) : (st ++ [x]).getD j 0 = st.getD j 0 := by
  rw [List.getD_eq_getElem?_getD, List.getElem?_append_left h, List.getD_eq_getElem?_getD]
theorem getD_app2 {st : List Nat} {x : Nat} : (st ++ [x]).getD st.length 0 = x := by
  rw [List.getD_eq_getElem?_getD, List.getElem?_append_right (Nat.le_refl _), Nat.sub_self]; rfl

set_option maxRecDepth 100000 in
set_option maxHeartbeats 600000 in
theorem mwk_bad {g : Nat × Nat} {I4 : Nat → Nat → Nat → Int32} {L4 : Nat → Nat → Nat → Int64} (hR : RSt T e (.inl g) I4 L4) (hF : FQ ri I I4 L L4) (hq0 : rdLn T e s = .inl g) : X G vX13_readWalk (d + 8) (0, 0) 66 [(0, some (.ref (ad 13 0)))] [] (MM ad nb b r I4 L4) (xT G (qLn T e ad nb b r ri I L (rdLn T e s))) := by
  refine x_aload_n dX13_readWalk_66 rfl ?_
  refine x_cvv (m_goesOn' (d := d + 6) hR.2.1) kX13_139 dX13_readWalk_67 rfl (Nat.le_of_ble_eq_true rfl) rfl rfl (Nat.le_of_ble_eq_true rfl) (fun Mu hq => ?_)
  subst hq
  refine x_aload_n dX13_readWalk_70 rfl ?_
  refine g_M_sort fX13_100 dX13_readWalk_71 ?_
  refine x_top (show I4 13 0 9 = nI 5 from hR.2.1) ?_
  refine x_iconst dX13_readWalk_74 li_5 ?_
  refine x_icN_ne 79 dX13_readWalk_75 (by decide) (by omega) (by omega) (fun h75 => absurd rfl h75) (fun h75 => ?_)
  refine x_vret dX13_readWalk_78 rfl ?_
  exact ⟨rfl, _, _, rfl, hF, (fun g2 z => by rw [hq0] at z; cases z; exact hR), (fun s2 z => by rw [hq0] at z; cases z)⟩
set_option maxRecDepth 100000 in
set_option maxHeartbeats 600000 in
theorem mwk_over (hr : r = some ri) (hbn : ri < nb) {g : Nat × Nat} {I4 : Nat → Nat → Nat → Int32} {L4 : Nat → Nat → Nat → Int64} (hR : RSt T e (.inl g) I4 L4) (hF : FR I I4 L L4) (hN : YNm T e s.2.1 ri I4 L4) (hq0 : rdLn T e s = .inl g) : X G vX13_readWalk (d + 8) (0, 0) 37 [(0, some (.ref (ad 13 0)))] [] (MM ad nb b r I4 L4) (xT G (qLn T e ad nb b r ri I L (rdLn T e s))) := by
  refine x_aload_n dX13_readWalk_37 rfl ?_
  refine x_cvv (m_goesOn' (d := d + 6) hR.2.1) kX13_139 dX13_readWalk_38 rfl (Nat.le_of_ble_eq_true rfl) rfl rfl (Nat.le_of_ble_eq_true rfl) (fun Mu hq => ?_)
  subst hq
  refine x_iconst dX13_readWalk_41 li_0 ?_
  refine x_istore_n dX13_readWalk_42 (by decide) rfl ?_
  refine x_iconst dX13_readWalk_43 li_1 ?_
  refine x_istore_n dX13_readWalk_44 (by decide) rfl ?_
  refine x_iload_n dX13_readWalk_45 rfl ?_
  refine x_ifN_eq 107 dX13_readWalk_46 (by decide) (by omega) (fun h46 => absurd h46 (by decide)) (fun h46 => ?_)
  refine x_aload_n dX13_readWalk_49 rfl ?_
  refine x_iconst dX13_readWalk_50 li_3 ?_
  refine x_cvi (m_knownOne (d := d) (c := .inl g) (so := 4) hr hbn (by omega) hR hN) kX13_215 dX13_readWalk_51 rfl (Nat.le_of_ble_eq_true rfl) rfl rfl (Nat.le_of_ble_eq_true rfl) (fun ro Mu hq => ?_)
  obtain ⟨I5, L5, rfl, r5, f5, -⟩ := hq
  refine x_istore dX13_readWalk_54 (by decide) rfl ?_
  refine x_iload_n dX13_readWalk_56 rfl ?_
  refine x_iconst dX13_readWalk_57 li_5 ?_
  refine x_icN_ne 66 dX13_readWalk_58 (by decide) (by omega) (by omega) (fun h58 => ?_) (fun h58 => absurd h58 (by decide))
  refine x_ls ?_ (mwk_bad (d := d) r5 (hF.tr f5).fq hq0)
  exact ⟨rfl, trivial⟩
set_option maxRecDepth 100000 in
set_option maxHeartbeats 600000 in
theorem lp_mwalk {t : Nat} (ht : t < 4) (hr : r = some ri) (hbn : ri < nb) (hT : YTp T e I) (hP : YPS T e s ri I L) (hW : PW s) (hZ : PZ s) : ∀ (n : Nat) (st : List Nat) (a : Nat) (I1 : Nat → Nat → Nat → Int32) (L1 : Nat → Nat → Nat → Int64), 5 - st.length < n → st.length ≤ 5 → RSt T e (.inr a) I1 L1 → WKF ri t I I1 L L1 → (∀ j, j < st.length → I1 77 ri (5 * t + j) = nI (st.getD j 0)) → rdLn T e s = rwl T e (s.1, s.2.1, nx T e s.2.2) t (5 - st.length) st a → X G vX13_readWalk (d + 8) (0, 0) 49 [(0, some (.ref (ad 13 0))), (1, some (.int (nI (t)))), (2, some (.int (nI (st.length))))] [] (MM ad nb b r I1 L1) (xT G (qLn T e ad nb b r ri I L (rdLn T e s))) := by
  have hV := hW.1
  have h13 := hV.2.2.2.2.2.2.2.2.2.2.2.2.2.2.2.2.2.2.2.2.1
  intro n
  induction n with
  | zero => intro st a I1 L1 h0; omega
  | succ n ih =>
    intro st a I1 L1 hn hl5 hR w hst hrd
    have hN1 := hP.2.2.wkf w
    refine x_aload_n dX13_readWalk_49 rfl ?_
    refine x_iconst dX13_readWalk_50 li_3 ?_
    refine x_cvi (m_knownOne (d := d) (c := .inr a) (so := 4) hr hbn (by omega) hR hN1) kX13_215 dX13_readWalk_51 rfl (Nat.le_of_ble_eq_true rfl) rfl rfl (Nat.le_of_ble_eq_true rfl) (fun ro Mu hq => ?_)
    obtain ⟨I2, L2, rfl, r2, f2, u2⟩ := hq
    have w2 := w.fr f2
    cases hp : pKnown T e s.2.1 4 a with
    | inl g =>
      rw [csk_f hp] at r2
      have hq0 : rdLn T e s = .inl g := by
        rw [hrd]
        by_cases q : st.length = 5
        · rw [rwl_0 (by omega)]; show bnd (pKnown T e s.2.1 4 a) _ = _; rw [hp]; rfl
        · rw [rwl_s (by omega)]; show bnd (pKnown T e s.2.1 4 a) _ = _; rw [hp]; rfl
      refine x_istore dX13_readWalk_54 (by decide) rfl ?_
      refine x_iload_n dX13_readWalk_56 rfl ?_
      refine x_iconst dX13_readWalk_57 li_5 ?_
      refine x_icN_ne 66 dX13_readWalk_58 (by decide) (by omega) (by omega) (fun h58 => ?_) (fun h58 => ?_)
      · refine x_ls ?_ (mwk_bad (d := d) r2 w2.1 hq0)
        exact ⟨rfl, trivial⟩
      · refine x_aload_n dX13_readWalk_61 rfl ?_
        refine x_iconst dX13_readWalk_62 li_5 ?_
        refine x_cvv (m_flaw (d := d + 7) (c := .inl g) r2) kX13_146 dX13_readWalk_63 rfl (Nat.le_of_ble_eq_true rfl) rfl rfl (Nat.le_of_ble_eq_true rfl) (fun Mu hq => ?_)
        obtain ⟨I3, rfl, r3, f3⟩ := hq
        refine x_ls ?_ (mwk_bad (d := d) r3 (w2.fr f3).1 hq0)
        exact ⟨rfl, trivial⟩
    | inr x =>
      rw [csk_r hp] at r2
      have hro := u2 _ _ rfl hp
      subst hro
      refine x_istore dX13_readWalk_54 (by decide) rfl ?_
      refine x_iload_n dX13_readWalk_56 rfl ?_
      refine x_iconst dX13_readWalk_57 li_5 ?_
      refine x_icN_ne 66 dX13_readWalk_58 (by decide) (by omega) (by omega) (fun h58 => ?_) (fun h58 => ?_)
      · refine x_aload_n dX13_readWalk_66 rfl ?_
        refine x_cvv (m_next (d := d + 6) (c := .inr a) ((hT.fq w.1).fr f2) r2 (fun b z => by cases z; exact pKn_5 hp)) kX13_139 dX13_readWalk_67 rfl (Nat.le_of_ble_eq_true rfl) rfl rfl (Nat.le_of_ble_eq_true rfl) (fun Mu hq => ?_)
        obtain ⟨I3, L3, rfl, r3, f3⟩ := hq
        have w3 := w2.fr f3
        have hm3 := mso_le _ (kd_le (T := T) (e := e) (a := nx T e a))
        refine x_aload_n dX13_readWalk_70 rfl ?_
        refine g_M_sort fX13_100 dX13_readWalk_71 ?_
        refine x_top (show I3 13 0 9 = nI (mso (kd T e (nx T e a))) from r3.2.1.1.2.2) ?_
        refine x_iconst dX13_readWalk_74 li_5 ?_
        refine x_icN_ne 79 dX13_readWalk_75 (by decide) (by omega) (by omega) (fun h75 => ?_) (fun h75 => ?_)
        · refine x_aload_n dX13_readWalk_79 rfl ?_
          refine g_M_read hr fX13_185 dX13_readWalk_80 ?_
          refine g_MB_walk fX13_373 dX13_readWalk_83 hbn ?_
          refine x_iconst dX13_readWalk_86 li_5 ?_
          refine x_iload_n dX13_readWalk_87 rfl ?_
          refine x_imulN dX13_readWalk_88 ?_
          refine x_iload_n dX13_readWalk_89 rfl ?_
          refine x_iaddN dX13_readWalk_90 ?_
          refine x_iload dX13_readWalk_91 rfl ?_
          refine x_iast dX13_readWalk_93 rfl rfl hbn (by first | exact Nat.le_of_ble_eq_true rfl | assumption | omega) ?_
          refine x_iincN 1 dX13_readWalk_94 li_1 rfl (by decide) rfl ?_
          refine x_aload_n dX13_readWalk_97 rfl ?_
          refine x_bipush dX13_readWalk_98 lb_44 ?_
          refine x_cvi (m_eatsSign (d := d + 5) (q := 44) (c := .inr (nx T e a)) (by omega) (hT.fq (w3.xu (j := st.length) (v := nI x) (by omega)).1) (YPS.st r3 (by funext y; rw [xu_ns (by decide)]) rfl)) kX13_224 dX13_readWalk_100 rfl (Nat.le_of_ble_eq_true rfl) rfl rfl (Nat.le_of_ble_eq_true rfl) (fun re Mu hq => ?_)
          obtain ⟨hre, I5, L5, hM5, r5, f5⟩ := hq
          subst hre
          subst hM5
          have w5 := (w3.xu (j := st.length) (v := nI x) (by omega)).fr f5
          have hrd2 : rdLn T e s = if kd T e (nx T e a) = 4 then rwl T e (s.1, s.2.1, nx T e s.2.2) t (5 - st.length - 1) (st ++ [x]) (nx T e (nx T e a)) else .inr (wkV s.1 t (st ++ [x]), s.2.1, nx T e a) := by rw [hrd, rwl_s (by omega)]; show bnd (pKnown T e s.2.1 4 a) _ = _; rw [hp]; rfl
          have hst5 : ∀ j, j < (st ++ [x]).length → I5 77 ri (5 * t + j) = nI ((st ++ [x]).getD j 0) := fun j hj => by
            rw [List.length_append] at hj
            have hj : j < st.length + 1 := hj
            rw [f5.1 77 (by decide)]
            by_cases q : j = st.length
            · subst q; rw [xu_s, getD_app2]
            · rw [xu_nk (by omega), f3.1 77 (by decide), f2.1 77 (by decide), getD_app1 (by omega)]; exact hst j (by omega)
          refine x_istore_n dX13_readWalk_103 (by decide) rfl ?_
          refine x_goto 45 dX13_readWalk_104 (by decide) ?_
          refine x_iload_n dX13_readWalk_45 rfl ?_
          refine x_if_eq 107 dX13_readWalk_46 (by decide) (fun h46 => ?_) (fun h46 => ?_)
          · have hk4 : ¬ kd T e (nx T e a) = 4 := of_decide_eq_false (bI_eq.mp h46)
            have r5 : RSt T e (.inr (nx T e a)) I5 L5 := by have := r5; unfold cat at this; rw [if_neg (fun z => by rw [bI_eq.mp h46] at z; cases z)] at this; exact this
            rw [if_neg hk4] at hrd2
            have hN5 := hP.2.2.wkf w5
            refine x_aload_n dX13_readWalk_107 rfl ?_
            refine g_M_read hr fX13_185 dX13_readWalk_108 ?_
            refine g_MB_walkSize fX13_370 dX13_readWalk_111 hbn ?_
            refine x_iload_n dX13_readWalk_114 rfl ?_
            refine x_iload_n dX13_readWalk_115 rfl ?_
            refine x_iast dX13_readWalk_116 rfl rfl hbn (by first | exact Nat.le_of_ble_eq_true rfl | assumption | omega) ?_
            refine x_aload_n dX13_readWalk_117 rfl ?_
            refine g_M_read hr fX13_185 dX13_readWalk_118 ?_
            refine x_dup dX13_readWalk_121 rfl ?_
            refine g_MB_walks fX13_375 dX13_readWalk_122 hbn ?_
            rw [xu_ns (by decide)]
            refine x_top (show I5 12 ri 9 = nI (s.1 0 8 0) from (congrFun w5.2.2.2.1 9).trans (y12_9 hP.2.1)) ?_
            refine x_iconst dX13_readWalk_125 li_1 ?_
            refine x_iaddN dX13_readWalk_126 ?_
            refine p_MB_walks fX13_375 dX13_readWalk_127 hbn ?_
            refine x_vret dX13_readWalk_130 rfl ?_
            have hfq : FQ ri I (xu (xu I5 76 ri t (nI (st.length + 1))) 12 ri 9 (nI (s.1 0 8 0 + 1))) L L5 := (w5.1.xu (by omega)).xu (by omega)
            refine ⟨rfl, _, _, rfl, hfq, (fun g z => by rw [hrd2] at z; cases z), fun s5 z => ?_⟩
            rw [hrd2] at z
            cases z
            refine ⟨YPS.st r5 (by funext y; rw [xu_ns (by decide), xu_ns (by decide)]) rfl, YB.walk (t := t) (st := st ++ [x]) (I' := (xu (xu I5 76 ri t (nI (st.length + 1))) 12 ri 9 (nI (s.1 0 8 0 + 1)))) ?_ (fun l hl2 => ?_) (fun j hj => ?_) (fun l hl2 => ?_) h13 hP.2.1 xu_s (fun k h1 h2 => ?_) (fun q h1 h2 g1 g2 => ?_), ?_⟩
            · rw [xu_ns (by decide), xu_s, List.length_append]; rfl
            · rw [xu_ns (by decide), xu_nk hl2, w5.2.2.1 76 (by decide) (by decide) (by decide)]
            · rw [xu_ns (by decide), xu_ns (by decide)]; exact hst5 j hj
            · rw [xu_ns (by decide), xu_ns (by decide)]; exact w5.2.1 l hl2
            · rw [xu_nk h1, xu_ns (by decide), w5.2.2.2.1]
            · funext y; rw [xu_ns (by omega), xu_ns g1, w5.2.2.1 q h1 (by omega) g2]
            · exact hN5.sm2 (by rw [xu_nk (by decide), xu_ns (by decide)]) (by funext y; rw [xu_ns (by decide), xu_ns (by decide)]) (by funext y; rw [xu_ns (by decide), xu_ns (by decide)]) rfl
          · have hk4 : kd T e (nx T e a) = 4 := of_decide_eq_true (bI_ne.mp h46)
            have r5 : RSt T e (.inr (nx T e (nx T e a))) I5 L5 := by have := r5; unfold cat at this; rw [if_pos (bI_ne.mp h46)] at this; exact this
            refine x_ls ?_ (ih (st ++ [x]) (nx T e (nx T e a)) I5 L5 (by rw [List.length_append]; show 5 - (st.length + 1) < n; omega) (by rw [List.length_append]; show st.length + 1 ≤ 5; omega) r5 w5 hst5 ?_)
            · rw [List.length_append]; exact ⟨rfl, rfl, rfl, trivial⟩
            · rw [hrd2, if_pos hk4, List.length_append]; rfl
        · refine x_vret dX13_readWalk_78 rfl ?_
          exact absurd h75 (by omega)
      · have h58 : st.length = 5 := h58
        have hq0 : rdLn T e s = .inl (5, tA T e a) := by rw [hrd, rwl_0 (by omega)]; show bnd (pKnown T e s.2.1 4 a) _ = _; rw [hp]; rfl
        refine x_aload_n dX13_readWalk_61 rfl ?_
        refine x_iconst dX13_readWalk_62 li_5 ?_
        refine x_cvv (m_flaw (d := d + 7) (f := 5) (c := .inr a) r2) kX13_146 dX13_readWalk_63 rfl (Nat.le_of_ble_eq_true rfl) rfl rfl (Nat.le_of_ble_eq_true rfl) (fun Mu hq => ?_)
        obtain ⟨I3, rfl, r3, f3⟩ := hq
        refine x_ls ?_ (mwk_bad (d := d) (g := (5, tA T e a)) r3 (w2.fr f3).1 hq0)
        exact ⟨rfl, trivial⟩
set_option maxRecDepth 100000 in
set_option maxHeartbeats 600000 in
theorem m_read_walk (hr : r = some ri) (hbn : ri < nb) (hT : YTp T e I) (hP : YPS T e s ri I L) (hW : PW s) (hZ : PZ s) (hl : lw T e s.2.2 = 9) (h99 : s.1 0 8 0 < 99) : Mt G vX13_readWalk (d + 8) (0, 0) [.ref (ad 13 0)] (MM ad nb b r I L) (qLn T e ad nb b r ri I L (rdLn T e s)) := by
  have hV := hW.1
  have v0 := hV.1
  have v1 := hV.2.1
  have v2 := hV.2.2.1
  have v3 := hV.2.2.2.1
  have v4 := hV.2.2.2.2.1
  have v7 := hV.2.2.2.2.2.2.2.1
  have v9 := hV.2.2.2.2.2.2.2.2.2.1
  have v10 := hV.2.2.2.2.2.2.2.2.2.2.1
  have hB := hP.2.1
  have hk1 := lw_kd (T := T) (e := e) (a := s.2.2) (by rw [hl]; decide)
  refine x_start (by decide) (Nat.le_of_ble_eq_true rfl) ?_
  refine x_aload_n dX13_readWalk_0 rfl ?_
  refine x_iconst dX13_readWalk_1 li_0 ?_
  refine x_iconst dX13_readWalk_2 li_1 ?_
  refine x_cvv (m_begins (d := d + 5) (x := 0) (y := 1) (w := s.1 0 0 0) hr hbn (by omega) (by omega) (y12_0 hB) (by omega) hT hP.1 (fun a z => by cases z; omega)) kX13_276 dX13_readWalk_3 rfl (Nat.le_of_ble_eq_true rfl) rfl rfl (Nat.le_of_ble_eq_true rfl) (fun Mu hq => ?_)
  obtain ⟨I1, L1, rfl, r1, f1⟩ := hq
  refine x_aload_n dX13_readWalk_6 rfl ?_
  refine x_iconst dX13_readWalk_7 li_4 ?_
  refine x_cvi (m_knownOne (d := d) (so := 7) hr hbn (by omega) r1 (hP.2.2.fr f1)) kX13_215 dX13_readWalk_8 rfl (Nat.le_of_ble_eq_true rfl) rfl rfl (Nat.le_of_ble_eq_true rfl) (fun ro Mu hq => ?_)
  obtain ⟨I3, L3, rfl, r3, f3, u3⟩ := hq
  have f3 := f1.tr f3
  refine x_istore_n dX13_readWalk_11 (by decide) rfl ?_
  cases hc3 : (csk (pKnown T e s.2.1 7) (cbg T e (decide (0 = 1)) (s.1 0 0 0) (.inr s.2.2))) with
  | inl g =>
    rw [hc3] at r3
    have hq0 : rdLn T e s = .inl g := by
      rw [rdLn_so (so := 8) (by decide) (by decide) hl]
      by_cases w0 : s.1 0 0 0 = 0
      · rw [if_pos w0]
        have hcc : (cbg T e (decide (0 = 1)) (s.1 0 0 0) (.inr s.2.2)) = .inl (6, tA T e s.2.2) := by unfold cbg; rw [if_pos w0]; rfl
        rw [hcc] at hc3
        cases hc3; rfl
      · rw [if_neg w0, if_neg (by show ¬ 99 ≤ _; omega)]
        rw [cbg_ok (by decide) w0] at hc3
        show bnd (pKnown T e s.2.1 7 (nx T e s.2.2)) _ = _
        exact lc_csk (q := pKnown T e s.2.1 7) (a := (nx T e s.2.2)) hc3
    refine x_aload_n dX13_readWalk_12 rfl ?_
    refine g_M_sort fX13_100 dX13_readWalk_13 ?_
    refine x_top (r3.2.1) ?_
    refine x_iconst dX13_readWalk_16 li_5 ?_
    refine x_icN_eq 37 dX13_readWalk_17 (by decide) (by omega) (by omega) (fun h17 => ?_) (fun h17 => absurd rfl h17)
    refine x_ls ?_ (mwk_over (d := d) hr hbn r3 f3 (hP.2.2.fr f3) hq0)
    exact ⟨rfl, trivial⟩
  | inr x =>
    rw [hc3] at r3
    obtain ⟨x2, hc1, e2⟩ := csk_inv hc3
    obtain ⟨-, hw0, ha1⟩ := cbg_inv hc1
    subst ha1
    have hro := u3 _ _ hc1 e2
    subst hro
    have hx2 := pKnown_lt (V := s.1) e2 hW.2.2
    have hB3 := hB.sm (I' := I3) (fun q hq => f3.1 q (by omega))
    have h13 := hV.2.2.2.2.2.2.2.2.2.2.2.2.2.2.2.2.2.2.2.2.1 x2
    have hm9 := mso_le _ (kd_le (T := T) (e := e) (a := (nx T e s.2.2)))
    have hrd : rdLn T e s = if s.1 13 x2 0 = 0 then rwl T e (s.1, s.2.1, nx T e s.2.2) x2 5 [] (nx T e (nx T e s.2.2)) else .inl (3, tA T e (nx T e s.2.2)) := by
      rw [rdLn_so (so := 8) (by decide) (by decide) hl, if_neg hw0, if_neg (by show ¬ 99 ≤ _; omega)]
      show bnd (pKnown T e s.2.1 7 (nx T e s.2.2)) _ = _
      rw [e2]
      rfl
    refine x_aload_n dX13_readWalk_12 rfl ?_
    refine g_M_sort fX13_100 dX13_readWalk_13 ?_
    refine x_top (r3.2.1.1.2.2) ?_
    refine x_iconst dX13_readWalk_16 li_5 ?_
    refine x_icN_eq 37 dX13_readWalk_17 (by decide) (by omega) (by omega) (fun h17 => ?_) (fun h17 => ?_)
    · exact absurd (show mso (kd T e (nx T e s.2.2)) = 5 from h17) (by omega)
    · refine x_aload_n dX13_readWalk_20 rfl ?_
      refine g_M_read hr fX13_185 dX13_readWalk_21 ?_
      refine g_MB_walkSize fX13_370 dX13_readWalk_24 hbn ?_
      refine x_iload_n dX13_readWalk_27 rfl ?_
      refine x_iald dX13_readWalk_28 rfl rfl hbn (by first | exact Nat.le_of_ble_eq_true rfl | assumption | omega) ?_
      refine x_top (y76 hB3 (by omega)) ?_
      refine x_ifN_le 37 dX13_readWalk_29 (by decide) (by omega) (fun h29 => ?_) (fun h29 => ?_)
      · rw [if_pos h29] at hrd
        refine x_aload_n dX13_readWalk_37 rfl ?_
        refine x_cvv (m_next (d := d + 6) (c := .inr (nx T e s.2.2)) (hT.fr f3) r3 (fun a z => by cases z; exact pKn_5 e2)) kX13_139 dX13_readWalk_38 rfl (Nat.le_of_ble_eq_true rfl) rfl rfl (Nat.le_of_ble_eq_true rfl) (fun Mu hq => ?_)
        obtain ⟨I4, L4, rfl, r4, f4⟩ := hq
        have f4 := f3.tr f4
        refine x_iconst dX13_readWalk_41 li_0 ?_
        refine x_istore_n dX13_readWalk_42 (by decide) rfl ?_
        refine x_iconst dX13_readWalk_43 li_1 ?_
        refine x_istore_n dX13_readWalk_44 (by decide) rfl ?_
        refine x_iload_n dX13_readWalk_45 rfl ?_
        refine x_ifN_eq 107 dX13_readWalk_46 (by decide) (by omega) (fun h46 => absurd h46 (by decide)) (fun h46 => ?_)
        refine x_ls ?_ (lp_mwalk (d := d) (by omega : x2 < 4) hr hbn hT hP hW hZ 6 [] _ I4 L4 (by decide) (by decide) r4 f4.wkf (fun j hj => absurd hj (Nat.not_lt_zero j)) hrd)
        exact ⟨rfl, rfl, rfl, trivial⟩
      · refine x_aload_n dX13_readWalk_32 rfl ?_
        refine x_iconst dX13_readWalk_33 li_3 ?_
        refine x_cvv (m_flaw (d := d + 7) (c := .inr (nx T e s.2.2)) r3) kX13_146 dX13_readWalk_34 rfl (Nat.le_of_ble_eq_true rfl) rfl rfl (Nat.le_of_ble_eq_true rfl) (fun Mu hq => ?_)
        obtain ⟨I4, rfl, r4, f4⟩ := hq
        have hq0 : rdLn T e s = .inl (3, tA T e (nx T e s.2.2)) := by rw [hrd, if_neg (by omega)]
        refine x_ls ?_ (mwk_over (d := d) (g := (3, tA T e (nx T e s.2.2))) hr hbn r4 (f3.tr f4) (hP.2.2.fr (f3.tr f4)) hq0)
        exact ⟨rfl, trivial⟩
end M46
