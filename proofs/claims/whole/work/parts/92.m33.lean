section M33
variable {G : xG} {ad : Nat → Nat → Nat} {nb : Nat} {b r : Option Nat} {L : Nat → Nat → Nat → Int64} {V : sV} {I : Nat → Nat → Nat → Int32} {d : Nat}

variable {T : Nat → Nat} {e a : Nat} {nm : List (Nat × Nat × Nat)} {ri : Nat} {c : cS}
/-- a step of the reading: what is found, and that it goes on behind it -/
def cst (T : Nat → Nat) (e : Nat) (q : Nat → pR) (c : cS) : cS := match c with
  | .inl g => .inl g
  | .inr a => match q a with
    | .inl f => .inl f
    | .inr _ => .inr (nx T e a)
/-- the same, without going on -/
def csk (q : Nat → pR) (c : cS) : cS := match c with
  | .inl g => .inl g
  | .inr a => match q a with
    | .inl f => .inl f
    | .inr _ => .inr a
theorem csk_cn {q : Nat → pR} : cn_ T e (csk q c) = cst T e q c := by
  cases c with
  | inl g => rfl
  | inr a =>
    show cn_ T e (match q a with
      | .inl f => .inl f
      | .inr _ => .inr a) = (match q a with
      | .inl f => .inl f
      | .inr _ => .inr (nx T e a))
    cases q a <;> rfl
theorem csk_f {q : Nat → pR} {f : Nat × Nat} (h : q a = .inl f) : csk q (.inr a) = .inl f := by show (match q a with | .inl f => _ | .inr _ => _) = _; rw [h]
theorem csk_r {q : Nat → pR} {n : Nat} (h : q a = .inr n) : csk q (.inr a) = .inr a := by show (match q a with | .inl f => _ | .inr _ => _) = _; rw [h]
theorem cst_f {q : Nat → pR} {f : Nat × Nat} (h : q a = .inl f) : cst T e q (.inr a) = .inl f := by show (match q a with | .inl f => _ | .inr _ => _) = _; rw [h]
theorem cst_r {q : Nat → pR} {n : Nat} (h : q a = .inr n) : cst T e q (.inr a) = .inr (nx T e a) := by show (match q a with | .inl f => _ | .inr _ => _) = _; rw [h]
theorem RSt.fr7 {g : Nat × Nat} {I' : Nat → Nat → Nat → Int32} {L' : Nat → Nat → Nat → Int64} (h : RSt T e (.inl g) I L) (hs : I' 13 = I 13) : RSt T e (.inl g) I' L' := by
  unfold RSt at h ⊢
  simp only [hs]
  exact h
theorem YNm.fr {I' : Nat → Nat → Nat → Int32} {L' : Nat → Nat → Nat → Int64} (h : YNm T e nm ri I L) (hf : FR I I' L L') : YNm T e nm ri I' L' := by
  unfold YNm at h ⊢
  rw [hf.1 12 (by decide), hf.1 82 (by decide), hf.1 83 (by decide), hf.2.2 81 (by decide)]
  exact h
theorem wn_le (hT2 : ∀ i, T i < 256) : wn T e a ≤ 3000 := by
  have h1 := hT2 (tA T e a)
  have h2 := hT2 (tA T e a + 1)
  unfold wn
  split <;> omega

set_option maxRecDepth 100000 in
set_option maxHeartbeats 600000 in
theorem mrw33 {lo hi : Nat} {g : Nat × Nat} {I1 : Nat → Nat → Nat → Int32} {L1 : Nat → Nat → Nat → Int64} (hR : RSt T e (.inl g) I1 L1) (hF : FR I I1 L L1) : X G vX13_readWhole (d + 2) (0, 0) 33 [(0, some (.ref (ad 13 0))), (1, some (.int (nI (lo)))), (2, some (.int (nI (hi))))] [] (MM ad nb b r I1 L1) (xT G (qI (fun rr M' => ∃ I' L', M' = MM ad nb b r I' L' ∧ RSt T e (.inl g) I' L' ∧ FR I I' L L'))) := by
  refine x_aload_n dX13_readWhole_33 rfl ?_
  refine g_M_sort fX13_100 dX13_readWhole_34 ?_
  refine x_top (hR.2.1) ?_
  refine x_iconst dX13_readWhole_37 li_5 ?_
  refine x_icN_ne 45 dX13_readWhole_38 (by decide) (by omega) (by omega) (fun h38 => absurd rfl h38) (fun h38 => ?_)
  refine x_iload_n dX13_readWhole_41 rfl ?_
  refine x_goto 49 dX13_readWhole_42 (by decide) ?_
  refine x_istore_n dX13_readWhole_49 (by decide) rfl ?_
  refine x_aload_n dX13_readWhole_50 rfl ?_
  refine x_cvv (m_goesOn' (d := d) hR.2.1) kX13_139 dX13_readWhole_51 rfl (Nat.le_of_ble_eq_true rfl) rfl rfl (Nat.le_of_ble_eq_true rfl) (fun Mu hq => ?_)
  subst hq
  refine x_iload_n dX13_readWhole_54 rfl ?_
  refine x_iret dX13_readWhole_55 rfl ?_
  exact ⟨_, rfl, _, _, rfl, hR, hF⟩
set_option maxRecDepth 100000 in
set_option maxHeartbeats 600000 in
theorem m_rw_o {lo hi : Nat} {g : Nat × Nat} (hR : RSt T e (.inl g) I L) : Mt G vX13_readWhole (d + 2) (0, 0) [.ref (ad 13 0), .int (nI (lo)), .int (nI (hi))] (MM ad nb b r I L) (qI (fun rr M' => ∃ I' L', M' = MM ad nb b r I' L' ∧ RSt T e (.inl g) I' L' ∧ FR I I' L L')) := by
  refine x_start (by decide) (Nat.le_of_ble_eq_true rfl) ?_
  refine x_aload_n dX13_readWhole_0 rfl ?_
  refine g_M_sort fX13_100 dX13_readWhole_1 ?_
  refine x_top (hR.2.1) ?_
  refine x_iconst dX13_readWhole_4 li_3 ?_
  refine x_icN_eq 16 dX13_readWhole_5 (by decide) (by omega) (by omega) (fun h5 => absurd h5 (by omega)) (fun h5 => ?_)
  refine x_aload_n dX13_readWhole_8 rfl ?_
  refine x_iconst dX13_readWhole_9 li_1 ?_
  refine x_cvv (m_flaw (d := d + 1) hR) kX13_146 dX13_readWhole_10 rfl (Nat.le_of_ble_eq_true rfl) rfl rfl (Nat.le_of_ble_eq_true rfl) (fun Mu hq => ?_)
  obtain ⟨I1, rfl, r1, f1⟩ := hq
  refine x_goto 33 dX13_readWhole_13 (by decide) ?_
  refine x_ls ?_ (mrw33 (lo := lo) (hi := hi) (g := g) r1 f1)
  exact ⟨rfl, rfl, rfl, trivial⟩
set_option maxRecDepth 100000 in
set_option maxHeartbeats 600000 in
theorem m_rw_k {lo hi : Nat} (hlo : lo ≤ 99) (hhi : hi ≤ 99) (hT : YTp T e I) (hR : RSt T e (.inr a) I L) : Mt G vX13_readWhole (d + 2) (0, 0) [.ref (ad 13 0), .int (nI (lo)), .int (nI (hi))] (MM ad nb b r I L) (qI (fun rr M' => ∃ I' L', M' = MM ad nb b r I' L' ∧ RSt T e (cst T e (pWhole T e lo hi) (.inr a)) I' L' ∧ FR I I' L L' ∧ ∀ a2 x, (.inr a : cS) = .inr a2 → pWhole T e lo hi a2 = .inr x → rr = nI x)) := by
  have hkl := kd_le (T := T) (e := e) (a := a)
  have hm := mso_le _ hkl
  have h3 := mso_3 _ hkl
  have hwl := wn_le (T := T) (e := e) (a := a) hT.2.2
  refine x_start (by decide) (Nat.le_of_ble_eq_true rfl) ?_
  refine x_aload_n dX13_readWhole_0 rfl ?_
  refine g_M_sort fX13_100 dX13_readWhole_1 ?_
  refine x_top (hR.2.1.1.2.2) ?_
  refine x_iconst dX13_readWhole_4 li_3 ?_
  refine x_icN_eq 16 dX13_readWhole_5 (by decide) (by omega) (by omega) (fun h5 => ?_) (fun h5 => ?_)
  · have hk2 := h3.mp h5
    refine x_aload_n dX13_readWhole_16 rfl ?_
    refine g_M_number fX13_126 dX13_readWhole_17 ?_
    rw [hR.2.1.2.2.2.1 (h3.mp h5)]
    refine x_iload_n dX13_readWhole_20 rfl ?_
    refine x_iload_n dX13_readWhole_21 rfl ?_
    refine x_csi (m_in (d := d + 1)) kX13_150 dX13_readWhole_22 rfl rfl (Nat.le_of_ble_eq_true rfl) (fun ru Mu hq => ?_)
    obtain ⟨rfl, rfl⟩ := hq
    refine x_if_ne 33 dX13_readWhole_25 (by decide) (fun h25 => ?_) (fun h25 => ?_)
    · have hp : pWhole T e lo hi a = .inr (wn T e a) := by unfold pWhole; rw [if_pos hk2, if_pos (by have hb := bI_ne.mp h25; rw [wth_nI (by omega) (by omega) (by omega)] at hb; exact of_decide_eq_true hb)]
      have hp : pWhole T e lo hi a = .inr (wn T e a) := by unfold pWhole; rw [if_pos hk2, if_pos (by have hb := bI_ne.mp h25; rw [wth_nI (by omega) (by omega) (by omega)] at hb; exact of_decide_eq_true hb)]
      refine x_aload_n dX13_readWhole_33 rfl ?_
      refine g_M_sort fX13_100 dX13_readWhole_34 ?_
      refine x_top (hR.2.1.1.2.2) ?_
      refine x_iconst dX13_readWhole_37 li_5 ?_
      refine x_icN_ne 45 dX13_readWhole_38 (by decide) (by omega) (by omega) (fun h38 => ?_) (fun h38 => absurd h38 (by omega))
      refine x_aload_n dX13_readWhole_45 rfl ?_
      refine g_M_number fX13_126 dX13_readWhole_46 ?_
      rw [hR.2.1.2.2.2.1 hk2]
      refine x_istore_n dX13_readWhole_49 (by decide) rfl ?_
      refine x_aload_n dX13_readWhole_50 rfl ?_
      refine x_cvv (m_next (d := d) hT hR (fun a2 z => by cases z; omega)) kX13_139 dX13_readWhole_51 rfl (Nat.le_of_ble_eq_true rfl) rfl rfl (Nat.le_of_ble_eq_true rfl) (fun Mu hq => ?_)
      obtain ⟨I2, L2, rfl, r2, f2⟩ := hq
      refine x_iload_n dX13_readWhole_54 rfl ?_
      refine x_iret dX13_readWhole_55 rfl ?_
      refine ⟨_, rfl, _, _, rfl, by rw [cst_r hp]; exact r2, f2, fun a2 x z1 z2 => ?_⟩
      cases z1
      rw [hp] at z2
      cases z2
      rfl
    · have hp : pWhole T e lo hi a = .inl (4, tA T e a) := by unfold pWhole; rw [if_pos hk2, if_neg (fun z => by have hb := bI_eq.mp h25; rw [wth_nI (by omega) (by omega) (by omega), decide_eq_true z] at hb; exact absurd hb (by decide))]
      refine x_aload_n dX13_readWhole_28 rfl ?_
      refine x_iconst dX13_readWhole_29 li_4 ?_
      refine x_cvv (m_flaw (d := d + 1) hR) kX13_146 dX13_readWhole_30 rfl (Nat.le_of_ble_eq_true rfl) rfl rfl (Nat.le_of_ble_eq_true rfl) (fun Mu hq => ?_)
      obtain ⟨I1, rfl, r1, f1⟩ := hq
      refine x_wk (x_ls ?_ (mrw33 (lo := lo) (hi := hi) (g := _) r1 f1)) (fun v M2 hv => by obtain ⟨rr, e1, I2, L2, e2, h3, h4⟩ := hv; exact ⟨rr, e1, I2, L2, e2, by rw [cst_f hp]; exact h3, h4, fun a2 x z1 z2 => by cases z1; rw [hp] at z2; cases z2⟩)
      exact ⟨rfl, rfl, rfl, trivial⟩
  · have hp : pWhole T e lo hi a = .inl (1, tA T e a) := by unfold pWhole; rw [if_neg (fun z => h5 (h3.mpr z))]
    refine x_aload_n dX13_readWhole_8 rfl ?_
    refine x_iconst dX13_readWhole_9 li_1 ?_
    refine x_cvv (m_flaw (d := d + 1) hR) kX13_146 dX13_readWhole_10 rfl (Nat.le_of_ble_eq_true rfl) rfl rfl (Nat.le_of_ble_eq_true rfl) (fun Mu hq => ?_)
    obtain ⟨I1, rfl, r1, f1⟩ := hq
    refine x_goto 33 dX13_readWhole_13 (by decide) ?_
    refine x_wk (x_ls ?_ (mrw33 (lo := lo) (hi := hi) (g := _) r1 f1)) (fun v M2 hv => by obtain ⟨rr, e1, I2, L2, e2, h3, h4⟩ := hv; exact ⟨rr, e1, I2, L2, e2, by rw [cst_f hp]; exact h3, h4, fun a2 x z1 z2 => by cases z1; rw [hp] at z2; cases z2⟩)
    exact ⟨rfl, rfl, rfl, trivial⟩
theorem m_readWhole {lo hi : Nat} (hlo : lo ≤ 99) (hhi : hi ≤ 99) (hT : YTp T e I) (hR : RSt T e c I L) : Mt G vX13_readWhole (d + 2) (0, 0) [.ref (ad 13 0), .int (nI lo), .int (nI hi)] (MM ad nb b r I L) (qI (fun rr M' => ∃ I' L', M' = MM ad nb b r I' L' ∧ RSt T e (cst T e (pWhole T e lo hi) c) I' L' ∧ FR I I' L L' ∧ ∀ a x, c = .inr a → pWhole T e lo hi a = .inr x → rr = nI x)) := by
  cases c with
  | inl g => exact (m_rw_o hR).wk (fun v M' h => by obtain ⟨rr, e1, I2, L2, e2, h3, h4⟩ := h; exact ⟨rr, e1, I2, L2, e2, h3, h4, fun a x z => nomatch z⟩)
  | inr a => exact m_rw_k hlo hhi hT hR
def cpt (T : Nat → Nat) (e i lo hi : Nat) (c : cS) : cS := cst T e (pWhole T e lo hi) (cneed T e i c)
set_option maxRecDepth 100000 in
set_option maxHeartbeats 600000 in
theorem m_readPart {i lo hi : Nat} (h12 : 12 ≤ i) (hi41 : i < 41) (hlo : lo ≤ 99) (hhi : hi ≤ 99) (hT : YTp T e I) (hR : RSt T e c I L) : Mt G vX13_readPart (d + 7) (0, 0) [.ref (ad 13 0), .ref (G.2.2.1 i), .int (nI (lo)), .int (nI (hi))] (MM ad nb b r I L) (qI (fun rr M' => ∃ I' L', M' = MM ad nb b r I' L' ∧ RSt T e (cpt T e i lo hi c) I' L' ∧ FR I I' L L' ∧ ∀ a x, cneed T e i c = .inr a → pWhole T e lo hi a = .inr x → rr = nI x)) := by
  refine x_start (by decide) (Nat.le_of_ble_eq_true rfl) ?_
  refine x_aload_n dX13_readPart_0 rfl ?_
  refine x_aload_n dX13_readPart_1 rfl ?_
  refine x_cvv (m_needs (d := d) h12 hi41 hT hR) kX13_154 dX13_readPart_2 rfl (Nat.le_of_ble_eq_true rfl) rfl rfl (Nat.le_of_ble_eq_true rfl) (fun Mu hq => ?_)
  obtain ⟨I1, L1, rfl, r1, f1⟩ := hq
  refine x_aload_n dX13_readPart_5 rfl ?_
  refine x_iload_n dX13_readPart_6 rfl ?_
  refine x_iload_n dX13_readPart_7 rfl ?_
  refine x_cvi (m_readWhole (d := d + 4) hlo hhi (hT.fr f1) r1) kX13_158 dX13_readPart_8 rfl (Nat.le_of_ble_eq_true rfl) rfl rfl (Nat.le_of_ble_eq_true rfl) (fun ru Mu hq => ?_)
  obtain ⟨I2, L2, rfl, r2, f2, v2⟩ := hq
  refine x_iret dX13_readPart_11 rfl ?_
  exact ⟨_, rfl, _, _, rfl, r2, f1.tr f2, v2⟩
set_option maxRecDepth 100000 in
set_option maxHeartbeats 600000 in
theorem mko12 (hr : r = some ri) (hbn : ri < nb) {so : Nat} (hso : so = 1 ∨ so = 2 ∨ so = 3 ∨ so = 4 ∨ so = 7) {g : Nat × Nat} {I1 : Nat → Nat → Nat → Int32} {L1 : Nat → Nat → Nat → Int64} (hR : RSt T e (.inl g) I1 L1) (hN : YNm T e nm ri I1 L1) (hF : FR I I1 L L1) : X G vX13_knownOne (d + 2) (0, 0) 12 [(0, some (.ref (ad 13 0))), (1, some (.int (nI (srt so))))] [] (MM ad nb b r I1 L1) (xT G (qI (fun rr M' => ∃ I' L', M' = MM ad nb b r I' L' ∧ RSt T e (.inl g) I' L' ∧ FR I I' L L'))) := by
  have hl := hN.2.1
  have hss : srt so ≤ 4 := by unfold srt; split <;> omega
  refine x_aload_n dX13_knownOne_12 rfl ?_
  refine g_M_read hr fX13_185 dX13_knownOne_13 ?_
  refine x_aload_n dX13_knownOne_16 rfl ?_
  refine g_M_word fX13_119 dX13_knownOne_17 ?_
  refine x_cvi (m_find (d := d + 1) hbn hN) kX13_198 dX13_knownOne_20 rfl hbn rfl rfl (Nat.le_of_ble_eq_true rfl) (fun ru Mu hq => ?_)
  obtain ⟨rfl, rfl⟩ := hq
  refine x_istore_n dX13_knownOne_23 (by decide) rfl ?_
  refine x_iload_n dX13_knownOne_24 rfl ?_
  refine x_iconst dX13_knownOne_25 li_m1 ?_
  refine x_ic_eq 42 dX13_knownOne_26 (by decide) (fun h26 => ?_) (fun h26 => ?_)
  · refine x_aload_n dX13_knownOne_42 rfl ?_
    refine x_iconst dX13_knownOne_43 li_2 ?_
    refine x_cvv (m_flaw (d := d + 1) hR) kX13_146 dX13_knownOne_44 rfl (Nat.le_of_ble_eq_true rfl) rfl rfl (Nat.le_of_ble_eq_true rfl) (fun Mu hq => ?_)
    obtain ⟨I2, rfl, r2, f2⟩ := hq
    refine x_aload_n dX13_knownOne_47 rfl ?_
    refine g_M_sort fX13_100 dX13_knownOne_48 ?_
    first
      | refine x_top (show I2 13 0 9 = nI 5 from r2.2.1) ?_
      | refine x_top (show I1 13 0 9 = nI 5 from hR.2.1) ?_
    refine x_iconst dX13_knownOne_51 li_5 ?_
    refine x_icN_ne 59 dX13_knownOne_52 (by decide) (by omega) (by omega) (fun h52 => absurd rfl h52) (fun h52 => ?_)
    refine x_iconst dX13_knownOne_55 li_0 ?_
    refine x_goto 68 dX13_knownOne_56 (by decide) ?_
    refine x_iret dX13_knownOne_68 rfl ?_
    first
      | exact ⟨_, rfl, _, _, rfl, r2, hF.tr f2⟩
      | exact ⟨_, rfl, _, _, rfl, hR, hF⟩
  · have hlt : fnd T e nm (L1 13 0 15) < nm.length := Classical.byContradiction fun y => h26 (if_neg y)
    rw [if_pos hlt]
    obtain ⟨-, q82, q83, q6, qs⟩ := hN.2.2 _ _ (nm_at hlt)
    have hsq : srt (nm.getD (fnd T e nm (L1 13 0 15)) (0, 0, 0)).2.1 ≤ 4 := by unfold srt; split <;> omega
    refine x_aload_n dX13_knownOne_29 rfl ?_
    refine g_M_read hr fX13_185 dX13_knownOne_30 ?_
    refine g_MB_nameSort fX13_209 dX13_knownOne_33 hbn ?_
    refine x_iload_n dX13_knownOne_36 rfl ?_
    refine x_iald dX13_knownOne_37 rfl rfl hbn (by first | exact Nat.le_of_ble_eq_true rfl | assumption | omega) ?_
    rw [q82]
    refine x_iload_n dX13_knownOne_38 rfl ?_
    refine x_icN_eq 47 dX13_knownOne_39 (by decide) (by omega) (by omega) (fun h39 => ?_) (fun h39 => ?_)
    · refine x_aload_n dX13_knownOne_47 rfl ?_
      refine g_M_sort fX13_100 dX13_knownOne_48 ?_
      first
        | refine x_top (show I2 13 0 9 = nI 5 from r2.2.1) ?_
        | refine x_top (show I1 13 0 9 = nI 5 from hR.2.1) ?_
      refine x_iconst dX13_knownOne_51 li_5 ?_
      refine x_icN_ne 59 dX13_knownOne_52 (by decide) (by omega) (by omega) (fun h52 => absurd rfl h52) (fun h52 => ?_)
      refine x_iconst dX13_knownOne_55 li_0 ?_
      refine x_goto 68 dX13_knownOne_56 (by decide) ?_
      refine x_iret dX13_knownOne_68 rfl ?_
      first
        | exact ⟨_, rfl, _, _, rfl, r2, hF.tr f2⟩
        | exact ⟨_, rfl, _, _, rfl, hR, hF⟩
    · refine x_aload_n dX13_knownOne_42 rfl ?_
      refine x_iconst dX13_knownOne_43 li_2 ?_
      refine x_cvv (m_flaw (d := d + 1) hR) kX13_146 dX13_knownOne_44 rfl (Nat.le_of_ble_eq_true rfl) rfl rfl (Nat.le_of_ble_eq_true rfl) (fun Mu hq => ?_)
      obtain ⟨I2, rfl, r2, f2⟩ := hq
      refine x_aload_n dX13_knownOne_47 rfl ?_
      refine g_M_sort fX13_100 dX13_knownOne_48 ?_
      first
        | refine x_top (show I2 13 0 9 = nI 5 from r2.2.1) ?_
        | refine x_top (show I1 13 0 9 = nI 5 from hR.2.1) ?_
      refine x_iconst dX13_knownOne_51 li_5 ?_
      refine x_icN_ne 59 dX13_knownOne_52 (by decide) (by omega) (by omega) (fun h52 => absurd rfl h52) (fun h52 => ?_)
      refine x_iconst dX13_knownOne_55 li_0 ?_
      refine x_goto 68 dX13_knownOne_56 (by decide) ?_
      refine x_iret dX13_knownOne_68 rfl ?_
      first
        | exact ⟨_, rfl, _, _, rfl, r2, hF.tr f2⟩
        | exact ⟨_, rfl, _, _, rfl, hR, hF⟩
end M33
