section M34
variable {G : xG} {ad : Nat → Nat → Nat} {nb : Nat} {b r : Option Nat} {L : Nat → Nat → Nat → Int64} {V : sV} {I : Nat → Nat → Nat → Int32} {d : Nat}

variable {T : Nat → Nat} {e a : Nat} {nm : List (Nat × Nat × Nat)} {ri : Nat} {c : cS}
theorem fnd_nm : fnd T e nm (vl T e a) = nmA T e nm a := rfl
theorem srt_in {x y : Nat} (hx : x = 1 ∨ x = 2 ∨ x = 3 ∨ x = 4 ∨ x = 7) (hy : y = 1 ∨ y = 2 ∨ y = 3 ∨ y = 4 ∨ y = 7) : srt x = srt y ↔ x = y := by
  rcases hx with rfl | rfl | rfl | rfl | rfl <;> rcases hy with rfl | rfl | rfl | rfl | rfl <;> decide
theorem isN_1 (h : isN T e a = true) : kd T e a = 1 := by
  unfold isN at h
  exact of_decide_eq_true (Bool.and_eq_true_iff.mp h).1

set_option maxRecDepth 100000 in
set_option maxHeartbeats 600000 in
theorem m_ko_o (hr : r = some ri) (hbn : ri < nb) {so : Nat} (hso : so = 1 ∨ so = 2 ∨ so = 3 ∨ so = 4 ∨ so = 7) {g : Nat × Nat} (hR : RSt T e (.inl g) I L) (hN : YNm T e nm ri I L) : Mt G vX13_knownOne (d + 7) (0, 0) [.ref (ad 13 0), .int (nI (srt so))] (MM ad nb b r I L) (qI (fun rr M' => ∃ I' L', M' = MM ad nb b r I' L' ∧ RSt T e (.inl g) I' L' ∧ FR I I' L L')) := by
  refine x_start (by decide) (Nat.le_of_ble_eq_true rfl) ?_
  refine x_aload_n dX13_knownOne_0 rfl ?_
  refine x_cvi (m_isName_o (d := d) hR) kX13_194 dX13_knownOne_1 rfl (Nat.le_of_ble_eq_true rfl) rfl rfl (Nat.le_of_ble_eq_true rfl) (fun ru Mu hq => ?_)
  obtain ⟨rfl, rfl⟩ := hq
  refine x_ifN_ne 12 dX13_knownOne_4 (by decide) (by omega) (fun h4 => absurd h4 (by omega)) (fun h4 => ?_)
  refine x_aload_n dX13_knownOne_7 rfl ?_
  refine x_iconst dX13_knownOne_8 li_1 ?_
  refine x_cvv (m_flaw (d := d + 6) hR) kX13_146 dX13_knownOne_9 rfl (Nat.le_of_ble_eq_true rfl) rfl rfl (Nat.le_of_ble_eq_true rfl) (fun Mu hq => ?_)
  obtain ⟨I1, rfl, r1, f1⟩ := hq
  refine x_ls ?_ (mko12 (d := d + 5) (so := so) (g := g) hr hbn hso r1 (hN.fr f1) f1)
  exact ⟨rfl, rfl, trivial⟩
set_option maxRecDepth 100000 in
set_option maxHeartbeats 600000 in
theorem m_ko_k (hr : r = some ri) (hbn : ri < nb) {so : Nat} (hso : so = 1 ∨ so = 2 ∨ so = 3 ∨ so = 4 ∨ so = 7) (hR : RSt T e (.inr a) I L) (hN : YNm T e nm ri I L) : Mt G vX13_knownOne (d + 7) (0, 0) [.ref (ad 13 0), .int (nI (srt so))] (MM ad nb b r I L) (qI (fun rr M' => ∃ I' L', M' = MM ad nb b r I' L' ∧ RSt T e (csk (pKnown T e nm so) (.inr a)) I' L' ∧ FR I I' L L' ∧ ∀ a2 n, (.inr a : cS) = .inr a2 → pKnown T e nm so a2 = .inr n → rr = nI n)) := by
  have hl := hN.2.1
  have hkl := kd_le (T := T) (e := e) (a := a)
  have hm := mso_le _ hkl
  have hss : srt so ≤ 4 := by unfold srt; split <;> omega
  refine x_start (by decide) (Nat.le_of_ble_eq_true rfl) ?_
  refine x_aload_n dX13_knownOne_0 rfl ?_
  refine x_cvi (m_isName_k (d := d) hR) kX13_194 dX13_knownOne_1 rfl (Nat.le_of_ble_eq_true rfl) rfl rfl (Nat.le_of_ble_eq_true rfl) (fun ru Mu hq => ?_)
  obtain ⟨rfl, rfl⟩ := hq
  refine x_if_ne 12 dX13_knownOne_4 (by decide) (fun h4 => ?_) (fun h4 => ?_)
  · have hnn := bI_ne.mp h4
    have hk1 := isN_1 hnn
    refine x_aload_n dX13_knownOne_12 rfl ?_
    refine g_M_read hr fX13_185 dX13_knownOne_13 ?_
    refine x_aload_n dX13_knownOne_16 rfl ?_
    refine g_M_word fX13_119 dX13_knownOne_17 ?_
    rw [hR.2.1.2.2.1 hk1]
    refine x_cvi (m_find (d := d + 6) (v := vl T e a) hbn hN) kX13_198 dX13_knownOne_20 rfl hbn rfl rfl (Nat.le_of_ble_eq_true rfl) (fun ru Mu hq => ?_)
    obtain ⟨rfl, rfl⟩ := hq
    rw [fnd_nm]
    refine x_istore_n dX13_knownOne_23 (by decide) rfl ?_
    refine x_iload_n dX13_knownOne_24 rfl ?_
    refine x_iconst dX13_knownOne_25 li_m1 ?_
    refine x_ic_eq 42 dX13_knownOne_26 (by decide) (fun h26 => ?_) (fun h26 => ?_)
    · have hnl : ¬ nmA T e nm a < nm.length := fun y => by rw [if_pos y] at h26; exact absurd h26 (nI_ne_m1 (by omega))
      have hp : pKnown T e nm so a = .inl (2, tA T e a) := by unfold pKnown; rw [if_pos hnn, if_neg (fun z => hnl z.1)]
      refine x_aload_n dX13_knownOne_42 rfl ?_
      refine x_iconst dX13_knownOne_43 li_2 ?_
      refine x_cvv (m_flaw (d := d + 6) hR) kX13_146 dX13_knownOne_44 rfl (Nat.le_of_ble_eq_true rfl) rfl rfl (Nat.le_of_ble_eq_true rfl) (fun Mu hq => ?_)
      obtain ⟨I2, rfl, r2, f2⟩ := hq
      refine x_aload_n dX13_knownOne_47 rfl ?_
      refine g_M_sort fX13_100 dX13_knownOne_48 ?_
      refine x_top (show I2 13 0 9 = nI 5 from r2.2.1) ?_
      refine x_iconst dX13_knownOne_51 li_5 ?_
      refine x_icN_ne 59 dX13_knownOne_52 (by decide) (by omega) (by omega) (fun h52 => absurd rfl h52) (fun h52 => ?_)
      refine x_iconst dX13_knownOne_55 li_0 ?_
      refine x_goto 68 dX13_knownOne_56 (by decide) ?_
      refine x_iret dX13_knownOne_68 rfl ?_
      first
        | (refine ⟨_, rfl, _, _, rfl, by rw [csk_f hp]; exact r2, f2, fun a2 x z1 z2 => ?_⟩
           cases z1
           rw [hp] at z2
           cases z2)
        | (refine ⟨_, rfl, _, _, rfl, by rw [csk_r hp]; exact hR, FR.rf, fun a2 x z1 z2 => ?_⟩
           cases z1
           rw [hp] at z2
           cases z2
           first | exact q83 | omega)
    · have hlt : nmA T e nm a < nm.length := Classical.byContradiction fun y => h26 (if_neg y)
      rw [if_pos hlt]
      obtain ⟨-, q82, q83, q6, qs⟩ := hN.2.2 _ _ (nm_at hlt)
      have hsq : srt (nm.getD (nmA T e nm a) (0, 0, 0)).2.1 ≤ 4 := by unfold srt; split <;> omega
      refine x_aload_n dX13_knownOne_29 rfl ?_
      refine g_M_read hr fX13_185 dX13_knownOne_30 ?_
      refine g_MB_nameSort fX13_209 dX13_knownOne_33 hbn ?_
      refine x_iload_n dX13_knownOne_36 rfl ?_
      refine x_iald dX13_knownOne_37 rfl rfl hbn (by first | exact Nat.le_of_ble_eq_true rfl | assumption | omega) ?_
      rw [q82]
      refine x_iload_n dX13_knownOne_38 rfl ?_
      refine x_icN_eq 47 dX13_knownOne_39 (by decide) (by omega) (by omega) (fun h39 => ?_) (fun h39 => ?_)
      · have hp : pKnown T e nm so a = .inr (nm.getD (nmA T e nm a) (0, 0, 0)).2.2 := by unfold pKnown; rw [if_pos hnn, if_pos ⟨hlt, (srt_in qs hso).mp h39⟩]
        have hp : pKnown T e nm so a = .inr (nm.getD (nmA T e nm a) (0, 0, 0)).2.2 := by unfold pKnown; rw [if_pos hnn, if_pos ⟨hlt, (srt_in qs hso).mp h39⟩]
        refine x_aload_n dX13_knownOne_47 rfl ?_
        refine g_M_sort fX13_100 dX13_knownOne_48 ?_
        refine x_top (hR.2.1.1.2.2) ?_
        refine x_iconst dX13_knownOne_51 li_5 ?_
        refine x_icN_ne 59 dX13_knownOne_52 (by decide) (by omega) (by omega) (fun h52 => ?_) (fun h52 => absurd h52 (by omega))
        refine x_aload_n dX13_knownOne_59 rfl ?_
        refine g_M_read hr fX13_185 dX13_knownOne_60 ?_
        refine g_MB_numberOf fX13_212 dX13_knownOne_63 hbn ?_
        refine x_iload_n dX13_knownOne_66 rfl ?_
        refine x_iald dX13_knownOne_67 rfl rfl hbn (by first | exact Nat.le_of_ble_eq_true rfl | assumption | omega) ?_
        refine x_iret dX13_knownOne_68 rfl ?_
        refine ⟨_, rfl, _, _, rfl, by rw [csk_r hp]; exact hR, FR.rf, fun a2 x z1 z2 => ?_⟩
        cases z1
        rw [hp] at z2
        cases z2
        exact q83
      · have hp : pKnown T e nm so a = .inl (2, tA T e a) := by unfold pKnown; rw [if_pos hnn, if_neg (fun z => h39 ((srt_in qs hso).mpr z.2))]
        refine x_aload_n dX13_knownOne_42 rfl ?_
        refine x_iconst dX13_knownOne_43 li_2 ?_
        refine x_cvv (m_flaw (d := d + 6) hR) kX13_146 dX13_knownOne_44 rfl (Nat.le_of_ble_eq_true rfl) rfl rfl (Nat.le_of_ble_eq_true rfl) (fun Mu hq => ?_)
        obtain ⟨I2, rfl, r2, f2⟩ := hq
        refine x_aload_n dX13_knownOne_47 rfl ?_
        refine g_M_sort fX13_100 dX13_knownOne_48 ?_
        refine x_top (show I2 13 0 9 = nI 5 from r2.2.1) ?_
        refine x_iconst dX13_knownOne_51 li_5 ?_
        refine x_icN_ne 59 dX13_knownOne_52 (by decide) (by omega) (by omega) (fun h52 => absurd rfl h52) (fun h52 => ?_)
        refine x_iconst dX13_knownOne_55 li_0 ?_
        refine x_goto 68 dX13_knownOne_56 (by decide) ?_
        refine x_iret dX13_knownOne_68 rfl ?_
        first
          | (refine ⟨_, rfl, _, _, rfl, by rw [csk_f hp]; exact r2, f2, fun a2 x z1 z2 => ?_⟩
             cases z1
             rw [hp] at z2
             cases z2)
          | (refine ⟨_, rfl, _, _, rfl, by rw [csk_r hp]; exact hR, FR.rf, fun a2 x z1 z2 => ?_⟩
             cases z1
             rw [hp] at z2
             cases z2
             first | exact q83 | omega)
  · have hnn := bI_eq.mp h4
    have hp : pKnown T e nm so a = .inl (1, tA T e a) := by unfold pKnown; rw [if_neg (by rw [hnn]; decide)]
    have hnn := bI_eq.mp h4
    have hp : pKnown T e nm so a = .inl (1, tA T e a) := by unfold pKnown; rw [if_neg (by rw [hnn]; decide)]
    refine x_aload_n dX13_knownOne_7 rfl ?_
    refine x_iconst dX13_knownOne_8 li_1 ?_
    refine x_cvv (m_flaw (d := d + 6) hR) kX13_146 dX13_knownOne_9 rfl (Nat.le_of_ble_eq_true rfl) rfl rfl (Nat.le_of_ble_eq_true rfl) (fun Mu hq => ?_)
    obtain ⟨I1, rfl, r1, f1⟩ := hq
    refine x_wk (x_ls ?_ (mko12 (d := d + 5) (so := so) (g := (1, tA T e a)) hr hbn hso r1 (hN.fr f1) f1)) (fun v M2 hv => by obtain ⟨rr, e1, I2, L2, e2, h3, h4⟩ := hv; exact ⟨rr, e1, I2, L2, e2, by rw [csk_f hp]; exact h3, h4, fun a2 x z1 z2 => by cases z1; rw [hp] at z2; cases z2⟩)
    exact ⟨rfl, rfl, trivial⟩
theorem m_knownOne (hr : r = some ri) (hbn : ri < nb) {so : Nat} (hso : so = 1 ∨ so = 2 ∨ so = 3 ∨ so = 4 ∨ so = 7) (hR : RSt T e c I L) (hN : YNm T e nm ri I L) : Mt G vX13_knownOne (d + 7) (0, 0) [.ref (ad 13 0), .int (nI (srt so))] (MM ad nb b r I L) (qI (fun rr M' => ∃ I' L', M' = MM ad nb b r I' L' ∧ RSt T e (csk (pKnown T e nm so) c) I' L' ∧ FR I I' L L' ∧ ∀ a n, c = .inr a → pKnown T e nm so a = .inr n → rr = nI n)) := by
  cases c with
  | inl g => exact (m_ko_o hr hbn hso hR hN).wk (fun v M' h => by obtain ⟨rr, e1, I2, L2, e2, h3, h4⟩ := h; exact ⟨rr, e1, I2, L2, e2, h3, h4, fun a x z => nomatch z⟩)
  | inr a => exact m_ko_k hr hbn hso hR hN

theorem csk_5 {so : Nat} {a2 : Nat} (h : csk (pKnown T e nm so) c = .inr a2) : kd T e a2 ≠ 5 := by
  cases c with
  | inl g => cases h
  | inr a =>
    cases hp : pKnown T e nm so a with
    | inl f => rw [csk_f hp] at h; cases h
    | inr n =>
      rw [csk_r hp] at h
      cases h
      unfold pKnown at hp
      split at hp
      · rename_i h1
        have := isN_1 h1
        omega
      · cases hp

set_option maxRecDepth 100000 in
set_option maxHeartbeats 600000 in
theorem m_readKnown (hr : r = some ri) (hbn : ri < nb) {so : Nat} (hso : so = 1 ∨ so = 2 ∨ so = 3 ∨ so = 4 ∨ so = 7) (hT : YTp T e I) (hR : RSt T e c I L) (hN : YNm T e nm ri I L) : Mt G vX13_readKnown (d + 8) (0, 0) [.ref (ad 13 0), .int (nI (srt so))] (MM ad nb b r I L) (qI (fun rr M' => ∃ I' L', M' = MM ad nb b r I' L' ∧ RSt T e (cst T e (pKnown T e nm so) c) I' L' ∧ FR I I' L L' ∧ ∀ a n, c = .inr a → pKnown T e nm so a = .inr n → rr = nI n)) := by
  refine x_start (by decide) (Nat.le_of_ble_eq_true rfl) ?_
  refine x_aload_n dX13_readKnown_0 rfl ?_
  refine x_iload_n dX13_readKnown_1 rfl ?_
  refine x_cvi (m_knownOne (d := d) hr hbn hso hR hN) kX13_215 dX13_readKnown_2 rfl (Nat.le_of_ble_eq_true rfl) rfl rfl (Nat.le_of_ble_eq_true rfl) (fun ru Mu hq => ?_)
  obtain ⟨I1, L1, rfl, r1, f1, v1⟩ := hq
  refine x_istore_n dX13_readKnown_5 (by decide) rfl ?_
  refine x_aload_n dX13_readKnown_6 rfl ?_
  refine x_cvv (m_next (d := d + 6) (hT.fr f1) r1 (fun a2 z => csk_5 z)) kX13_139 dX13_readKnown_7 rfl (Nat.le_of_ble_eq_true rfl) rfl rfl (Nat.le_of_ble_eq_true rfl) (fun Mu hq => ?_)
  obtain ⟨I2, L2, rfl, r2, f2⟩ := hq
  refine x_iload_n dX13_readKnown_10 rfl ?_
  refine x_iret dX13_readKnown_11 rfl ?_
  exact ⟨_, rfl, _, _, rfl, by rw [← csk_cn]; exact r2, f1.tr f2, v1⟩
def cpk (T : Nat → Nat) (e : Nat) (nm : List (Nat × Nat × Nat)) (i so : Nat) (c : cS) : cS := cst T e (pKnown T e nm so) (cneed T e i c)
set_option maxRecDepth 100000 in
set_option maxHeartbeats 600000 in
theorem m_readPartKnown (hr : r = some ri) (hbn : ri < nb) {so : Nat} (hso : so = 1 ∨ so = 2 ∨ so = 3 ∨ so = 4 ∨ so = 7) {i : Nat} (h12 : 12 ≤ i) (hi41 : i < 41) (hT : YTp T e I) (hR : RSt T e c I L) (hN : YNm T e nm ri I L) : Mt G vX13_readPartKnown (d + 9) (0, 0) [.ref (ad 13 0), .ref (G.2.2.1 i), .int (nI (srt so))] (MM ad nb b r I L) (qI (fun rr M' => ∃ I' L', M' = MM ad nb b r I' L' ∧ RSt T e (cpk T e nm i so c) I' L' ∧ FR I I' L L' ∧ ∀ a n, cneed T e i c = .inr a → pKnown T e nm so a = .inr n → rr = nI n)) := by
  refine x_start (by decide) (Nat.le_of_ble_eq_true rfl) ?_
  refine x_aload_n dX13_readPartKnown_0 rfl ?_
  refine x_aload_n dX13_readPartKnown_1 rfl ?_
  refine x_cvv (m_needs (d := d + 2) h12 hi41 hT hR) kX13_154 dX13_readPartKnown_2 rfl (Nat.le_of_ble_eq_true rfl) rfl rfl (Nat.le_of_ble_eq_true rfl) (fun Mu hq => ?_)
  obtain ⟨I1, L1, rfl, r1, f1⟩ := hq
  refine x_aload_n dX13_readPartKnown_5 rfl ?_
  refine x_iload_n dX13_readPartKnown_6 rfl ?_
  refine x_cvi (m_readKnown (d := d) hr hbn hso (hT.fr f1) r1 (hN.fr f1)) kX13_218 dX13_readPartKnown_7 rfl (Nat.le_of_ble_eq_true rfl) rfl rfl (Nat.le_of_ble_eq_true rfl) (fun ru Mu hq => ?_)
  obtain ⟨I2, L2, rfl, r2, f2, v2⟩ := hq
  refine x_iret dX13_readPartKnown_10 rfl ?_
  exact ⟨_, rfl, _, _, rfl, r2, f1.tr f2, v2⟩

def cbg (T : Nat → Nat) (e : Nat) (full : Bool) (wind : Nat) (c : cS) : cS := cn_ T e (if wind = 0 then cf T e 6 (if full = true then cf T e 5 c else c) else (if full = true then cf T e 5 c else c))

set_option maxRecDepth 100000 in
set_option maxHeartbeats 600000 in
theorem mbg26 (hr : r = some ri) (hbn : ri < nb) {w : Nat} {cc : cS} {I1 : Nat → Nat → Nat → Int32} (hT : YTp T e I1) (hR : RSt T e cc I1 L) (h5 : ∀ a, cc = .inr a → kd T e a ≠ 5) (hF : FR I I1 L L) : X G vX13_begins (d + 2) (0, 0) 26 [(0, some (.ref (ad 13 0)))] [] (MM ad nb b r I1 L) (xT G (qV (fun M' => ∃ I' L', M' = MM ad nb b r I' L' ∧ RSt T e (cn_ T e cc) I' L' ∧ FR I I' L L'))) := by
  refine x_aload_n dX13_begins_26 rfl ?_
  refine x_cvv (m_next (d := d) hT hR h5) kX13_139 dX13_begins_27 rfl (Nat.le_of_ble_eq_true rfl) rfl rfl (Nat.le_of_ble_eq_true rfl) (fun Mu hq => ?_)
  obtain ⟨I3, L3, rfl, r3, f3⟩ := hq
  refine x_vret dX13_begins_30 rfl ?_
  exact ⟨rfl, _, _, rfl, r3, hF.tr f3⟩
set_option maxRecDepth 100000 in
set_option maxHeartbeats 600000 in
theorem mbg10 (hr : r = some ri) (hbn : ri < nb) {w : Nat} {cc : cS} {I1 : Nat → Nat → Nat → Int32} (hT : YTp T e I1) (hR : RSt T e cc I1 L) (h5 : ∀ a, cc = .inr a → kd T e a ≠ 5) (hF : FR I I1 L L) (hw : I1 12 ri 0 = nI w) (hw5 : w ≤ 5) : X G vX13_begins (d + 2) (0, 0) 10 [(0, some (.ref (ad 13 0)))] [] (MM ad nb b r I1 L) (xT G (qV (fun M' => ∃ I' L', M' = MM ad nb b r I' L' ∧ RSt T e (cn_ T e (if w = 0 then cf T e 6 cc else cc)) I' L' ∧ FR I I' L L'))) := by
  refine x_aload_n dX13_begins_10 rfl ?_
  refine g_M_read hr fX13_185 dX13_begins_11 ?_
  refine g_MB_wind fX13_189 dX13_begins_14 hbn ?_
  rw [hw]
  refine x_ifN_ne 26 dX13_begins_17 (by decide) (by omega) (fun h17 => ?_) (fun h17 => ?_)
  · first
      | (rw [if_pos h17]; refine x_ls ?_ (mbg26 (w := 0) hr hbn (hT.fr f2) r2 (fun a z => by cases cc <;> cases z) (hF.tr f2)); exact ⟨rfl, trivial⟩)
      | (rw [if_neg (by omega)]; refine x_ls ?_ (mbg26 (w := 0) hr hbn hT hR h5 hF); exact ⟨rfl, trivial⟩)
  · refine x_aload_n dX13_begins_20 rfl ?_
    refine x_bipush dX13_begins_21 lb_6 ?_
    refine x_cvv (m_flaw (d := d + 1) hR) kX13_146 dX13_begins_23 rfl (Nat.le_of_ble_eq_true rfl) rfl rfl (Nat.le_of_ble_eq_true rfl) (fun Mu hq => ?_)
    obtain ⟨I2, rfl, r2, f2⟩ := hq
    first
      | (rw [if_pos h17]; refine x_ls ?_ (mbg26 (w := 0) hr hbn (hT.fr f2) r2 (fun a z => by cases cc <;> cases z) (hF.tr f2)); exact ⟨rfl, trivial⟩)
      | (rw [if_neg (by omega)]; refine x_ls ?_ (mbg26 (w := 0) hr hbn hT hR h5 hF); exact ⟨rfl, trivial⟩)
set_option maxRecDepth 100000 in
set_option maxHeartbeats 600000 in
theorem m_begins (hr : r = some ri) (hbn : ri < nb) {x y w : Nat} (hx : x < 2 ^ 31) (hy : y < 2 ^ 31) (hw : I 12 ri 0 = nI w) (hw5 : w ≤ 5) (hT : YTp T e I) (hR : RSt T e c I L) (h5 : ∀ a, c = .inr a → kd T e a ≠ 5) : Mt G vX13_begins (d + 2) (0, 0) [.ref (ad 13 0), .int (nI (x)), .int (nI (y))] (MM ad nb b r I L) (qV (fun M' => ∃ I' L', M' = MM ad nb b r I' L' ∧ RSt T e (cbg T e (decide (x = y)) w c) I' L' ∧ FR I I' L L')) := by
  refine x_start (by decide) (Nat.le_of_ble_eq_true rfl) ?_
  refine x_iload_n dX13_begins_0 rfl ?_
  refine x_iload_n dX13_begins_1 rfl ?_
  refine x_icN_ne 10 dX13_begins_2 (by decide) (by omega) (by omega) (fun h2 => ?_) (fun h2 => ?_)
  · unfold cbg
    first
      | (rw [show (if decide (x = y) = true then cf T e 5 c else c) = cf T e 5 c from if_pos (decide_eq_true h2)]; refine x_ls ?_ (mbg10 hr hbn (hT.fr f1) r1 (fun a z => by cases c <;> cases z) f1 (by rw [f1.1 12 (by decide)]; exact hw) hw5); exact ⟨rfl, trivial⟩)
      | (rw [show (if decide (x = y) = true then cf T e 5 c else c) = c from if_neg (by rw [decide_eq_false h2]; decide)]; refine x_ls ?_ (mbg10 hr hbn hT hR h5 FR.rf hw hw5); exact ⟨rfl, trivial⟩)
  · refine x_aload_n dX13_begins_5 rfl ?_
    refine x_iconst dX13_begins_6 li_5 ?_
    refine x_cvv (m_flaw (d := d + 1) hR) kX13_146 dX13_begins_7 rfl (Nat.le_of_ble_eq_true rfl) rfl rfl (Nat.le_of_ble_eq_true rfl) (fun Mu hq => ?_)
    obtain ⟨I1, rfl, r1, f1⟩ := hq
    unfold cbg
    first
      | (rw [show (if decide (x = y) = true then cf T e 5 c else c) = cf T e 5 c from if_pos (decide_eq_true h2)]; refine x_ls ?_ (mbg10 hr hbn (hT.fr f1) r1 (fun a z => by cases c <;> cases z) f1 (by rw [f1.1 12 (by decide)]; exact hw) hw5); exact ⟨rfl, trivial⟩)
      | (rw [show (if decide (x = y) = true then cf T e 5 c else c) = c from if_neg (by rw [decide_eq_false h2]; decide)]; refine x_ls ?_ (mbg10 hr hbn hT hR h5 FR.rf hw hw5); exact ⟨rfl, trivial⟩)
end M34
