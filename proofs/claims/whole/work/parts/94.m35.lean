section M35
variable {G : xG} {ad : Nat → Nat → Nat} {nb : Nat} {b r : Option Nat} {L : Nat → Nat → Nat → Int64} {V : sV} {I : Nat → Nat → Nat → Int32} {d : Nat}

variable {T : Nat → Nat} {e a : Nat} {nm : List (Nat × Nat × Nat)} {ri : Nat} {c : cS}
def pFr (T : Nat → Nat) (e : Nat) (nm : List (Nat × Nat × Nat)) (a : Nat) : pR := if isN T e a = true then (if nmA T e nm a < nm.length then .inl (3, tA T e a) else .inr 0) else .inl (1, tA T e a)

set_option maxRecDepth 100000 in
set_option maxHeartbeats 600000 in
theorem mfr32 {g : Nat × Nat} {I1 : Nat → Nat → Nat → Int32} {L1 : Nat → Nat → Nat → Int64} (hR : RSt T e (.inl g) I1 L1) (hF : FR I I1 L L1) : X G vX13_readFresh (d + 2) (0, 0) 32 [(0, some (.ref (ad 13 0)))] [] (MM ad nb b r I1 L1) (xT G (qL (fun rr M' => ∃ I' L', M' = MM ad nb b r I' L' ∧ RSt T e (.inl g) I' L' ∧ FR I I' L L'))) := by
  refine x_aload_n dX13_readFresh_32 rfl ?_
  refine g_M_word fX13_119 dX13_readFresh_33 ?_
  refine x_lstore_n dX13_readFresh_36 (by decide) rfl ?_
  refine x_aload_n dX13_readFresh_37 rfl ?_
  refine x_cvv (m_goesOn' (d := d) hR.2.1) kX13_139 dX13_readFresh_38 rfl (Nat.le_of_ble_eq_true rfl) rfl rfl (Nat.le_of_ble_eq_true rfl) (fun Mu hq => ?_)
  subst hq
  refine x_lload_n dX13_readFresh_41 rfl ?_
  refine x_lret dX13_readFresh_42 rfl ?_
  exact ⟨_, rfl, _, _, rfl, hR, hF⟩
set_option maxRecDepth 100000 in
set_option maxHeartbeats 600000 in
theorem mfr12 (hr : r = some ri) (hbn : ri < nb) {g : Nat × Nat} {I1 : Nat → Nat → Nat → Int32} {L1 : Nat → Nat → Nat → Int64} (hR : RSt T e (.inl g) I1 L1) (hN : YNm T e nm ri I1 L1) (hF : FR I I1 L L1) : X G vX13_readFresh (d + 2) (0, 0) 12 [(0, some (.ref (ad 13 0)))] [] (MM ad nb b r I1 L1) (xT G (qL (fun rr M' => ∃ I' L', M' = MM ad nb b r I' L' ∧ RSt T e (.inl g) I' L' ∧ FR I I' L L'))) := by
  refine x_aload_n dX13_readFresh_12 rfl ?_
  refine g_M_read hr fX13_185 dX13_readFresh_13 ?_
  refine x_aload_n dX13_readFresh_16 rfl ?_
  refine g_M_word fX13_119 dX13_readFresh_17 ?_
  refine x_cvi (m_find (d := d + 1) hbn hN) kX13_198 dX13_readFresh_20 rfl hbn rfl rfl (Nat.le_of_ble_eq_true rfl) (fun ru Mu hq => ?_)
  obtain ⟨rfl, rfl⟩ := hq
  refine x_iconst dX13_readFresh_23 li_m1 ?_
  refine x_ic_eq 32 dX13_readFresh_24 (by decide) (fun h24 => ?_) (fun h24 => ?_)
  · first
      | (refine x_ls ?_ (mfr32 (g := g) r2 (hF.tr f2)); exact ⟨rfl, trivial⟩)
      | (refine x_ls ?_ (mfr32 (g := g) hR hF); exact ⟨rfl, trivial⟩)
  · refine x_aload_n dX13_readFresh_27 rfl ?_
    refine x_iconst dX13_readFresh_28 li_3 ?_
    refine x_cvv (m_flaw (d := d + 1) hR) kX13_146 dX13_readFresh_29 rfl (Nat.le_of_ble_eq_true rfl) rfl rfl (Nat.le_of_ble_eq_true rfl) (fun Mu hq => ?_)
    obtain ⟨I2, rfl, r2, f2⟩ := hq
    first
      | (refine x_ls ?_ (mfr32 (g := g) r2 (hF.tr f2)); exact ⟨rfl, trivial⟩)
      | (refine x_ls ?_ (mfr32 (g := g) hR hF); exact ⟨rfl, trivial⟩)
set_option maxRecDepth 100000 in
set_option maxHeartbeats 600000 in
theorem m_rf_o (hr : r = some ri) (hbn : ri < nb) {g : Nat × Nat} (hR : RSt T e (.inl g) I L) (hN : YNm T e nm ri I L) : Mt G vX13_readFresh (d + 7) (0, 0) [.ref (ad 13 0)] (MM ad nb b r I L) (qL (fun rr M' => ∃ I' L', M' = MM ad nb b r I' L' ∧ RSt T e (.inl g) I' L' ∧ FR I I' L L')) := by
  refine x_start (by decide) (Nat.le_of_ble_eq_true rfl) ?_
  refine x_aload_n dX13_readFresh_0 rfl ?_
  refine x_cvi (m_isName_o (d := d) hR) kX13_194 dX13_readFresh_1 rfl (Nat.le_of_ble_eq_true rfl) rfl rfl (Nat.le_of_ble_eq_true rfl) (fun ru Mu hq => ?_)
  obtain ⟨rfl, rfl⟩ := hq
  refine x_ifN_ne 12 dX13_readFresh_4 (by decide) (by omega) (fun h4 => absurd h4 (by omega)) (fun h4 => ?_)
  refine x_aload_n dX13_readFresh_7 rfl ?_
  refine x_iconst dX13_readFresh_8 li_1 ?_
  refine x_cvv (m_flaw (d := d + 6) hR) kX13_146 dX13_readFresh_9 rfl (Nat.le_of_ble_eq_true rfl) rfl rfl (Nat.le_of_ble_eq_true rfl) (fun Mu hq => ?_)
  obtain ⟨I1, rfl, r1, f1⟩ := hq
  refine x_ls ?_ (mfr12 (d := d + 5) (g := g) hr hbn r1 (hN.fr f1) f1)
  exact ⟨rfl, trivial⟩
set_option maxRecDepth 100000 in
set_option maxHeartbeats 600000 in
theorem m_rf_k (hr : r = some ri) (hbn : ri < nb) (hT : YTp T e I) (hR : RSt T e (.inr a) I L) (hN : YNm T e nm ri I L) : Mt G vX13_readFresh (d + 7) (0, 0) [.ref (ad 13 0)] (MM ad nb b r I L) (qL (fun rr M' => ∃ I' L', M' = MM ad nb b r I' L' ∧ RSt T e (cst T e (pFr T e nm) (.inr a)) I' L' ∧ FR I I' L L' ∧ ∀ a2 n, (.inr a : cS) = .inr a2 → pFr T e nm a2 = .inr n → rr = vl T e a2)) := by
  have hl := hN.2.1
  refine x_start (by decide) (Nat.le_of_ble_eq_true rfl) ?_
  refine x_aload_n dX13_readFresh_0 rfl ?_
  refine x_cvi (m_isName_k (d := d) hR) kX13_194 dX13_readFresh_1 rfl (Nat.le_of_ble_eq_true rfl) rfl rfl (Nat.le_of_ble_eq_true rfl) (fun ru Mu hq => ?_)
  obtain ⟨rfl, rfl⟩ := hq
  refine x_if_ne 12 dX13_readFresh_4 (by decide) (fun h4 => ?_) (fun h4 => ?_)
  · have hnn := bI_ne.mp h4
    have hk1 := isN_1 hnn
    refine x_aload_n dX13_readFresh_12 rfl ?_
    refine g_M_read hr fX13_185 dX13_readFresh_13 ?_
    refine x_aload_n dX13_readFresh_16 rfl ?_
    refine g_M_word fX13_119 dX13_readFresh_17 ?_
    rw [hR.2.1.2.2.1 hk1]
    refine x_cvi (m_find (d := d + 6) (v := vl T e a) hbn hN) kX13_198 dX13_readFresh_20 rfl hbn rfl rfl (Nat.le_of_ble_eq_true rfl) (fun ru Mu hq => ?_)
    obtain ⟨rfl, rfl⟩ := hq
    rw [fnd_nm]
    refine x_iconst dX13_readFresh_23 li_m1 ?_
    refine x_ic_eq 32 dX13_readFresh_24 (by decide) (fun h24 => ?_) (fun h24 => ?_)
    · have hnl : ¬ nmA T e nm a < nm.length := fun y => by rw [if_pos y] at h24; exact absurd h24 (nI_ne_m1 (by omega))
      have hp : pFr T e nm a = .inr 0 := by unfold pFr; rw [if_pos hnn, if_neg hnl]
      refine x_aload_n dX13_readFresh_32 rfl ?_
      refine g_M_word fX13_119 dX13_readFresh_33 ?_
      refine x_lstore_n dX13_readFresh_36 (by decide) rfl ?_
      refine x_aload_n dX13_readFresh_37 rfl ?_
      refine x_cvv (m_next (d := d + 5) hT hR (fun a2 z => by cases z; omega)) kX13_139 dX13_readFresh_38 rfl (Nat.le_of_ble_eq_true rfl) rfl rfl (Nat.le_of_ble_eq_true rfl) (fun Mu hq => ?_)
      obtain ⟨I3, L3, rfl, r3, f3⟩ := hq
      refine x_lload_n dX13_readFresh_41 rfl ?_
      refine x_lret dX13_readFresh_42 rfl ?_
      refine ⟨_, rfl, _, _, rfl, by rw [cst_r hp]; exact r3, f3, fun a2 x z1 z2 => ?_⟩
      cases z1
      exact hR.2.1.2.2.1 hk1
    · have hlt : nmA T e nm a < nm.length := Classical.byContradiction fun y => h24 (if_neg y)
      have hp : pFr T e nm a = .inl (3, tA T e a) := by unfold pFr; rw [if_pos hnn, if_pos hlt]
      refine x_aload_n dX13_readFresh_27 rfl ?_
      refine x_iconst dX13_readFresh_28 li_3 ?_
      refine x_cvv (m_flaw (d := d + 6) hR) kX13_146 dX13_readFresh_29 rfl (Nat.le_of_ble_eq_true rfl) rfl rfl (Nat.le_of_ble_eq_true rfl) (fun Mu hq => ?_)
      obtain ⟨I2, rfl, r2, f2⟩ := hq
      refine x_wk (x_ls ?_ (mfr32 (d := d + 5) (g := (3, tA T e a)) r2 f2)) (fun v M2 hv => by obtain ⟨rr, e1, I2, L2, e2, h3, h4⟩ := hv; exact ⟨rr, e1, I2, L2, e2, by rw [cst_f hp]; exact h3, h4, fun a2 x z1 z2 => by cases z1; rw [hp] at z2; cases z2⟩)
      exact ⟨rfl, trivial⟩
  · have hnn := bI_eq.mp h4
    have hp : pFr T e nm a = .inl (1, tA T e a) := by unfold pFr; rw [if_neg (by rw [hnn]; decide)]
    refine x_aload_n dX13_readFresh_7 rfl ?_
    refine x_iconst dX13_readFresh_8 li_1 ?_
    refine x_cvv (m_flaw (d := d + 6) hR) kX13_146 dX13_readFresh_9 rfl (Nat.le_of_ble_eq_true rfl) rfl rfl (Nat.le_of_ble_eq_true rfl) (fun Mu hq => ?_)
    obtain ⟨I1, rfl, r1, f1⟩ := hq
    refine x_wk (x_ls ?_ (mfr12 (d := d + 5) (g := (1, tA T e a)) hr hbn r1 (hN.fr f1) f1)) (fun v M2 hv => by obtain ⟨rr, e1, I2, L2, e2, h3, h4⟩ := hv; exact ⟨rr, e1, I2, L2, e2, by rw [cst_f hp]; exact h3, h4, fun a2 x z1 z2 => by cases z1; rw [hp] at z2; cases z2⟩)
    exact ⟨rfl, trivial⟩
theorem m_readFresh (hr : r = some ri) (hbn : ri < nb) (hT : YTp T e I) (hR : RSt T e c I L) (hN : YNm T e nm ri I L) : Mt G vX13_readFresh (d + 7) (0, 0) [.ref (ad 13 0)] (MM ad nb b r I L) (qL (fun rr M' => ∃ I' L', M' = MM ad nb b r I' L' ∧ RSt T e (cst T e (pFr T e nm) c) I' L' ∧ FR I I' L L' ∧ ∀ a n, c = .inr a → pFr T e nm a = .inr n → rr = vl T e a)) := by
  cases c with
  | inl g => exact (m_rf_o hr hbn hR hN).wk (fun v M' h => by obtain ⟨rr, e1, I2, L2, e2, h3, h4⟩ := h; exact ⟨rr, e1, I2, L2, e2, h3, h4, fun a x z => nomatch z⟩)
  | inr a => exact m_rf_k hr hbn hT hR hN
set_option maxRecDepth 100000 in
set_option maxHeartbeats 600000 in
theorem m_names (hr : r = some ri) (hbn : ri < nb) (hN : YNm T e nm ri I L) (h24 : nm.length < 24) {so x : Nat} (hso : so = 1 ∨ so = 2 ∨ so = 3 ∨ so = 4 ∨ so = 7) (hx6 : x ≤ 6) : Mt G vX13_names (d) (0, 0) [.ref (ad 13 0), .long (vl T e a), .int (nI (srt so)), .int (nI (x))] (MM ad nb b r I L) (qV (fun M' => ∃ I' L', M' = MM ad nb b r I' L' ∧ YNm T e (nm ++ [(a, so, x)]) ri I' L' ∧ (∀ s i, ¬ ((s = 12 ∨ s = 82 ∨ s = 83) ∧ i = ri) → I' s i = I s i) ∧ (∀ k, k ≠ 12 → I' 12 ri k = I 12 ri k) ∧ ∀ s i, ¬ (s = 81 ∧ i = ri) → L' s i = L s i)) := by
  refine x_start (by decide) (Nat.le_of_ble_eq_true rfl) ?_
  refine x_aload_n dX13_names_0 rfl ?_
  refine g_M_read hr fX13_185 dX13_names_1 ?_
  refine g_MB_name fX13_202 dX13_names_4 hbn ?_
  refine x_aload_n dX13_names_7 rfl ?_
  refine g_M_read hr fX13_185 dX13_names_8 ?_
  refine g_MB_names fX13_206 dX13_names_11 hbn ?_
  rw [hN.1]
  refine x_lload_n dX13_names_14 rfl ?_
  refine x_last dX13_names_15 rfl rfl hbn (by first | exact Nat.le_of_ble_eq_true rfl | assumption | omega) ?_
  refine x_aload_n dX13_names_16 rfl ?_
  refine g_M_read hr fX13_185 dX13_names_17 ?_
  refine g_MB_nameSort fX13_209 dX13_names_20 hbn ?_
  refine x_aload_n dX13_names_23 rfl ?_
  refine g_M_read hr fX13_185 dX13_names_24 ?_
  refine g_MB_names fX13_206 dX13_names_27 hbn ?_
  rw [hN.1]
  refine x_iload_n dX13_names_30 rfl ?_
  refine x_iast dX13_names_31 rfl rfl hbn (by first | exact Nat.le_of_ble_eq_true rfl | assumption | omega) ?_
  refine x_aload_n dX13_names_32 rfl ?_
  refine g_M_read hr fX13_185 dX13_names_33 ?_
  refine g_MB_numberOf fX13_212 dX13_names_36 hbn ?_
  refine x_aload_n dX13_names_39 rfl ?_
  refine g_M_read hr fX13_185 dX13_names_40 ?_
  refine g_MB_names fX13_206 dX13_names_43 hbn ?_
  rw [xu_ns (by decide), hN.1]
  refine x_iload dX13_names_46 rfl ?_
  refine x_iast dX13_names_48 rfl rfl hbn (by first | exact Nat.le_of_ble_eq_true rfl | assumption | omega) ?_
  refine x_aload_n dX13_names_49 rfl ?_
  refine g_M_read hr fX13_185 dX13_names_50 ?_
  refine x_dup dX13_names_53 rfl ?_
  refine g_MB_names fX13_206 dX13_names_54 hbn ?_
  rw [xu_ns (by decide), xu_ns (by decide), hN.1]
  refine x_iconst dX13_names_57 li_1 ?_
  refine x_iaddN dX13_names_58 ?_
  refine p_MB_names fX13_206 dX13_names_59 hbn ?_
  refine x_vret dX13_names_62 rfl ?_
  refine ⟨rfl, _, _, rfl, ⟨?_, ?_, fun i q hq => ?_⟩, fun s i hs => ?_, fun k hk => ?_, fun s i hs => ?_⟩
  · rw [xu_s, List.length_append]; rfl
  · rw [List.length_append]; show nm.length + 1 ≤ 24; omega
  · have hi := (List.getElem?_eq_some_iff.mp hq).1
    rw [List.length_append] at hi
    have hi2 : i < nm.length + 1 := hi
    by_cases e0 : i = nm.length
    · rw [e0, List.getElem?_concat_length] at hq
      cases hq
      rw [e0]
      exact ⟨xu_s, by rw [xu_ns (by decide), xu_ns (by decide), xu_s], by rw [xu_ns (by decide), xu_s], hx6, hso⟩
    · rw [List.getElem?_append_left (by omega)] at hq
      obtain ⟨k1, k2, k3, k4, k5⟩ := hN.2.2 i q hq
      exact ⟨by rw [xu_nk (by omega)]; exact k1, by rw [xu_ns (by decide), xu_ns (by decide), xu_nk (by omega)]; exact k2, by rw [xu_ns (by decide), xu_nk (by omega)]; exact k3, k4, k5⟩
  · funext y; rw [xu_n (by omega), xu_n (by omega), xu_n (by omega)]
  · rw [xu_nk hk, xu_ns (by decide), xu_ns (by decide)]
  · funext y; rw [xu_n (by omega)]
end M35
