section M18
variable {G : xG} {ad : Nat → Nat → Nat} {nb : Nat} {b r : Option Nat} {L : Nat → Nat → Nat → Int64} {V : sV} {I : Nat → Nat → Nat → Int32} {d : Nat}
variable {w : List Nat}
set_option maxRecDepth 100000 in
set_option maxHeartbeats 600000 in
theorem lp_mcov2 (hV : VW V) {bi : Nat} (hb : b = some bi) (hbn : bi < nb) {N : sN} (hW : NW V N) (hB : YB V bi (xu I 13 0 0 (nI 0))) (hN : YN V N (xu I 13 0 0 (nI 0))) {t s : Nat} (ht : t < V 0 7 0) (hs : s < V 0 2 0) (hw1 : 1 ≤ w.length) (hw6 : w.length ≤ 6) (hwq : ∀ q ∈ w, q < V 0 4 0) {z1 z2 z3 : Int32} (ha : ∀ x, lcv V N t s w = x → a_cover V N z1 z2 z3 = (x, 0)) {c : Nat} (hc : c ≤ 99) (kc : ∀ I2, (MX (xu I 13 0 0 (nI 0)) I2 ∧ (∀ p, p < V 0 4 0 → I2 89 0 p = nO (-2) (V 6 p 0)) ∧ (∀ i, i < w.length → I2 93 0 i = nI (w.getD i 0))) → X G vX13_cover (d + 7) (0, 0) 160 [(0, some (.ref (ad 13 0))), (1, some (.int (nI (t)))), (2, some (.int (nI (s)))), (4, some (.int (nI (w.length)))), (5, some (.int (nI (c)))), (6, some (.int (nI (dl V (pon N t s c) (V 9 t 0) w w.length))))] [] (MM ad nb b r I2 L) (xT G (qM ad nb b r I L (a_cover V N z1 z2 z3)))) : ∀ (n : Nat) (j : Nat) (Ia : Nat → Nat → Nat → Int32), w.length - j < n → j + 1 ≤ w.length → (MX (xu I 13 0 0 (nI 0)) Ia ∧ (∀ p, p < V 0 4 0 → Ia 89 0 p = nO (-2) (V 6 p 0)) ∧ (∀ i, i < w.length → Ia 93 0 i = nI (w.getD i 0))) → (∀ i, i < V 0 2 0 → Ia 88 0 i = nI (xf V (pon N t s c) (cum V w j) i)) → X G vX13_cover (d + 7) (0, 0) 98 [(0, some (.ref (ad 13 0))), (1, some (.int (nI (t)))), (2, some (.int (nI (s)))), (4, some (.int (nI (w.length)))), (5, some (.int (nI (c)))), (6, some (.int (nI (dl V (pon N t s c) (V 9 t 0) w (j + 1))))), (7, some (.int (nI (j + 1))))] [] (MM ad nb b r Ia L) (xT G (qM ad nb b r I L (a_cover V N z1 z2 z3))) := by
  have v0 := hV.1
  have v1 := hV.2.1
  have v2 := hV.2.2.1
  have v3 := hV.2.2.2.1
  have v4 := hV.2.2.2.2.1
  have v7 := hV.2.2.2.2.2.2.2.1
  have v9 := hV.2.2.2.2.2.2.2.2.2.1
  have v10 := hV.2.2.2.2.2.2.2.2.2.2.1
  intro n
  induction n with
  | zero => intro j Ia h0; omega
  | succ n ih =>
    intro j Ia hn hj hst hx
    obtain ⟨hm, hp, hw⟩ := hst
    have hB1 := hB.mx hm
    have hg : ∀ i, i < V 0 2 0 → xf V (pon N t s c) (cum V w j) i ≤ 198 := fun i hi => xf_le (by unfold pon; split; omega; exact (hW t ht).2 i (by omega))
    refine x_iload dX13_cover_98 rfl ?_
    refine x_iload dX13_cover_100 rfl ?_
    refine x_icN_ge 160 dX13_cover_102 (by decide) (by omega) (by omega) (fun h102 => ?_) (fun h102 => ?_)
    · have ej : j + 1 = w.length := by omega
      refine x_ls ?_ (kc Ia ⟨hm, hp, hw⟩)
      rw [← ej]
      exact ⟨rfl, rfl, rfl, rfl, rfl, rfl, trivial⟩
    · have hj2 : j + 1 < w.length := h102
      have hq0 := getD_lt hwq (show j < w.length by omega)
      have hq1 := getD_lt hwq hj2
      have h7 := hV.2.2.2.2.2.2.2.2.2.2.2.2.2.2.2.2.1 (w.getD j 0) (w.getD (j + 1) 0)
      refine x_aload_n dX13_cover_105 rfl ?_
      refine x_aload_n dX13_cover_106 rfl ?_
      refine g_M_border hb fX13_397 dX13_cover_107 ?_
      refine g_MB_hours fX13_334 dX13_cover_110 hbn ?_
      refine x_bipush dX13_cover_113 lb_6 ?_
      refine x_aload_n dX13_cover_115 rfl ?_
      refine g_M_best fX13_42 dX13_cover_116 ?_
      refine x_iload dX13_cover_119 rfl ?_
      refine x_iconst dX13_cover_121 li_1 ?_
      refine x_isubN dX13_cover_122 (by omega) ?_
      refine x_iald dX13_cover_123 rfl rfl (Nat.le_of_ble_eq_true rfl) (by first | exact Nat.le_of_ble_eq_true rfl | assumption | omega) ?_
      rw [show Ia 93 0 (j + 1 - 1) = nI (w.getD j 0) from hw j (by omega)]
      refine x_imulN dX13_cover_124 ?_
      refine x_aload_n dX13_cover_125 rfl ?_
      refine g_M_best fX13_42 dX13_cover_126 ?_
      refine x_iload dX13_cover_129 rfl ?_
      refine x_iald dX13_cover_131 rfl rfl (Nat.le_of_ble_eq_true rfl) (by first | exact Nat.le_of_ble_eq_true rfl | assumption | omega) ?_
      rw [hw (j + 1) hj2]
      refine x_iaddN dX13_cover_132 ?_
      refine x_iald dX13_cover_133 rfl rfl hbn (by first | exact Nat.le_of_ble_eq_true rfl | assumption | omega) ?_
      refine x_top (y70 hB1 (by first | assumption | omega) (by first | assumption | omega)) ?_
      refine x_cvv (m_fades (d := d + 5) hV hb hbn hB1 (by omega) hx hg) kX13_431 dX13_cover_134 rfl (Nat.le_of_ble_eq_true rfl) rfl rfl (Nat.le_of_ble_eq_true rfl) (fun Mu hq => ?_)
      obtain ⟨I2, rfl, f1, f2, f3⟩ := hq
      have hB2 := hB1.sm (I' := I2) (fun q hq => f3 q (by omega))
      have hx2 : ∀ i, i < V 0 2 0 → I2 88 0 i = nI (xf V (pon N t s c) (cum V w (j + 1)) i) := fun i hi => by rw [f1 i hi, xf_add]; rfl
      have hg2 : ∀ i, i < V 0 2 0 → xf V (pon N t s c) (cum V w (j + 1)) i ≤ 198 := fun i hi => by rw [show cum V w (j + 1) = cum V w j + V 7 (w.getD j 0) (w.getD (j + 1) 0) from rfl, ← xf_add]; exact Nat.le_trans (Nat.sub_le _ _) (hg i hi)
      refine x_iload dX13_cover_137 rfl ?_
      refine x_aload_n dX13_cover_139 rfl ?_
      refine x_iload_n dX13_cover_140 rfl ?_
      refine x_aload_n dX13_cover_141 rfl ?_
      refine g_M_best fX13_42 dX13_cover_142 ?_
      refine x_iload dX13_cover_145 rfl ?_
      refine x_iald dX13_cover_147 rfl rfl (Nat.le_of_ble_eq_true rfl) (by first | exact Nat.le_of_ble_eq_true rfl | assumption | omega) ?_
      rw [f3 93 (by decide), hw (j + 1) hj2]
      refine x_cvi (m_dutyAt (d := d + 3) hV hb hbn hB2 hx2 hg2 (nz := fun p => V 6 p 0) (fun p hp4 => by rw [f3 89 (by decide)]; exact hp p hp4) (fun p hp => (hV.2.2.2.2.2.2.2.2.2.2.2.2.2.2.2.1 p hp).2) ht hq1) kX13_442 dX13_cover_148 rfl (Nat.le_of_ble_eq_true rfl) rfl rfl (Nat.le_of_ble_eq_true rfl) (fun ru Mu hq => ?_)
      obtain ⟨rfl, rfl⟩ := hq
      refine x_iaddN dX13_cover_151 ?_
      refine x_istore dX13_cover_152 (by decide) rfl ?_
      refine x_iincN 1 dX13_cover_154 li_1 rfl (by decide) rfl ?_
      refine x_goto 98 dX13_cover_157 (by decide) ?_
      refine x_ls ?_ (ih (j + 1) I2 (by omega) (by omega) ⟨hm.tr (MX.of f3 (by unfold msc; omega)), fun p hp4 => by rw [f3 89 (by decide)]; exact hp p hp4, fun i hi => by rw [f3 93 (by decide)]; exact hw i hi⟩ hx2)
      refine ⟨rfl, rfl, rfl, rfl, rfl, ?_, rfl, trivial⟩
      rw [dl_s (show j + 1 ≠ 0 by omega)]
      rfl
set_option maxRecDepth 100000 in
set_option maxHeartbeats 600000 in
theorem lp_mcov1 (hV : VW V) {bi : Nat} (hb : b = some bi) (hbn : bi < nb) {N : sN} (hW : NW V N) (hB : YB V bi (xu I 13 0 0 (nI 0))) (hN : YN V N (xu I 13 0 0 (nI 0))) {t s : Nat} (ht : t < V 0 7 0) (hs : s < V 0 2 0) (hw1 : 1 ≤ w.length) (hw6 : w.length ≤ 6) (hwq : ∀ q ∈ w, q < V 0 4 0) {z1 z2 z3 : Int32} (ha : ∀ x, lcv V N t s w = x → a_cover V N z1 z2 z3 = (x, 0)) : ∀ (n : Nat) (c : Nat) (Ia : Nat → Nat → Nat → Int32), 100 - c < n → c ≤ 100 → (MX (xu I 13 0 0 (nI 0)) Ia ∧ (∀ p, p < V 0 4 0 → Ia 89 0 p = nO (-2) (V 6 p 0)) ∧ (∀ i, i < w.length → Ia 93 0 i = nI (w.getD i 0))) → c + fst (fun c => decide (dl V (pon N t s c) (V 9 t 0) w w.length = 0)) c (100 - c) = fst (fun c => decide (dl V (pon N t s c) (V 9 t 0) w w.length = 0)) 0 100 → X G vX13_cover (d + 7) (0, 0) 65 [(0, some (.ref (ad 13 0))), (1, some (.int (nI (t)))), (2, some (.int (nI (s)))), (4, some (.int (nI (w.length)))), (5, some (.int (nI (c))))] [] (MM ad nb b r Ia L) (xT G (qM ad nb b r I L (a_cover V N z1 z2 z3))) := by
  have v0 := hV.1
  have v1 := hV.2.1
  have v2 := hV.2.2.1
  have v3 := hV.2.2.2.1
  have v4 := hV.2.2.2.2.1
  have v7 := hV.2.2.2.2.2.2.2.1
  have v9 := hV.2.2.2.2.2.2.2.2.2.1
  have v10 := hV.2.2.2.2.2.2.2.2.2.2.1
  intro n
  induction n with
  | zero => intro c Ia h0; omega
  | succ n ih =>
    intro c Ia hn hc hst hf
    obtain ⟨hm, hp, hw⟩ := hst
    refine x_iload dX13_cover_65 rfl ?_
    refine x_bipush dX13_cover_67 lb_99 ?_
    refine x_icN_gt 178 dX13_cover_69 (by decide) (by omega) (by omega) (fun h69 => ?_) (fun h69 => ?_)
    · refine x_aload_n dX13_cover_178 rfl ?_
      refine x_bipush dX13_cover_179 lb_m2 ?_
      refine x_cvi (m_good) kX13_82 dX13_cover_181 rfl (Nat.le_of_ble_eq_true rfl) rfl rfl (Nat.le_of_ble_eq_true rfl) (fun ru Mu hq => ?_)
      obtain ⟨rfl, rfl⟩ := hq
      refine x_iret dX13_cover_184 rfl ?_
      refine qM_ok (ha (-2) ?_) hm
      unfold lcv fsO
      rw [← hf, show 100 - c = 0 by omega, fst_0, if_neg (by omega)]
    · refine x_iload dX13_cover_72 rfl ?_
      refine x_ifN_le 178 dX13_cover_74 (by decide) (by omega) (fun h74 => absurd h74 (by omega)) (fun h74 => ?_)
      refine x_iconst dX13_cover_77 li_0 ?_
      refine x_istore dX13_cover_78 (by decide) rfl ?_
      refine x_aload_n dX13_cover_80 rfl ?_
      refine x_iload_n dX13_cover_81 rfl ?_
      refine x_cvv (m_tries (d := d + 6) (t := t) (by omega)) kX13_428 dX13_cover_82 rfl (Nat.le_of_ble_eq_true rfl) rfl rfl (Nat.le_of_ble_eq_true rfl) (fun Mu hq => ?_)
      obtain ⟨I1, rfl, t1, t2⟩ := hq
      refine x_aload_n dX13_cover_85 rfl ?_
      refine g_M_x fX13_27 dX13_cover_86 ?_
      refine x_iload_n dX13_cover_89 rfl ?_
      refine x_iconst dX13_cover_90 li_2 ?_
      refine x_iload dX13_cover_91 rfl ?_
      refine x_imulN dX13_cover_93 ?_
      refine x_iast dX13_cover_94 rfl rfl (Nat.le_of_ble_eq_true rfl) (by first | exact Nat.le_of_ble_eq_true rfl | assumption | omega) ?_
      refine x_iconst dX13_cover_95 li_1 ?_
      refine x_istore dX13_cover_96 (by decide) rfl ?_
      have fr : ∀ q, q ≠ 88 → (xu I1 88 0 s (nI (2 * c))) q = Ia q := fun q hq => by rw [← t2 q hq]; funext x y; rw [xu_ns hq]
      refine x_ls ?_ (lp_mcov2 (c := c) hV hb hbn hW hB hN ht hs hw1 hw6 hwq ha (by omega) (fun I2 hI2 => ?_) (w.length + 1) 0 _ (by omega) hw1 ⟨hm.tr (MX.of fr (by unfold msc; omega)), fun p hp4 => by rw [fr 89 (by decide)]; exact hp p hp4, fun i hi => by rw [fr 93 (by decide)]; exact hw i hi⟩ (fun i hi => ?_))
      · exact ⟨rfl, rfl, rfl, rfl, rfl, rfl, rfl, trivial⟩
      · obtain ⟨hm2, hp2, hw2⟩ := hI2
        have hdl : dl V (pon N t s c) (V 9 t 0) w w.length < 2 ^ 31 := Nat.lt_of_le_of_lt (dl_le hV (fun i hi => by unfold pon; split; omega; exact (hW t ht).2 i hi) w.length) (by omega)
        refine x_iload dX13_cover_160 rfl ?_
        refine x_ifN_ne 172 dX13_cover_162 (by decide) hdl (fun h162 => ?_) (fun h162 => ?_)
        · refine x_iincN 1 dX13_cover_172 li_1 rfl (by decide) rfl ?_
          refine x_goto 65 dX13_cover_175 (by decide) ?_
          refine x_ls ?_ (ih (c + 1) I2 (by omega) (by omega) ⟨hm2, hp2, hw2⟩ (by rw [fst_f (P := (fun c => decide (dl V (pon N t s c) (V 9 t 0) w w.length = 0))) (show c < 100 by omega) (decide_eq_false (by omega))]; exact hf))
          exact ⟨rfl, rfl, rfl, rfl, rfl, trivial⟩
        · refine x_aload_n dX13_cover_165 rfl ?_
          refine x_iload dX13_cover_166 rfl ?_
          refine x_cvi (m_good) kX13_82 dX13_cover_168 rfl (Nat.le_of_ble_eq_true rfl) rfl rfl (Nat.le_of_ble_eq_true rfl) (fun ru Mu hq => ?_)
          obtain ⟨rfl, rfl⟩ := hq
          refine x_iret dX13_cover_171 rfl ?_
          refine qM_ok (ha (nI c) ?_) hm2
          unfold lcv fsO
          rw [← hf, fst_t (P := (fun c => decide (dl V (pon N t s c) (V 9 t 0) w w.length = 0))) (decide_eq_true (by omega)), if_pos (by omega)]
      · rw [xu_at, t1 i (by omega)]
        show _ = nI (xf V (pon N t s c) 0 i)
        rw [xf_0, hm.1 85 (by unfold msc; omega) (by decide), (hN t ht).1 i (by omega)]
        unfold pon
        by_cases e0 : i = s
        · rw [if_pos e0, if_pos e0]
        · rw [if_neg e0, if_neg e0]
set_option maxRecDepth 100000 in
set_option maxHeartbeats 600000 in
theorem m_cover (hV : VW V) (hO : YO V nb b I) {N : sN} (hW : NW V N) (hN : YN V N I) {z1 z2 z3 : Int32} : Mt G vX13_cover (d + 7) (0, 0) [.ref (ad 13 0), .int (z1), .int (z2), .int (z3)] (MM ad nb b r I L) (qM ad nb b r I L (a_cover V N z1 z2 z3)) := by
  have v0 := hV.1
  have v1 := hV.2.1
  have v2 := hV.2.2.1
  have v3 := hV.2.2.2.1
  have v4 := hV.2.2.2.2.1
  have v7 := hV.2.2.2.2.2.2.2.1
  have v9 := hV.2.2.2.2.2.2.2.2.2.1
  have v10 := hV.2.2.2.2.2.2.2.2.2.2.1
  have hO := hO.sm (I' := (xu I 13 0 0 (nI 0))) (fun q hq => by funext x y; rw [xu_ns (by omega)])
  have hN := hN.sm (I' := (xu I 13 0 0 (nI 0))) (by funext x y; rw [xu_ns (by decide)])
  have hm := MX.rf (I := (xu I 13 0 0 (nI 0)))
  refine x_start (by decide) (Nat.le_of_ble_eq_true rfl) ?_
  refine x_aload_n dX13_cover_0 rfl ?_
  refine x_iconst dX13_cover_1 li_0 ?_
  refine p_M_thrown fX13_72 dX13_cover_2 ?_
  refine x_aload_n dX13_cover_5 rfl ?_
  refine x_iload_n dX13_cover_6 rfl ?_
  refine x_cvi (m_isTraveller' hV hO) kX13_425 dX13_cover_7 rfl (Nat.le_of_ble_eq_true rfl) rfl rfl (Nat.le_of_ble_eq_true rfl) (fun ru Mu hq => ?_)
  obtain ⟨rfl, rfl⟩ := hq
  refine x_if_eq 42 dX13_cover_10 (by decide) (fun h10 => ?_) (fun h10 => ?_)
  · refine x_aload_n dX13_cover_42 rfl ?_
    refine x_iconst dX13_cover_43 li_1 ?_
    refine x_cvi (m_refused) kX13_78 dX13_cover_44 rfl (Nat.le_of_ble_eq_true rfl) rfl rfl (Nat.le_of_ble_eq_true rfl) (fun ru Mu hq => ?_)
    obtain ⟨rfl, rfl⟩ := hq
    refine x_iret dX13_cover_47 rfl ?_
    refine qM_ok (show a_cover V N _ _ _ = (-1, 1) from if_neg (by first | (rw [bI_eq.mp h39]; simp; done) | (rw [zN_nI (by omega), decide_eq_false h31]; simp; done) | (rw [bI_eq.mp h18]; simp; done) | (rw [bI_eq.mp h10]; simp; done))) hm
  · have qt := bI_ne.mp h10
    obtain ⟨t, ht, rfl⟩ := inr_of qt (by omega)
    obtain ⟨bi, hb, hbn, hB⟩ := hO.some (show V 0 7 0 ≠ 0 by omega) (by decide)
    refine x_aload_n dX13_cover_13 rfl ?_
    refine x_iload_n dX13_cover_14 rfl ?_
    refine x_cvi (m_isSmell' hV hO) kX13_419 dX13_cover_15 rfl (Nat.le_of_ble_eq_true rfl) rfl rfl (Nat.le_of_ble_eq_true rfl) (fun ru Mu hq => ?_)
    obtain ⟨rfl, rfl⟩ := hq
    refine x_if_eq 42 dX13_cover_18 (by decide) (fun h18 => ?_) (fun h18 => ?_)
    · refine x_aload_n dX13_cover_42 rfl ?_
      refine x_iconst dX13_cover_43 li_1 ?_
      refine x_cvi (m_refused) kX13_78 dX13_cover_44 rfl (Nat.le_of_ble_eq_true rfl) rfl rfl (Nat.le_of_ble_eq_true rfl) (fun ru Mu hq => ?_)
      obtain ⟨rfl, rfl⟩ := hq
      refine x_iret dX13_cover_47 rfl ?_
      refine qM_ok (show a_cover V N _ _ _ = (-1, 1) from if_neg (by first | (rw [bI_eq.mp h39]; simp; done) | (rw [zN_nI (by omega), decide_eq_false h31]; simp; done) | (rw [bI_eq.mp h18]; simp; done) | (rw [bI_eq.mp h10]; simp; done))) hm
    · have qs := bI_ne.mp h18
      obtain ⟨s, hs, rfl⟩ := inr_of qs (by omega)
      have hk5 := (hV.2.2.2.2.2.2.2.2.2.2.2.2.2.1 s hs).1
      refine x_aload_n dX13_cover_21 rfl ?_
      refine g_M_border hb fX13_397 dX13_cover_22 ?_
      refine g_MB_kind fX13_313 dX13_cover_25 hbn ?_
      refine x_iload_n dX13_cover_28 rfl ?_
      refine x_iald dX13_cover_29 rfl rfl hbn (by first | exact Nat.le_of_ble_eq_true rfl | assumption | omega) ?_
      refine x_top (y65 hB (by first | assumption | omega)) ?_
      refine x_iconst dX13_cover_30 li_2 ?_
      refine x_icN_ne 42 dX13_cover_31 (by decide) (by omega) (by omega) (fun h31 => ?_) (fun h31 => ?_)
      · refine x_aload_n dX13_cover_42 rfl ?_
        refine x_iconst dX13_cover_43 li_1 ?_
        refine x_cvi (m_refused) kX13_78 dX13_cover_44 rfl (Nat.le_of_ble_eq_true rfl) rfl rfl (Nat.le_of_ble_eq_true rfl) (fun ru Mu hq => ?_)
        obtain ⟨rfl, rfl⟩ := hq
        refine x_iret dX13_cover_47 rfl ?_
        refine qM_ok (show a_cover V N _ _ _ = (-1, 1) from if_neg (by first | (rw [bI_eq.mp h39]; simp; done) | (rw [zN_nI (by omega), decide_eq_false h31]; simp; done) | (rw [bI_eq.mp h18]; simp; done) | (rw [bI_eq.mp h10]; simp; done))) hm
      · refine x_aload_n dX13_cover_34 rfl ?_
        refine x_iload_n dX13_cover_35 rfl ?_
        refine x_cvi (m_isPlace' hV hO) kX13_422 dX13_cover_36 rfl (Nat.le_of_ble_eq_true rfl) rfl rfl (Nat.le_of_ble_eq_true rfl) (fun ru Mu hq => ?_)
        obtain ⟨rfl, rfl⟩ := hq
        refine x_if_ne 48 dX13_cover_39 (by decide) (fun h39 => ?_) (fun h39 => ?_)
        · have qz := bI_ne.mp h39
          obtain ⟨z, hz, rfl⟩ := inr_of qz (by omega)
          refine x_aload_n dX13_cover_48 rfl ?_
          refine x_iload_n dX13_cover_49 rfl ?_
          refine x_iload_n dX13_cover_50 rfl ?_
          refine x_cvv (m_asksWays (d := d) hV hb hbn hW hB hN ht hz) kX13_466 dX13_cover_51 rfl (Nat.le_of_ble_eq_true rfl) rfl rfl (Nat.le_of_ble_eq_true rfl) (fun Mu hq => ?_)
          obtain ⟨I1, rfl, w1, m1, p1⟩ := hq
          refine x_aload_n dX13_cover_54 rfl ?_
          refine g_M_bestSize fX13_45 dX13_cover_55 ?_
          refine x_iconst dX13_cover_58 li_0 ?_
          refine x_iald dX13_cover_59 rfl rfl (Nat.le_of_ble_eq_true rfl) (by first | exact Nat.le_of_ble_eq_true rfl | assumption | omega) ?_
          rw [(w1.2.2.2.1).1]
          have hpl := pkw_le (V := V) (f := (ON N t)) (so := (V 9 t 0)) (W := (wys V (N t 0) z)) (kd := 0)
          have hb6 := bsz_6 (V := V) (f := (ON N t)) (so := (V 9 t 0)) (kd := 0) w1.2.1
          have hb0 := bsz_0 (V := V) (f := (ON N t)) (so := (V 9 t 0)) (kd := 0) w1.2.1
          refine x_istore dX13_cover_60 (by decide) rfl ?_
          have hall : (inr (nI t) (V 0 7 0) && (inr (nI s) (V 0 2 0) && (inr (nI z) (V 0 4 0) && decide (V 2 s 0 = 2)))) = true := by rw [qt, qs, qz, decide_eq_true (show V 2 s 0 = 2 by omega)]; rfl
          refine x_iconst dX13_cover_62 li_0 ?_
          refine x_istore dX13_cover_63 (by decide) rfl ?_
          by_cases y : wof V N t z 0 = 0
          · have e0 : bsz V (ON N t) (V 9 t 0) (wys V (N t 0) z) 0 = 0 := hb0.mpr y
            refine x_iload dX13_cover_65 rfl ?_
            refine x_bipush dX13_cover_67 lb_99 ?_
            refine x_icN_gt 178 dX13_cover_69 (by decide) (by omega) (by omega) (fun h69 => absurd h69 (by omega)) (fun h69 => ?_)
            refine x_iload dX13_cover_72 rfl ?_
            refine x_ifN_le 178 dX13_cover_74 (by decide) (by omega) (fun h74 => ?_) (fun h74 => absurd h74 (by omega))
            refine x_aload_n dX13_cover_178 rfl ?_
            refine x_bipush dX13_cover_179 lb_m2 ?_
            refine x_cvi (m_good) kX13_82 dX13_cover_181 rfl (Nat.le_of_ble_eq_true rfl) rfl rfl (Nat.le_of_ble_eq_true rfl) (fun ru Mu hq => ?_)
            obtain ⟨rfl, rfl⟩ := hq
            refine x_iret dX13_cover_184 rfl ?_
            refine qM_ok (show a_cover V N _ _ _ = _ from ?_) m1
            unfold a_cover
            rw [zN_nI (by omega), zN_nI (by omega), zN_nI (by omega), if_pos hall, if_pos y]
          · have hpk : wof V N t z 0 - 1 < (wys V (N t 0) z).length := by have : wof V N t z 0 ≤ (wys V (N t 0) z).length := hpl; omega
            have hwl := w1.2.1 _ (List.mem_of_getElem? (W_at hpk))
            have elen : bsz V (ON N t) (V 9 t 0) (wys V (N t 0) z) 0 = ((wys V (N t 0) z).getD (wof V N t z 0 - 1) []).length := if_neg y
            refine x_ls ?_ (lp_mcov1 (w := (wys V (N t 0) z).getD (wof V N t z 0 - 1) []) (z1 := nI t) (z2 := nI s) (z3 := nI z) hV hb hbn hW hB hN ht hs hwl.1 hwl.2.1 hwl.2.2 (fun x hx => ?_) 101 0 I1 (by omega) (by omega) ⟨m1, p1, fun i hi => ?_⟩ (by rw [Nat.zero_add, Nat.sub_zero]))
            · exact ⟨rfl, rfl, rfl, by rw [← elen]; rfl, rfl, trivial⟩
            · unfold a_cover
              rw [zN_nI (by omega), zN_nI (by omega), zN_nI (by omega), if_pos hall, if_neg y, hx]
            · have h93 := (w1.2.2.2.1.2 y).2.2 i hi
              rw [show 6 * 0 + i = i by omega] at h93
              exact h93
        · refine x_aload_n dX13_cover_42 rfl ?_
          refine x_iconst dX13_cover_43 li_1 ?_
          refine x_cvi (m_refused) kX13_78 dX13_cover_44 rfl (Nat.le_of_ble_eq_true rfl) rfl rfl (Nat.le_of_ble_eq_true rfl) (fun ru Mu hq => ?_)
          obtain ⟨rfl, rfl⟩ := hq
          refine x_iret dX13_cover_47 rfl ?_
          refine qM_ok (show a_cover V N _ _ _ = (-1, 1) from if_neg (by first | (rw [bI_eq.mp h39]; simp; done) | (rw [zN_nI (by omega), decide_eq_false h31]; simp; done) | (rw [bI_eq.mp h18]; simp; done) | (rw [bI_eq.mp h10]; simp; done))) hm

theorem rs1_no {P : Nat → Nat → Nat} {k p m : Nat} (h : P m p < P k p) : ∀ n, m < n → rs1 P k p n = false
  | 0, hm => absurd hm (Nat.not_lt_zero m)
  | n + 1, hm => by
    unfold rs1
    by_cases e : m = n
    · subst e; rw [decide_eq_false (by omega), Bool.and_false]
    · rw [rs1_no h n (by omega)]; rfl
theorem rs2_no {P : Nat → Nat → Nat} {k p st m : Nat} (h1 : m ≠ st) (h : P k p < P k m) : ∀ n, m < n → rs2 P k p st n = false
  | 0, hm => absurd hm (Nat.not_lt_zero m)
  | n + 1, hm => by
    unfold rs2
    by_cases e : m = n
    · subst e; rw [decide_eq_false h1, decide_eq_false (by omega)]; simp
    · rw [rs2_no h1 h n (by omega)]; rfl
theorem gr1_kp {P : Nat → Nat → Nat} {nw np st k : Nat} {q : Nat × Nat} {m : Nat} (h : 0 < (gr1 P nw np st k q m).1) : ∀ n, m ≤ n → 0 < (gr1 P nw np st k q n).1 ∧ (gr1 P nw np st k q n).2 = (gr1 P nw np st k q m).2
  | 0, hm => by obtain rfl : m = 0 := by omega
                exact ⟨h, rfl⟩
  | n + 1, hm => by
    by_cases e : m = n + 1
    · subst e; exact ⟨h, rfl⟩
    · have h1 := gr1_kp h n (by omega)
      show 0 < (if n ≠ st ∧ rst P nw np k n st = true then ntF (gr1 P nw np st k q n) (P k n) else gr1 P nw np st k q n).1 ∧ (if n ≠ st ∧ rst P nw np k n st = true then ntF (gr1 P nw np st k q n) (P k n) else gr1 P nw np st k q n).2 = _
      split
      · refine ⟨Nat.succ_pos _, ?_⟩
        show (if (gr1 P nw np st k q n).1 = 0 then _ else _) = _
        rw [if_neg (by omega)]
        exact h1.2
      · exact h1
theorem gr2_kp {P : Nat → Nat → Nat} {nw np st m : Nat} (h : 0 < (gr2 P nw np st m).1) : ∀ n, m ≤ n → 0 < (gr2 P nw np st n).1 ∧ (gr2 P nw np st n).2 = (gr2 P nw np st m).2
  | 0, hm => by obtain rfl : m = 0 := by omega
                exact ⟨h, rfl⟩
  | n + 1, hm => by
    by_cases e : m = n + 1
    · subst e; exact ⟨h, rfl⟩
    · have h1 := gr2_kp h n (by omega)
      have h2 := gr1_kp (P := P) (nw := nw) (np := np) (st := st) (k := n) (q := gr2 P nw np st n) (m := 0) h1.1 np (Nat.zero_le np)
      exact ⟨h2.1, h2.2.trans h1.2⟩

end M18
