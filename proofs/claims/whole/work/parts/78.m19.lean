section M19
variable {G : xG} {ad : Nat → Nat → Nat} {nb : Nat} {b r : Option Nat} {L : Nat → Nat → Nat → Int64} {V : sV} {I : Nat → Nat → Nat → Int32} {d : Nat}
variable {W : List (List Nat)}
set_option maxRecDepth 100000 in
set_option maxHeartbeats 600000 in
theorem lp_mre2 (hV : VW V) {bi : Nat} (hb : b = some bi) (hbn : bi < nb) {N : sN} (hW : NW V N) (hB : YB V bi I) (hN : YN V N I) {t : Nat} (ht : t < V 0 7 0) (hR : WR V (ON N t) (V 9 t 0) W I) (h65 : W.length ≤ 65) {k q : Nat} (hk : k < W.length) (hq : q < V 0 4 0) (h1 : rs1 (gp V (ON N t) (V 9 t 0) W) k q W.length = true) : ∀ (n : Nat) (j : Nat), V 0 4 0 - j < n → j ≤ V 0 4 0 → rs2 (gp V (ON N t) (V 9 t 0) W) k q (N t 0) j = true → X G vX13_isRest (d) (0, 0) 53 [(0, some (.ref (ad 13 0))), (1, some (.int (nI (t)))), (2, some (.int (nI (k)))), (3, some (.int (nI (q)))), (4, some (.int (nI ((gp V (ON N t) (V 9 t 0) W) k q)))), (5, some (.int (nI (j))))] [] (MM ad nb b r I L) (xT G (qE (bI (rst (gp V (ON N t) (V 9 t 0) W) W.length (V 0 4 0) k q (N t 0))) (MM ad nb b r I L))) := by
  have v0 := hV.1
  have v1 := hV.2.1
  have v2 := hV.2.2.1
  have v3 := hV.2.2.2.1
  have v4 := hV.2.2.2.2.1
  have v7 := hV.2.2.2.2.2.2.2.1
  have v9 := hV.2.2.2.2.2.2.2.2.2.1
  have v10 := hV.2.2.2.2.2.2.2.2.2.2.1
  have hp0 := (hW t ht).1
  have hgl : ∀ k p, (gp V (ON N t) (V 9 t 0) W) k p ≤ 10692 := fun k p => gpl_le hV (fun s hs => (hW t ht).2 s hs) _ p
  have hG := hR.2.2.1
  intro n
  induction n with
  | zero => intro j h0; omega
  | succ n ih =>
    intro j hn hj h2
    have g1 := hgl k q
    have g2 := hgl k j
    refine x_iload dX13_isRest_53 rfl ?_
    refine x_aload_n dX13_isRest_55 rfl ?_
    refine g_M_border hb fX13_397 dX13_isRest_56 ?_
    refine g_MB_places fX13_230 dX13_isRest_59 hbn ?_
    refine x_top (y12_4 hB) ?_
    refine x_icN_ge 104 dX13_isRest_62 (by decide) (by omega) (by omega) (fun h62 => ?_) (fun h62 => ?_)
    · refine x_iconst dX13_isRest_104 li_1 ?_
      refine x_zret dX13_isRest_105 rfl rfl ?_
      obtain rfl : j = V 0 4 0 := by omega
      rw [show rst (gp V (ON N t) (V 9 t 0) W) W.length (V 0 4 0) k q (N t 0) = true by unfold rst; rw [h1, h2]; rfl]
      exact ⟨_, rfl, rfl, rfl⟩
    · refine x_iload dX13_isRest_65 rfl ?_
      refine x_aload_n dX13_isRest_67 rfl ?_
      refine g_M_v fX13_17 dX13_isRest_68 ?_
      refine x_bipush dX13_isRest_71 lb_24 ?_
      refine x_iload_n dX13_isRest_73 rfl ?_
      refine x_iaddN dX13_isRest_74 ?_
      refine x_iald dX13_isRest_75 rfl rfl (Nat.le_of_ble_eq_true rfl) (by first | exact Nat.le_of_ble_eq_true rfl | assumption | omega) ?_
      rw [(hN t ht).2.1]
      refine x_icN_eq 98 dX13_isRest_76 (by decide) (by omega) (by omega) (fun h76 => ?_) (fun h76 => ?_)
      · have e2 : rs2 (gp V (ON N t) (V 9 t 0) W) k q (N t 0) (j + 1) = true := by unfold rs2; rw [h2, decide_eq_true h76]; rfl
        refine x_iincN 1 dX13_isRest_98 li_1 rfl (by decide) rfl ?_
        refine x_goto 53 dX13_isRest_101 (by decide) ?_
        refine x_ls ?_ (ih (j + 1) (by omega) (by omega) e2)
        exact ⟨rfl, rfl, rfl, rfl, rfl, rfl, trivial⟩
      · refine x_aload_n dX13_isRest_79 rfl ?_
        refine g_M_gameDuty fX13_54 dX13_isRest_80 ?_
        refine x_bipush dX13_isRest_83 lb_6 ?_
        refine x_iload_n dX13_isRest_85 rfl ?_
        refine x_imulN dX13_isRest_86 ?_
        refine x_iload dX13_isRest_87 rfl ?_
        refine x_iaddN dX13_isRest_89 ?_
        refine x_iald dX13_isRest_90 rfl rfl (Nat.le_of_ble_eq_true rfl) (by first | exact Nat.le_of_ble_eq_true rfl | assumption | omega) ?_
        refine x_top (hG _ (by first | assumption | omega) _ (by first | assumption | omega)) ?_
        refine x_iload dX13_isRest_91 rfl ?_
        refine x_icN_le 98 dX13_isRest_93 (by decide) (by omega) (by omega) (fun h93 => ?_) (fun h93 => ?_)
        · have e2 : rs2 (gp V (ON N t) (V 9 t 0) W) k q (N t 0) (j + 1) = true := by unfold rs2; rw [h2, decide_eq_true h93]; simp
          refine x_iincN 1 dX13_isRest_98 li_1 rfl (by decide) rfl ?_
          refine x_goto 53 dX13_isRest_101 (by decide) ?_
          refine x_ls ?_ (ih (j + 1) (by omega) (by omega) e2)
          exact ⟨rfl, rfl, rfl, rfl, rfl, rfl, trivial⟩
        · have e0 : rs2 (gp V (ON N t) (V 9 t 0) W) k q (N t 0) (V 0 4 0) = false := rs2_no h76 h93 _ h62
          refine x_iconst dX13_isRest_96 li_0 ?_
          refine x_zret dX13_isRest_97 rfl rfl ?_
          rw [show rst (gp V (ON N t) (V 9 t 0) W) W.length (V 0 4 0) k q (N t 0) = false by unfold rst; rw [e0, Bool.and_false]]
          exact ⟨_, rfl, rfl, rfl⟩
set_option maxRecDepth 100000 in
set_option maxHeartbeats 600000 in
theorem lp_mre1 (hV : VW V) {bi : Nat} (hb : b = some bi) (hbn : bi < nb) {N : sN} (hW : NW V N) (hB : YB V bi I) (hN : YN V N I) {t : Nat} (ht : t < V 0 7 0) (hR : WR V (ON N t) (V 9 t 0) W I) (h65 : W.length ≤ 65) {k q : Nat} (hk : k < W.length) (hq : q < V 0 4 0) : ∀ (n : Nat) (j : Nat), W.length - j < n → j ≤ W.length → rs1 (gp V (ON N t) (V 9 t 0) W) k q j = true → X G vX13_isRest (d) (0, 0) 16 [(0, some (.ref (ad 13 0))), (1, some (.int (nI (t)))), (2, some (.int (nI (k)))), (3, some (.int (nI (q)))), (4, some (.int (nI ((gp V (ON N t) (V 9 t 0) W) k q)))), (5, some (.int (nI (j))))] [] (MM ad nb b r I L) (xT G (qE (bI (rst (gp V (ON N t) (V 9 t 0) W) W.length (V 0 4 0) k q (N t 0))) (MM ad nb b r I L))) := by
  have v0 := hV.1
  have v1 := hV.2.1
  have v2 := hV.2.2.1
  have v3 := hV.2.2.2.1
  have v4 := hV.2.2.2.2.1
  have v7 := hV.2.2.2.2.2.2.2.1
  have v9 := hV.2.2.2.2.2.2.2.2.2.1
  have v10 := hV.2.2.2.2.2.2.2.2.2.2.1
  have hp0 := (hW t ht).1
  have hgl : ∀ k p, (gp V (ON N t) (V 9 t 0) W) k p ≤ 10692 := fun k p => gpl_le hV (fun s hs => (hW t ht).2 s hs) _ p
  have hG := hR.2.2.1
  intro n
  induction n with
  | zero => intro j h0; omega
  | succ n ih =>
    intro j hn hj h1
    have g1 := hgl k q
    have g2 := hgl j q
    refine x_iload dX13_isRest_16 rfl ?_
    refine x_aload_n dX13_isRest_18 rfl ?_
    refine g_M_ways fX13_450 dX13_isRest_19 ?_
    refine x_top (hR.1) ?_
    refine x_icN_ge 50 dX13_isRest_22 (by decide) (by omega) (by omega) (fun h22 => ?_) (fun h22 => ?_)
    · refine x_iconst dX13_isRest_50 li_0 ?_
      refine x_istore dX13_isRest_51 (by decide) rfl ?_
      obtain rfl : j = W.length := by omega
      refine x_ls ?_ (lp_mre2 hV hb hbn hW hB hN ht hR h65 hk hq h1 (V 0 4 0 + 1) 0 (by omega) (by omega) rfl)
      exact ⟨rfl, rfl, rfl, rfl, rfl, rfl, trivial⟩
    · refine x_aload_n dX13_isRest_25 rfl ?_
      refine g_M_gameDuty fX13_54 dX13_isRest_26 ?_
      refine x_bipush dX13_isRest_29 lb_6 ?_
      refine x_iload dX13_isRest_31 rfl ?_
      refine x_imulN dX13_isRest_33 ?_
      refine x_iload_n dX13_isRest_34 rfl ?_
      refine x_iaddN dX13_isRest_35 ?_
      refine x_iald dX13_isRest_36 rfl rfl (Nat.le_of_ble_eq_true rfl) (by first | exact Nat.le_of_ble_eq_true rfl | assumption | omega) ?_
      refine x_top (hG _ (by first | assumption | omega) _ (by first | assumption | omega)) ?_
      refine x_iload dX13_isRest_37 rfl ?_
      refine x_icN_ge 44 dX13_isRest_39 (by decide) (by omega) (by omega) (fun h39 => ?_) (fun h39 => ?_)
      · have e2 : rs1 (gp V (ON N t) (V 9 t 0) W) k q (j + 1) = true := by unfold rs1; rw [h1, decide_eq_true h39]; rfl
        refine x_iincN 1 dX13_isRest_44 li_1 rfl (by decide) rfl ?_
        refine x_goto 16 dX13_isRest_47 (by decide) ?_
        refine x_ls ?_ (ih (j + 1) (by omega) (by omega) e2)
        exact ⟨rfl, rfl, rfl, rfl, rfl, rfl, trivial⟩
      · have e0 : rs1 (gp V (ON N t) (V 9 t 0) W) k q W.length = false := rs1_no h39 _ h22
        refine x_iconst dX13_isRest_42 li_0 ?_
        refine x_zret dX13_isRest_43 rfl rfl ?_
        rw [show rst (gp V (ON N t) (V 9 t 0) W) W.length (V 0 4 0) k q (N t 0) = false by unfold rst; rw [e0]; rfl]
        exact ⟨_, rfl, rfl, rfl⟩
set_option maxRecDepth 100000 in
set_option maxHeartbeats 600000 in
theorem m_isRest (hV : VW V) {bi : Nat} (hb : b = some bi) (hbn : bi < nb) {N : sN} (hW : NW V N) (hB : YB V bi I) (hN : YN V N I) {t : Nat} (ht : t < V 0 7 0) (hR : WR V (ON N t) (V 9 t 0) W I) (h65 : W.length ≤ 65) {k q : Nat} (hk : k < W.length) (hq : q < V 0 4 0) : Mt G vX13_isRest (d) (0, 0) [.ref (ad 13 0), .int (nI (t)), .int (nI (k)), .int (nI (q))] (MM ad nb b r I L) (qE (bI (rst (gp V (ON N t) (V 9 t 0) W) W.length (V 0 4 0) k q (N t 0))) (MM ad nb b r I L)) := by
  have v0 := hV.1
  have v1 := hV.2.1
  have v2 := hV.2.2.1
  have v3 := hV.2.2.2.1
  have v4 := hV.2.2.2.2.1
  have v7 := hV.2.2.2.2.2.2.2.1
  have v9 := hV.2.2.2.2.2.2.2.2.2.1
  have v10 := hV.2.2.2.2.2.2.2.2.2.2.1
  have hp0 := (hW t ht).1
  have hgl : ∀ k p, (gp V (ON N t) (V 9 t 0) W) k p ≤ 10692 := fun k p => gpl_le hV (fun s hs => (hW t ht).2 s hs) _ p
  have hG := hR.2.2.1
  refine x_start (by decide) (Nat.le_of_ble_eq_true rfl) ?_
  refine x_aload_n dX13_isRest_0 rfl ?_
  refine g_M_gameDuty fX13_54 dX13_isRest_1 ?_
  refine x_bipush dX13_isRest_4 lb_6 ?_
  refine x_iload_n dX13_isRest_6 rfl ?_
  refine x_imulN dX13_isRest_7 ?_
  refine x_iload_n dX13_isRest_8 rfl ?_
  refine x_iaddN dX13_isRest_9 ?_
  refine x_iald dX13_isRest_10 rfl rfl (Nat.le_of_ble_eq_true rfl) (by first | exact Nat.le_of_ble_eq_true rfl | assumption | omega) ?_
  refine x_top (hG _ (by first | assumption | omega) _ (by first | assumption | omega)) ?_
  refine x_istore dX13_isRest_11 (by decide) rfl ?_
  refine x_iconst dX13_isRest_13 li_0 ?_
  refine x_istore dX13_isRest_14 (by decide) rfl ?_
  refine x_ls ?_ (lp_mre1 hV hb hbn hW hB hN ht hR h65 hk hq (W.length + 1) 0 (by omega) (by omega) rfl)
  exact ⟨rfl, rfl, rfl, rfl, rfl, rfl, trivial⟩
set_option maxRecDepth 100000 in
set_option maxHeartbeats 600000 in
theorem m_asksGame (hV : VW V) (hO : YO V nb b I) {N : sN} (hW : NW V N) (hN : YN V N I) {z1 z2 : Int32} : Mt G vX13_asksGame (d + 7) (0, 0) [.ref (ad 13 0), .int (z1), .int (z2)] (MM ad nb b r I L) (qI (fun rr M' => ∃ I1, M' = MM ad nb b r I1 L ∧ rr = nI (wng V N z1 z2) ∧ MX I I1 ∧ (wng V N z1 z2 = 0 → WR V (ON N (zN z1)) (V 9 (zN z1) 0) (wys V (N (zN z1) 0) (zN z2)) I1 ∧ ∃ t z bi, z1 = nI t ∧ t < V 0 7 0 ∧ z2 = nI z ∧ z < V 0 4 0 ∧ b = some bi ∧ bi < nb ∧ YB V bi I ∧ 2 ≤ V 0 4 0))) := by
  have v0 := hV.1
  have v1 := hV.2.1
  have v2 := hV.2.2.1
  have v3 := hV.2.2.2.1
  have v4 := hV.2.2.2.2.1
  have v7 := hV.2.2.2.2.2.2.2.1
  have v9 := hV.2.2.2.2.2.2.2.2.2.1
  have v10 := hV.2.2.2.2.2.2.2.2.2.2.1
  refine x_start (by decide) (Nat.le_of_ble_eq_true rfl) ?_
  refine x_aload_n dX13_asksGame_0 rfl ?_
  refine x_iload_n dX13_asksGame_1 rfl ?_
  refine x_cvi (m_isTraveller' hV hO) kX13_425 dX13_asksGame_2 rfl (Nat.le_of_ble_eq_true rfl) rfl rfl (Nat.le_of_ble_eq_true rfl) (fun ru Mu hq => ?_)
  obtain ⟨rfl, rfl⟩ := hq
  refine x_if_eq 16 dX13_asksGame_5 (by decide) (fun h5 => ?_) (fun h5 => ?_)
  · refine x_iconst dX13_asksGame_16 li_1 ?_
    refine x_iret dX13_asksGame_17 rfl ?_
    first
      | (have e1 : wng V N (nI t) z2 = 1 := if_neg (by rw [bI_eq.mp h13]; simp)
         exact ⟨_, rfl, _, rfl, by rw [e1], MX.rf, fun z => absurd (e1.symm.trans z) (by decide)⟩)
      | (have e1 : wng V N z1 z2 = 1 := if_neg (by rw [bI_eq.mp h5]; simp)
         exact ⟨_, rfl, _, rfl, by rw [e1], MX.rf, fun z => absurd (e1.symm.trans z) (by decide)⟩)
  · have qt := bI_ne.mp h5
    obtain ⟨t, ht, rfl⟩ := inr_of qt (by omega)
    obtain ⟨bi, hb, hbn, hB⟩ := hO.some (show V 0 7 0 ≠ 0 by omega) (by decide)
    refine x_aload_n dX13_asksGame_8 rfl ?_
    refine x_iload_n dX13_asksGame_9 rfl ?_
    refine x_cvi (m_isPlace' hV hO) kX13_422 dX13_asksGame_10 rfl (Nat.le_of_ble_eq_true rfl) rfl rfl (Nat.le_of_ble_eq_true rfl) (fun ru Mu hq => ?_)
    obtain ⟨rfl, rfl⟩ := hq
    refine x_if_ne 18 dX13_asksGame_13 (by decide) (fun h13 => ?_) (fun h13 => ?_)
    · have qz := bI_ne.mp h13
      obtain ⟨z, hz, rfl⟩ := inr_of qz (by omega)
      refine x_aload_n dX13_asksGame_18 rfl ?_
      refine x_iload_n dX13_asksGame_19 rfl ?_
      refine x_iload_n dX13_asksGame_20 rfl ?_
      refine x_cvv (m_asksWays (d := d) hV hb hbn hW hB hN ht hz) kX13_466 dX13_asksGame_21 rfl (Nat.le_of_ble_eq_true rfl) rfl rfl (Nat.le_of_ble_eq_true rfl) (fun Mu hq => ?_)
      obtain ⟨I1, rfl, w1, m1, p1⟩ := hq
      refine x_aload_n dX13_asksGame_24 rfl ?_
      refine g_M_ways fX13_450 dX13_asksGame_25 ?_
      have h65 : (wys V (N t 0) z).length ≤ 65 := ex_65 hV hz (hW t ht).1
      rw [w1.1]
      refine x_ifN_eq 42 dX13_asksGame_28 (by decide) (by omega) (fun h28 => ?_) (fun h28 => ?_)
      · refine x_bipush dX13_asksGame_42 lb_6 ?_
        refine x_goto 48 dX13_asksGame_44 (by decide) ?_
        refine x_iret dX13_asksGame_48 rfl ?_
        first
          | (have e1 : wng V N (nI t) (nI z) = 0 := by unfold wng; rw [if_pos (by rw [qt, qz]; rfl), if_pos (by omega), zN_nI (by omega), zN_nI (by omega), if_pos h28]
             refine ⟨_, rfl, _, rfl, by rw [e1], m1, fun _ => ⟨?_, t, z, bi, rfl, ht, rfl, hz, hb, hbn, hB, by omega⟩⟩
             rw [zN_nI (by omega), zN_nI (by omega)]
             exact w1)
          | (have e1 : wng V N (nI t) (nI z) = 6 := by unfold wng; rw [if_pos (by rw [qt, qz]; rfl), zN_nI (by omega), zN_nI (by omega)]; by_cases y : 2 ≤ V 0 4 0; (rw [if_pos y, if_neg (by omega)]); rw [if_neg y]
             exact ⟨_, rfl, _, rfl, by rw [e1], m1, fun y => absurd (e1.symm.trans y) (by decide)⟩)
      · refine x_aload_n dX13_asksGame_31 rfl ?_
        refine g_M_border hb fX13_397 dX13_asksGame_32 ?_
        refine g_MB_places fX13_230 dX13_asksGame_35 hbn ?_
        refine x_top (y12_4 (hB.mx m1)) ?_
        refine x_iconst dX13_asksGame_38 li_1 ?_
        refine x_icN_ne 47 dX13_asksGame_39 (by decide) (by omega) (by omega) (fun h39 => ?_) (fun h39 => ?_)
        · refine x_iconst dX13_asksGame_47 li_0 ?_
          refine x_iret dX13_asksGame_48 rfl ?_
          first
            | (have e1 : wng V N (nI t) (nI z) = 0 := by unfold wng; rw [if_pos (by rw [qt, qz]; rfl), if_pos (by omega), zN_nI (by omega), zN_nI (by omega), if_pos h28]
               refine ⟨_, rfl, _, rfl, by rw [e1], m1, fun _ => ⟨?_, t, z, bi, rfl, ht, rfl, hz, hb, hbn, hB, by omega⟩⟩
               rw [zN_nI (by omega), zN_nI (by omega)]
               exact w1)
            | (have e1 : wng V N (nI t) (nI z) = 6 := by unfold wng; rw [if_pos (by rw [qt, qz]; rfl), zN_nI (by omega), zN_nI (by omega)]; by_cases y : 2 ≤ V 0 4 0; (rw [if_pos y, if_neg (by omega)]); rw [if_neg y]
               exact ⟨_, rfl, _, rfl, by rw [e1], m1, fun y => absurd (e1.symm.trans y) (by decide)⟩)
        · refine x_bipush dX13_asksGame_42 lb_6 ?_
          refine x_goto 48 dX13_asksGame_44 (by decide) ?_
          refine x_iret dX13_asksGame_48 rfl ?_
          first
            | (have e1 : wng V N (nI t) (nI z) = 0 := by unfold wng; rw [if_pos (by rw [qt, qz]; rfl), if_pos (by omega), zN_nI (by omega), zN_nI (by omega), if_pos h28]
               refine ⟨_, rfl, _, rfl, by rw [e1], m1, fun _ => ⟨?_, t, z, bi, rfl, ht, rfl, hz, hb, hbn, hB, by omega⟩⟩
               rw [zN_nI (by omega), zN_nI (by omega)]
               exact w1)
            | (have e1 : wng V N (nI t) (nI z) = 6 := by unfold wng; rw [if_pos (by rw [qt, qz]; rfl), zN_nI (by omega), zN_nI (by omega)]; by_cases y : 2 ≤ V 0 4 0; (rw [if_pos y, if_neg (by omega)]); rw [if_neg y]
               exact ⟨_, rfl, _, rfl, by rw [e1], m1, fun y => absurd (e1.symm.trans y) (by decide)⟩)
    · refine x_iconst dX13_asksGame_16 li_1 ?_
      refine x_iret dX13_asksGame_17 rfl ?_
      first
        | (have e1 : wng V N (nI t) z2 = 1 := if_neg (by rw [bI_eq.mp h13]; simp)
           exact ⟨_, rfl, _, rfl, by rw [e1], MX.rf, fun z => absurd (e1.symm.trans z) (by decide)⟩)
        | (have e1 : wng V N z1 z2 = 1 := if_neg (by rw [bI_eq.mp h5]; simp)
           exact ⟨_, rfl, _, rfl, by rw [e1], MX.rf, fun z => absurd (e1.symm.trans z) (by decide)⟩)
set_option maxRecDepth 100000 in
set_option maxHeartbeats 600000 in
theorem lp_mrs2 (hV : VW V) {bi : Nat} (hb : b = some bi) (hbn : bi < nb) {N : sN} (hW : NW V N) {t z : Nat} (ht : t < V 0 7 0) (hz : z < V 0 4 0) {I1 : Nat → Nat → Nat → Int32} (hB : YB V bi I1) (hN : YN V N I1) (hR : WR V (ON N t) (V 9 t 0) (wys V (N t 0) z) I1) (hm : MX (xu I 13 0 0 (nI 0)) I1) (h2 : 2 ≤ V 0 4 0) (hg : wng V N (nI t) (nI z) = 0) {k : Nat} (hk : k < (wys V (N t 0) z).length) (kc : X G vX13_rests (d + 8) (0, 0) 94 [(0, some (.ref (ad 13 0))), (1, some (.int (nI (t)))), (2, some (.int (nI (z)))), (4, some (.int (nI ((gr1 (gp V (ON N t) (V 9 t 0) (wys V (N t 0) z)) (wys V (N t 0) z).length (V 0 4 0) (N t 0) k (gr2 (gp V (ON N t) (V 9 t 0) (wys V (N t 0) z)) (wys V (N t 0) z).length (V 0 4 0) (N t 0) k) (V 0 4 0)).1)))), (5, some (.int (nI (k))))] [] (MM ad nb b r I1 L) (xT G (qM ad nb b r I L (a_rests V N (nI t) (nI z))))) : ∀ (n : Nat) (j : Nat), V 0 4 0 - j < n → j ≤ V 0 4 0 → X G vX13_rests (d + 8) (0, 0) 40 [(0, some (.ref (ad 13 0))), (1, some (.int (nI (t)))), (2, some (.int (nI (z)))), (4, some (.int (nI ((gr1 (gp V (ON N t) (V 9 t 0) (wys V (N t 0) z)) (wys V (N t 0) z).length (V 0 4 0) (N t 0) k (gr2 (gp V (ON N t) (V 9 t 0) (wys V (N t 0) z)) (wys V (N t 0) z).length (V 0 4 0) (N t 0) k) j).1)))), (5, some (.int (nI (k)))), (6, some (.int (nI (j))))] [] (MM ad nb b r I1 L) (xT G (qM ad nb b r I L (a_rests V N (nI t) (nI z)))) := by
  have v0 := hV.1
  have v1 := hV.2.1
  have v2 := hV.2.2.1
  have v3 := hV.2.2.2.1
  have v4 := hV.2.2.2.2.1
  have v7 := hV.2.2.2.2.2.2.2.1
  have v9 := hV.2.2.2.2.2.2.2.2.2.1
  have v10 := hV.2.2.2.2.2.2.2.2.2.2.1
  have hp0 := (hW t ht).1
  have hx65 : (wys V (N t 0) z).length ≤ 65 := ex_65 hV hz hp0
  intro n
  induction n with
  | zero => intro j h0; omega
  | succ n ih =>
    intro j hn hj
    refine x_iload dX13_rests_40 rfl ?_
    refine x_aload_n dX13_rests_42 rfl ?_
    refine g_M_border hb fX13_397 dX13_rests_43 ?_
    refine g_MB_places fX13_230 dX13_rests_46 hbn ?_
    refine x_top (y12_4 hB) ?_
    refine x_icN_ge 94 dX13_rests_49 (by decide) (by omega) (by omega) (fun h49 => ?_) (fun h49 => ?_)
    · obtain rfl : j = V 0 4 0 := by omega
      refine x_ls ?_ kc
      exact ⟨rfl, rfl, rfl, rfl, rfl, trivial⟩
    · refine x_iload dX13_rests_52 rfl ?_
      refine x_iload dX13_rests_54 rfl ?_
      refine x_aload_n dX13_rests_56 rfl ?_
      refine g_M_v fX13_17 dX13_rests_57 ?_
      refine x_bipush dX13_rests_60 lb_24 ?_
      refine x_iload_n dX13_rests_62 rfl ?_
      refine x_iaddN dX13_rests_63 ?_
      refine x_iald dX13_rests_64 rfl rfl (Nat.le_of_ble_eq_true rfl) (by first | exact Nat.le_of_ble_eq_true rfl | assumption | omega) ?_
      rw [(hN t ht).2.1]
      refine x_icN_eq 84 dX13_rests_65 (by decide) (by omega) (by omega) (fun h65 => ?_) (fun h65 => ?_)
      · have ec : some (Value.int (nI ((gr1 (gp V (ON N t) (V 9 t 0) (wys V (N t 0) z)) (wys V (N t 0) z).length (V 0 4 0) (N t 0) k (gr2 (gp V (ON N t) (V 9 t 0) (wys V (N t 0) z)) (wys V (N t 0) z).length (V 0 4 0) (N t 0) k) j).1 + 0))) = some (Value.int (nI (gr1 (gp V (ON N t) (V 9 t 0) (wys V (N t 0) z)) (wys V (N t 0) z).length (V 0 4 0) (N t 0) k (gr2 (gp V (ON N t) (V 9 t 0) (wys V (N t 0) z)) (wys V (N t 0) z).length (V 0 4 0) (N t 0) k) (j + 1)).1)) := by rw [show gr1 (gp V (ON N t) (V 9 t 0) (wys V (N t 0) z)) (wys V (N t 0) z).length (V 0 4 0) (N t 0) k (gr2 (gp V (ON N t) (V 9 t 0) (wys V (N t 0) z)) (wys V (N t 0) z).length (V 0 4 0) (N t 0) k) (j + 1) = gr1 (gp V (ON N t) (V 9 t 0) (wys V (N t 0) z)) (wys V (N t 0) z).length (V 0 4 0) (N t 0) k (gr2 (gp V (ON N t) (V 9 t 0) (wys V (N t 0) z)) (wys V (N t 0) z).length (V 0 4 0) (N t 0) k) j from if_neg (fun y => y.1 h65)]; rfl
        refine x_iconst dX13_rests_84 li_0 ?_
        refine x_iaddN dX13_rests_85 ?_
        refine x_istore dX13_rests_86 (by decide) rfl ?_
        refine x_iincN 1 dX13_rests_88 li_1 rfl (by decide) rfl ?_
        refine x_goto 40 dX13_rests_91 (by decide) ?_
        refine x_ls ?_ (ih (j + 1) (by omega) (by omega))
        exact ⟨rfl, rfl, rfl, ec, rfl, rfl, trivial⟩
      · refine x_aload_n dX13_rests_68 rfl ?_
        refine x_iload_n dX13_rests_69 rfl ?_
        refine x_iload dX13_rests_70 rfl ?_
        refine x_iload dX13_rests_72 rfl ?_
        refine x_cvi (m_isRest (d := d + 7) hV hb hbn hW hB hN ht hR hx65 (k := k) (q := j) hk h49) kX13_517 dX13_rests_74 rfl (Nat.le_of_ble_eq_true rfl) rfl rfl (Nat.le_of_ble_eq_true rfl) (fun ru Mu hq => ?_)
        obtain ⟨rfl, rfl⟩ := hq
        refine x_if_eq 84 dX13_rests_77 (by decide) (fun h77 => ?_) (fun h77 => ?_)
        · have ec : some (Value.int (nI ((gr1 (gp V (ON N t) (V 9 t 0) (wys V (N t 0) z)) (wys V (N t 0) z).length (V 0 4 0) (N t 0) k (gr2 (gp V (ON N t) (V 9 t 0) (wys V (N t 0) z)) (wys V (N t 0) z).length (V 0 4 0) (N t 0) k) j).1 + 0))) = some (Value.int (nI (gr1 (gp V (ON N t) (V 9 t 0) (wys V (N t 0) z)) (wys V (N t 0) z).length (V 0 4 0) (N t 0) k (gr2 (gp V (ON N t) (V 9 t 0) (wys V (N t 0) z)) (wys V (N t 0) z).length (V 0 4 0) (N t 0) k) (j + 1)).1)) := by rw [show gr1 (gp V (ON N t) (V 9 t 0) (wys V (N t 0) z)) (wys V (N t 0) z).length (V 0 4 0) (N t 0) k (gr2 (gp V (ON N t) (V 9 t 0) (wys V (N t 0) z)) (wys V (N t 0) z).length (V 0 4 0) (N t 0) k) (j + 1) = gr1 (gp V (ON N t) (V 9 t 0) (wys V (N t 0) z)) (wys V (N t 0) z).length (V 0 4 0) (N t 0) k (gr2 (gp V (ON N t) (V 9 t 0) (wys V (N t 0) z)) (wys V (N t 0) z).length (V 0 4 0) (N t 0) k) j from if_neg (fun y => by rw [bI_eq.mp h77] at y; exact absurd y.2 (by decide))]; rfl
          refine x_iconst dX13_rests_84 li_0 ?_
          refine x_iaddN dX13_rests_85 ?_
          refine x_istore dX13_rests_86 (by decide) rfl ?_
          refine x_iincN 1 dX13_rests_88 li_1 rfl (by decide) rfl ?_
          refine x_goto 40 dX13_rests_91 (by decide) ?_
          refine x_ls ?_ (ih (j + 1) (by omega) (by omega))
          exact ⟨rfl, rfl, rfl, ec, rfl, rfl, trivial⟩
        · have ec : some (Value.int (nI ((gr1 (gp V (ON N t) (V 9 t 0) (wys V (N t 0) z)) (wys V (N t 0) z).length (V 0 4 0) (N t 0) k (gr2 (gp V (ON N t) (V 9 t 0) (wys V (N t 0) z)) (wys V (N t 0) z).length (V 0 4 0) (N t 0) k) j).1 + 1))) = some (Value.int (nI (gr1 (gp V (ON N t) (V 9 t 0) (wys V (N t 0) z)) (wys V (N t 0) z).length (V 0 4 0) (N t 0) k (gr2 (gp V (ON N t) (V 9 t 0) (wys V (N t 0) z)) (wys V (N t 0) z).length (V 0 4 0) (N t 0) k) (j + 1)).1)) := by rw [show gr1 (gp V (ON N t) (V 9 t 0) (wys V (N t 0) z)) (wys V (N t 0) z).length (V 0 4 0) (N t 0) k (gr2 (gp V (ON N t) (V 9 t 0) (wys V (N t 0) z)) (wys V (N t 0) z).length (V 0 4 0) (N t 0) k) (j + 1) = ntF (gr1 (gp V (ON N t) (V 9 t 0) (wys V (N t 0) z)) (wys V (N t 0) z).length (V 0 4 0) (N t 0) k (gr2 (gp V (ON N t) (V 9 t 0) (wys V (N t 0) z)) (wys V (N t 0) z).length (V 0 4 0) (N t 0) k) j) ((gp V (ON N t) (V 9 t 0) (wys V (N t 0) z)) k j) from if_pos ⟨h65, bI_ne.mp h77⟩]; rfl
          refine x_iconst dX13_rests_80 li_1 ?_
          refine x_goto 85 dX13_rests_81 (by decide) ?_
          refine x_iaddN dX13_rests_85 ?_
          refine x_istore dX13_rests_86 (by decide) rfl ?_
          refine x_iincN 1 dX13_rests_88 li_1 rfl (by decide) rfl ?_
          refine x_goto 40 dX13_rests_91 (by decide) ?_
          refine x_ls ?_ (ih (j + 1) (by omega) (by omega))
          exact ⟨rfl, rfl, rfl, ec, rfl, rfl, trivial⟩
set_option maxRecDepth 100000 in
set_option maxHeartbeats 600000 in
theorem lp_mrs1 (hV : VW V) {bi : Nat} (hb : b = some bi) (hbn : bi < nb) {N : sN} (hW : NW V N) {t z : Nat} (ht : t < V 0 7 0) (hz : z < V 0 4 0) {I1 : Nat → Nat → Nat → Int32} (hB : YB V bi I1) (hN : YN V N I1) (hR : WR V (ON N t) (V 9 t 0) (wys V (N t 0) z) I1) (hm : MX (xu I 13 0 0 (nI 0)) I1) (h2 : 2 ≤ V 0 4 0) (hg : wng V N (nI t) (nI z) = 0)  : ∀ (n : Nat) (k : Nat), (wys V (N t 0) z).length - k < n → k ≤ (wys V (N t 0) z).length → X G vX13_rests (d + 8) (0, 0) 28 [(0, some (.ref (ad 13 0))), (1, some (.int (nI (t)))), (2, some (.int (nI (z)))), (4, some (.int (nI ((gr2 (gp V (ON N t) (V 9 t 0) (wys V (N t 0) z)) (wys V (N t 0) z).length (V 0 4 0) (N t 0) k).1)))), (5, some (.int (nI (k))))] [] (MM ad nb b r I1 L) (xT G (qM ad nb b r I L (a_rests V N (nI t) (nI z)))) := by
  have v0 := hV.1
  have v1 := hV.2.1
  have v2 := hV.2.2.1
  have v3 := hV.2.2.2.1
  have v4 := hV.2.2.2.2.1
  have v7 := hV.2.2.2.2.2.2.2.1
  have v9 := hV.2.2.2.2.2.2.2.2.2.1
  have v10 := hV.2.2.2.2.2.2.2.2.2.2.1
  have hp0 := (hW t ht).1
  have hx65 : (wys V (N t 0) z).length ≤ 65 := ex_65 hV hz hp0
  intro n
  induction n with
  | zero => intro k h0; omega
  | succ n ih =>
    intro k hn hk
    refine x_iload dX13_rests_28 rfl ?_
    refine x_aload_n dX13_rests_30 rfl ?_
    refine g_M_ways fX13_450 dX13_rests_31 ?_
    refine x_top (hR.1) ?_
    refine x_icN_ge 100 dX13_rests_34 (by decide) (by omega) (by omega) (fun h34 => ?_) (fun h34 => ?_)
    · refine x_aload_n dX13_rests_100 rfl ?_
      refine x_iload dX13_rests_101 rfl ?_
      refine x_cvi (m_good) kX13_82 dX13_rests_103 rfl (Nat.le_of_ble_eq_true rfl) rfl rfl (Nat.le_of_ble_eq_true rfl) (fun ru Mu hq => ?_)
      obtain ⟨rfl, rfl⟩ := hq
      refine x_iret dX13_rests_106 rfl ?_
      obtain rfl : k = (wys V (N t 0) z).length := by omega
      refine qM_ok (show a_rests V N _ _ = _ from ?_) hm
      unfold a_rests
      rw [if_pos hg, zN_nI (by omega), zN_nI (by omega)]
      rfl
    · refine x_iconst dX13_rests_37 li_0 ?_
      refine x_istore dX13_rests_38 (by decide) rfl ?_
      refine x_ls ?_ (lp_mrs2 hV hb hbn hW ht hz hB hN hR hm h2 hg h34 ?_ (V 0 4 0 + 1) 0 (by omega) (by omega))
      · exact ⟨rfl, rfl, rfl, rfl, rfl, rfl, trivial⟩
      · refine x_iincN 1 dX13_rests_94 li_1 rfl (by decide) rfl ?_
        refine x_goto 28 dX13_rests_97 (by decide) ?_
        refine x_ls ?_ (ih (k + 1) (by omega) (by omega))
        exact ⟨rfl, rfl, rfl, rfl, rfl, trivial⟩
set_option maxRecDepth 100000 in
set_option maxHeartbeats 600000 in
theorem m_rests (hV : VW V) (hO : YO V nb b I) {N : sN} (hW : NW V N) (hN : YN V N I) {z1 z2 : Int32} : Mt G vX13_rests (d + 8) (0, 0) [.ref (ad 13 0), .int (z1), .int (z2)] (MM ad nb b r I L) (qM ad nb b r I L (a_rests V N z1 z2)) := by
  have v0 := hV.1
  have v1 := hV.2.1
  have v2 := hV.2.2.1
  have v3 := hV.2.2.2.1
  have v4 := hV.2.2.2.2.1
  have v7 := hV.2.2.2.2.2.2.2.1
  have v9 := hV.2.2.2.2.2.2.2.2.2.1
  have v10 := hV.2.2.2.2.2.2.2.2.2.2.1
  have hO := hO.sm (I' := (xu I 13 0 0 (nI 0))) (fun q hq => by funext x y; rw [xu_ns (by omega)])
  have hN := hN.sm (I' := (xu I 13 0 0 (nI 0))) (by funext x y; rw [xu_ns (by decide)])
  have hm := MX.rf (I := (xu I 13 0 0 (nI 0)))
  refine x_start (by decide) (Nat.le_of_ble_eq_true rfl) ?_
  refine x_aload_n dX13_rests_0 rfl ?_
  refine x_iconst dX13_rests_1 li_0 ?_
  refine p_M_thrown fX13_72 dX13_rests_2 ?_
  refine x_aload_n dX13_rests_5 rfl ?_
  refine x_iload_n dX13_rests_6 rfl ?_
  refine x_iload_n dX13_rests_7 rfl ?_
  refine x_cvi (m_asksGame (d := d) hV hO hW hN) kX13_514 dX13_rests_8 rfl (Nat.le_of_ble_eq_true rfl) rfl rfl (Nat.le_of_ble_eq_true rfl) (fun ru Mu hq => ?_)
  obtain ⟨I1, rfl, rfl, hm1, hx⟩ := hq
  have hwg : wng V N z1 z2 ≤ 6 := by unfold wng; repeat (first | omega | split)
  refine x_istore_n dX13_rests_11 (by decide) rfl ?_
  refine x_iload_n dX13_rests_12 rfl ?_
  refine x_ifN_le 22 dX13_rests_13 (by decide) (by omega) (fun h13 => ?_) (fun h13 => ?_)
  · have hg0 : wng V N z1 z2 = 0 := by omega
    obtain ⟨hR, t, z, bi, rfl, ht, rfl, hz, hb, hbn, hB, h2⟩ := hx hg0
    rw [zN_nI (by omega), zN_nI (by omega)] at hR
    refine x_iconst dX13_rests_22 li_0 ?_
    refine x_istore dX13_rests_23 (by decide) rfl ?_
    refine x_iconst dX13_rests_25 li_0 ?_
    refine x_istore dX13_rests_26 (by decide) rfl ?_
    refine x_ls ?_ (lp_mrs1 hV hb hbn hW ht hz (hB.mx hm1) (hN.mx hm1) hR hm1 h2 hg0 ((wys V (N t 0) z).length + 1) 0 (by omega) (by omega))
    exact ⟨rfl, rfl, rfl, rfl, rfl, trivial⟩
  · refine x_aload_n dX13_rests_16 rfl ?_
    refine x_iload_n dX13_rests_17 rfl ?_
    refine x_cvi (m_refused) kX13_78 dX13_rests_18 rfl (Nat.le_of_ble_eq_true rfl) rfl rfl (Nat.le_of_ble_eq_true rfl) (fun ru Mu hq => ?_)
    obtain ⟨rfl, rfl⟩ := hq
    refine x_iret dX13_rests_21 rfl ?_
    refine qM_ok (show a_rests V N z1 z2 = (-1, wng V N z1 z2) from if_neg (by omega)) hm1
set_option maxRecDepth 100000 in
set_option maxHeartbeats 600000 in
theorem lp_mrt2 (hV : VW V) {bi : Nat} (hb : b = some bi) (hbn : bi < nb) {N : sN} (hW : NW V N) {t z : Nat} (ht : t < V 0 7 0) (hz : z < V 0 4 0) {I1 : Nat → Nat → Nat → Int32} (hB : YB V bi I1) (hN : YN V N I1) (hR : WR V (ON N t) (V 9 t 0) (wys V (N t 0) z) I1) (hm : MX (xu I 13 0 0 (nI 0)) I1) (h2 : 2 ≤ V 0 4 0) (hg : wng V N (nI t) (nI z) = 0) {k : Nat} (hk : k < (wys V (N t 0) z).length) (kc : (gr1 (gp V (ON N t) (V 9 t 0) (wys V (N t 0) z)) (wys V (N t 0) z).length (V 0 4 0) (N t 0) k (gr2 (gp V (ON N t) (V 9 t 0) (wys V (N t 0) z)) (wys V (N t 0) z).length (V 0 4 0) (N t 0) k) (V 0 4 0)).1 = 0 → X G vX13_rest (d + 8) (0, 0) 99 [(0, some (.ref (ad 13 0))), (1, some (.int (nI (t)))), (2, some (.int (nI (z)))), (4, some (.int (nI (k))))] [] (MM ad nb b r I1 L) (xT G (qM ad nb b r I L (a_rest V N (nI t) (nI z))))) : ∀ (n : Nat) (j : Nat), V 0 4 0 - j < n → j ≤ V 0 4 0 → (gr1 (gp V (ON N t) (V 9 t 0) (wys V (N t 0) z)) (wys V (N t 0) z).length (V 0 4 0) (N t 0) k (gr2 (gp V (ON N t) (V 9 t 0) (wys V (N t 0) z)) (wys V (N t 0) z).length (V 0 4 0) (N t 0) k) j).1 = 0 → X G vX13_rest (d + 8) (0, 0) 37 [(0, some (.ref (ad 13 0))), (1, some (.int (nI (t)))), (2, some (.int (nI (z)))), (4, some (.int (nI (k)))), (5, some (.int (nI (j))))] [] (MM ad nb b r I1 L) (xT G (qM ad nb b r I L (a_rest V N (nI t) (nI z)))) := by
  have v0 := hV.1
  have v1 := hV.2.1
  have v2 := hV.2.2.1
  have v3 := hV.2.2.2.1
  have v4 := hV.2.2.2.2.1
  have v7 := hV.2.2.2.2.2.2.2.1
  have v9 := hV.2.2.2.2.2.2.2.2.2.1
  have v10 := hV.2.2.2.2.2.2.2.2.2.2.1
  have hp0 := (hW t ht).1
  have hx65 : (wys V (N t 0) z).length ≤ 65 := ex_65 hV hz hp0
  intro n
  induction n with
  | zero => intro j h0; omega
  | succ n ih =>
    intro j hn hj h00
    refine x_iload dX13_rest_37 rfl ?_
    refine x_aload_n dX13_rest_39 rfl ?_
    refine g_M_border hb fX13_397 dX13_rest_40 ?_
    refine g_MB_places fX13_230 dX13_rest_43 hbn ?_
    refine x_top (y12_4 hB) ?_
    refine x_icN_ge 99 dX13_rest_46 (by decide) (by omega) (by omega) (fun h46 => ?_) (fun h46 => ?_)
    · obtain rfl : j = V 0 4 0 := by omega
      refine x_ls ?_ (kc h00)
      exact ⟨rfl, rfl, rfl, rfl, trivial⟩
    · refine x_iload dX13_rest_49 rfl ?_
      refine x_aload_n dX13_rest_51 rfl ?_
      refine g_M_v fX13_17 dX13_rest_52 ?_
      refine x_bipush dX13_rest_55 lb_24 ?_
      refine x_iload_n dX13_rest_57 rfl ?_
      refine x_iaddN dX13_rest_58 ?_
      refine x_iald dX13_rest_59 rfl rfl (Nat.le_of_ble_eq_true rfl) (by first | exact Nat.le_of_ble_eq_true rfl | assumption | omega) ?_
      rw [(hN t ht).2.1]
      refine x_icN_eq 93 dX13_rest_60 (by decide) (by omega) (by omega) (fun h60 => ?_) (fun h60 => ?_)
      · have ec : (gr1 (gp V (ON N t) (V 9 t 0) (wys V (N t 0) z)) (wys V (N t 0) z).length (V 0 4 0) (N t 0) k (gr2 (gp V (ON N t) (V 9 t 0) (wys V (N t 0) z)) (wys V (N t 0) z).length (V 0 4 0) (N t 0) k) (j + 1)).1 = 0 := by rw [show gr1 (gp V (ON N t) (V 9 t 0) (wys V (N t 0) z)) (wys V (N t 0) z).length (V 0 4 0) (N t 0) k (gr2 (gp V (ON N t) (V 9 t 0) (wys V (N t 0) z)) (wys V (N t 0) z).length (V 0 4 0) (N t 0) k) (j + 1) = gr1 (gp V (ON N t) (V 9 t 0) (wys V (N t 0) z)) (wys V (N t 0) z).length (V 0 4 0) (N t 0) k (gr2 (gp V (ON N t) (V 9 t 0) (wys V (N t 0) z)) (wys V (N t 0) z).length (V 0 4 0) (N t 0) k) j from if_neg (fun y => y.1 h60)]; exact h00
        refine x_iincN 1 dX13_rest_93 li_1 rfl (by decide) rfl ?_
        refine x_goto 37 dX13_rest_96 (by decide) ?_
        refine x_ls ?_ (ih (j + 1) (by omega) (by omega) ec)
        exact ⟨rfl, rfl, rfl, rfl, rfl, trivial⟩
      · refine x_aload_n dX13_rest_63 rfl ?_
        refine x_iload_n dX13_rest_64 rfl ?_
        refine x_iload dX13_rest_65 rfl ?_
        refine x_iload dX13_rest_67 rfl ?_
        refine x_cvi (m_isRest (d := d + 7) hV hb hbn hW hB hN ht hR hx65 (k := k) (q := j) hk h46) kX13_517 dX13_rest_69 rfl (Nat.le_of_ble_eq_true rfl) rfl rfl (Nat.le_of_ble_eq_true rfl) (fun ru Mu hq => ?_)
        obtain ⟨rfl, rfl⟩ := hq
        refine x_if_eq 93 dX13_rest_72 (by decide) (fun h72 => ?_) (fun h72 => ?_)
        · have ec : (gr1 (gp V (ON N t) (V 9 t 0) (wys V (N t 0) z)) (wys V (N t 0) z).length (V 0 4 0) (N t 0) k (gr2 (gp V (ON N t) (V 9 t 0) (wys V (N t 0) z)) (wys V (N t 0) z).length (V 0 4 0) (N t 0) k) (j + 1)).1 = 0 := by rw [show gr1 (gp V (ON N t) (V 9 t 0) (wys V (N t 0) z)) (wys V (N t 0) z).length (V 0 4 0) (N t 0) k (gr2 (gp V (ON N t) (V 9 t 0) (wys V (N t 0) z)) (wys V (N t 0) z).length (V 0 4 0) (N t 0) k) (j + 1) = gr1 (gp V (ON N t) (V 9 t 0) (wys V (N t 0) z)) (wys V (N t 0) z).length (V 0 4 0) (N t 0) k (gr2 (gp V (ON N t) (V 9 t 0) (wys V (N t 0) z)) (wys V (N t 0) z).length (V 0 4 0) (N t 0) k) j from if_neg (fun y => by rw [bI_eq.mp h72] at y; exact absurd y.2 (by decide))]; exact h00
          refine x_iincN 1 dX13_rest_93 li_1 rfl (by decide) rfl ?_
          refine x_goto 37 dX13_rest_96 (by decide) ?_
          refine x_ls ?_ (ih (j + 1) (by omega) (by omega) ec)
          exact ⟨rfl, rfl, rfl, rfl, rfl, trivial⟩
        · have ec : gr1 (gp V (ON N t) (V 9 t 0) (wys V (N t 0) z)) (wys V (N t 0) z).length (V 0 4 0) (N t 0) k (gr2 (gp V (ON N t) (V 9 t 0) (wys V (N t 0) z)) (wys V (N t 0) z).length (V 0 4 0) (N t 0) k) (j + 1) = (1, (gp V (ON N t) (V 9 t 0) (wys V (N t 0) z)) k j) := by rw [show gr1 (gp V (ON N t) (V 9 t 0) (wys V (N t 0) z)) (wys V (N t 0) z).length (V 0 4 0) (N t 0) k (gr2 (gp V (ON N t) (V 9 t 0) (wys V (N t 0) z)) (wys V (N t 0) z).length (V 0 4 0) (N t 0) k) (j + 1) = ntF (gr1 (gp V (ON N t) (V 9 t 0) (wys V (N t 0) z)) (wys V (N t 0) z).length (V 0 4 0) (N t 0) k (gr2 (gp V (ON N t) (V 9 t 0) (wys V (N t 0) z)) (wys V (N t 0) z).length (V 0 4 0) (N t 0) k) j) ((gp V (ON N t) (V 9 t 0) (wys V (N t 0) z)) k j) from if_pos ⟨h60, bI_ne.mp h72⟩]; show ((gr1 (gp V (ON N t) (V 9 t 0) (wys V (N t 0) z)) (wys V (N t 0) z).length (V 0 4 0) (N t 0) k (gr2 (gp V (ON N t) (V 9 t 0) (wys V (N t 0) z)) (wys V (N t 0) z).length (V 0 4 0) (N t 0) k) j).1 + 1, if (gr1 (gp V (ON N t) (V 9 t 0) (wys V (N t 0) z)) (wys V (N t 0) z).length (V 0 4 0) (N t 0) k (gr2 (gp V (ON N t) (V 9 t 0) (wys V (N t 0) z)) (wys V (N t 0) z).length (V 0 4 0) (N t 0) k) j).1 = 0 then (gp V (ON N t) (V 9 t 0) (wys V (N t 0) z)) k j else _) = _; rw [if_pos h00, h00]
          have e1 := gr1_kp (P := (gp V (ON N t) (V 9 t 0) (wys V (N t 0) z))) (nw := (wys V (N t 0) z).length) (np := V 0 4 0) (st := N t 0) (k := k) (q := gr2 (gp V (ON N t) (V 9 t 0) (wys V (N t 0) z)) (wys V (N t 0) z).length (V 0 4 0) (N t 0) k) (m := j + 1) (by rw [ec]; exact Nat.zero_lt_one) (V 0 4 0) (by omega)
          have e2 := gr2_kp (P := (gp V (ON N t) (V 9 t 0) (wys V (N t 0) z))) (nw := (wys V (N t 0) z).length) (np := V 0 4 0) (st := N t 0) (m := k + 1) e1.1 (wys V (N t 0) z).length (by omega)
          have e3 : (gmr V N t z).2 = (gp V (ON N t) (V 9 t 0) (wys V (N t 0) z)) k j := by rw [show (gmr V N t z).2 = (gr1 (gp V (ON N t) (V 9 t 0) (wys V (N t 0) z)) (wys V (N t 0) z).length (V 0 4 0) (N t 0) k (gr2 (gp V (ON N t) (V 9 t 0) (wys V (N t 0) z)) (wys V (N t 0) z).length (V 0 4 0) (N t 0) k) (j + 1)).2 from e2.2.trans e1.2, ec]
          have e4 : 0 < (gmr V N t z).1 := e2.1
          have e5 : (gmr V N t z).1 ≤ V 0 4 0 * (wys V (N t 0) z).length := gr2_le _
          have e6 : V 0 4 0 * (wys V (N t 0) z).length ≤ 6 * 65 := Nat.mul_le_mul v4 hx65
          refine x_aload_n dX13_rest_75 rfl ?_
          refine x_aload_n dX13_rest_76 rfl ?_
          refine g_M_gameDuty fX13_54 dX13_rest_77 ?_
          refine x_bipush dX13_rest_80 lb_6 ?_
          refine x_iload dX13_rest_82 rfl ?_
          refine x_imulN dX13_rest_84 ?_
          refine x_iload dX13_rest_85 rfl ?_
          refine x_iaddN dX13_rest_87 ?_
          refine x_iald dX13_rest_88 rfl rfl (Nat.le_of_ble_eq_true rfl) (by first | exact Nat.le_of_ble_eq_true rfl | assumption | omega) ?_
          rw [hR.2.2.1 k hk j (by omega)]
          refine x_cvi (m_good) kX13_82 dX13_rest_89 rfl (Nat.le_of_ble_eq_true rfl) rfl rfl (Nat.le_of_ble_eq_true rfl) (fun ru Mu hq => ?_)
          obtain ⟨rfl, rfl⟩ := hq
          refine x_iret dX13_rest_92 rfl ?_
          refine qM_ok (show a_rest V N _ _ = _ from ?_) hm
          unfold a_rest
          rw [if_pos hg, zN_nI (by omega), zN_nI (by omega), if_neg (fun y => by have := nI_inj (by omega) (by omega) (show nI (gmr V N t z).1 = nI 0 from y); omega), e3]
set_option maxRecDepth 100000 in
set_option maxHeartbeats 600000 in
theorem lp_mrt1 (hV : VW V) {bi : Nat} (hb : b = some bi) (hbn : bi < nb) {N : sN} (hW : NW V N) {t z : Nat} (ht : t < V 0 7 0) (hz : z < V 0 4 0) {I1 : Nat → Nat → Nat → Int32} (hB : YB V bi I1) (hN : YN V N I1) (hR : WR V (ON N t) (V 9 t 0) (wys V (N t 0) z) I1) (hm : MX (xu I 13 0 0 (nI 0)) I1) (h2 : 2 ≤ V 0 4 0) (hg : wng V N (nI t) (nI z) = 0)  : ∀ (n : Nat) (k : Nat), (wys V (N t 0) z).length - k < n → k ≤ (wys V (N t 0) z).length → (gr2 (gp V (ON N t) (V 9 t 0) (wys V (N t 0) z)) (wys V (N t 0) z).length (V 0 4 0) (N t 0) k).1 = 0 → X G vX13_rest (d + 8) (0, 0) 25 [(0, some (.ref (ad 13 0))), (1, some (.int (nI (t)))), (2, some (.int (nI (z)))), (4, some (.int (nI (k))))] [] (MM ad nb b r I1 L) (xT G (qM ad nb b r I L (a_rest V N (nI t) (nI z)))) := by
  have v0 := hV.1
  have v1 := hV.2.1
  have v2 := hV.2.2.1
  have v3 := hV.2.2.2.1
  have v4 := hV.2.2.2.2.1
  have v7 := hV.2.2.2.2.2.2.2.1
  have v9 := hV.2.2.2.2.2.2.2.2.2.1
  have v10 := hV.2.2.2.2.2.2.2.2.2.2.1
  have hp0 := (hW t ht).1
  have hx65 : (wys V (N t 0) z).length ≤ 65 := ex_65 hV hz hp0
  intro n
  induction n with
  | zero => intro k h0; omega
  | succ n ih =>
    intro k hn hk h00
    refine x_iload dX13_rest_25 rfl ?_
    refine x_aload_n dX13_rest_27 rfl ?_
    refine g_M_ways fX13_450 dX13_rest_28 ?_
    refine x_top (hR.1) ?_
    refine x_icN_ge 105 dX13_rest_31 (by decide) (by omega) (by omega) (fun h31 => ?_) (fun h31 => ?_)
    · refine x_aload_n dX13_rest_105 rfl ?_
      refine x_bipush dX13_rest_106 lb_m2 ?_
      refine x_cvi (m_good) kX13_82 dX13_rest_108 rfl (Nat.le_of_ble_eq_true rfl) rfl rfl (Nat.le_of_ble_eq_true rfl) (fun ru Mu hq => ?_)
      obtain ⟨rfl, rfl⟩ := hq
      refine x_iret dX13_rest_111 rfl ?_
      obtain rfl : k = (wys V (N t 0) z).length := by omega
      refine qM_ok (show a_rest V N _ _ = _ from ?_) hm
      unfold a_rest
      rw [if_pos hg, zN_nI (by omega), zN_nI (by omega), if_pos (by rw [show (gmr V N t z).1 = 0 from h00]; rfl)]
    · refine x_iconst dX13_rest_34 li_0 ?_
      refine x_istore dX13_rest_35 (by decide) rfl ?_
      refine x_ls ?_ (lp_mrt2 hV hb hbn hW ht hz hB hN hR hm h2 hg h31 (fun y => ?_) (V 0 4 0 + 1) 0 (by omega) (by omega) h00)
      · exact ⟨rfl, rfl, rfl, rfl, rfl, trivial⟩
      · refine x_iincN 1 dX13_rest_99 li_1 rfl (by decide) rfl ?_
        refine x_goto 25 dX13_rest_102 (by decide) ?_
        refine x_ls ?_ (ih (k + 1) (by omega) (by omega) y)
        exact ⟨rfl, rfl, rfl, rfl, trivial⟩
set_option maxRecDepth 100000 in
set_option maxHeartbeats 600000 in
theorem m_rest (hV : VW V) (hO : YO V nb b I) {N : sN} (hW : NW V N) (hN : YN V N I) {z1 z2 : Int32} : Mt G vX13_rest (d + 8) (0, 0) [.ref (ad 13 0), .int (z1), .int (z2)] (MM ad nb b r I L) (qM ad nb b r I L (a_rest V N z1 z2)) := by
  have v0 := hV.1
  have v1 := hV.2.1
  have v2 := hV.2.2.1
  have v3 := hV.2.2.2.1
  have v4 := hV.2.2.2.2.1
  have v7 := hV.2.2.2.2.2.2.2.1
  have v9 := hV.2.2.2.2.2.2.2.2.2.1
  have v10 := hV.2.2.2.2.2.2.2.2.2.2.1
  have hO := hO.sm (I' := (xu I 13 0 0 (nI 0))) (fun q hq => by funext x y; rw [xu_ns (by omega)])
  have hN := hN.sm (I' := (xu I 13 0 0 (nI 0))) (by funext x y; rw [xu_ns (by decide)])
  have hm := MX.rf (I := (xu I 13 0 0 (nI 0)))
  refine x_start (by decide) (Nat.le_of_ble_eq_true rfl) ?_
  refine x_aload_n dX13_rest_0 rfl ?_
  refine x_iconst dX13_rest_1 li_0 ?_
  refine p_M_thrown fX13_72 dX13_rest_2 ?_
  refine x_aload_n dX13_rest_5 rfl ?_
  refine x_iload_n dX13_rest_6 rfl ?_
  refine x_iload_n dX13_rest_7 rfl ?_
  refine x_cvi (m_asksGame (d := d) hV hO hW hN) kX13_514 dX13_rest_8 rfl (Nat.le_of_ble_eq_true rfl) rfl rfl (Nat.le_of_ble_eq_true rfl) (fun ru Mu hq => ?_)
  obtain ⟨I1, rfl, rfl, hm1, hx⟩ := hq
  have hwg : wng V N z1 z2 ≤ 6 := by unfold wng; repeat (first | omega | split)
  refine x_istore_n dX13_rest_11 (by decide) rfl ?_
  refine x_iload_n dX13_rest_12 rfl ?_
  refine x_ifN_le 22 dX13_rest_13 (by decide) (by omega) (fun h13 => ?_) (fun h13 => ?_)
  · have hg0 : wng V N z1 z2 = 0 := by omega
    obtain ⟨hR, t, z, bi, rfl, ht, rfl, hz, hb, hbn, hB, h2⟩ := hx hg0
    rw [zN_nI (by omega), zN_nI (by omega)] at hR
    refine x_iconst dX13_rest_22 li_0 ?_
    refine x_istore dX13_rest_23 (by decide) rfl ?_
    refine x_ls ?_ (lp_mrt1 hV hb hbn hW ht hz (hB.mx hm1) (hN.mx hm1) hR hm1 h2 hg0 ((wys V (N t 0) z).length + 1) 0 (by omega) (by omega) rfl)
    exact ⟨rfl, rfl, rfl, rfl, trivial⟩
  · refine x_aload_n dX13_rest_16 rfl ?_
    refine x_iload_n dX13_rest_17 rfl ?_
    refine x_cvi (m_refused) kX13_78 dX13_rest_18 rfl (Nat.le_of_ble_eq_true rfl) rfl rfl (Nat.le_of_ble_eq_true rfl) (fun ru Mu hq => ?_)
    obtain ⟨rfl, rfl⟩ := hq
    refine x_iret dX13_rest_21 rfl ?_
    refine qM_ok (show a_rest V N z1 z2 = (-1, wng V N z1 z2) from if_neg (by omega)) hm1
end M19
