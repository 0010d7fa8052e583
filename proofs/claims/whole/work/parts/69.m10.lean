section M10
variable {G : xG} {ad : Nat → Nat → Nat} {nb : Nat} {b r : Option Nat} {L : Nat → Nat → Nat → Int64} {V : sV} {I : Nat → Nat → Nat → Int32} {d : Nat}

theorem YS.t0 {N : sN} {h : sH} {mk : List sN} (hY : YS V N h mk I) : YS V N h mk (xu I 13 0 0 (nI 0)) := by
  have e : ∀ s, s ≠ 13 → xu I 13 0 0 (nI 0) s = I s := fun s hs => by funext x y; rw [xu_ns hs]
  exact ⟨hY.1.sm (e 85 (by decide)), hY.2.1.sm (e 86 (by decide)) (by rw [xu_nk (by decide)]), hY.2.2.sm (e 87 (by decide)) (by rw [xu_nk (by decide)])⟩
theorem YS.act {N : sN} {h : sH} {mk : List sN} {t : Nat} {f : Nat → Nat} (hN : YN V (upN N t f) I) (hP : YP V ((N :: hs N h).take 16) I) (hK : YK V mk I) : YS V (upN N t f) (kp N h t) mk I := ⟨hN, by rw [hs_kp]; exact hP, hK⟩
theorem MZ.rem {I' : Nat → Nat → Nat → Int32} (h1 : ∀ s, s ≠ 86 → s ≠ 13 → I' s = I s) (h2 : ∀ k, k ≠ 19 → I' 13 0 k = I 13 0 k) : MZ I I' := ⟨fun s _ h13 _ h86 _ => h1 s h86 h13, fun k _ h19 _ => h2 k h19⟩
theorem MZ.of2 {I' : Nat → Nat → Nat → Int32} (h : ∀ q, q ≠ 88 → q ≠ 85 → I' q = I q) : MZ I I' := ⟨fun s hm _ h85 _ _ => h s (fun z => hm (by unfold msc; omega)) h85, fun k _ _ _ => by rw [h 13 (by decide) (by decide)]⟩
theorem upN_t {N : sN} {t : Nat} {f : Nat → Nat} : upN N t f t = f := if_pos rfl
theorem upN_n {N : sN} {t u : Nat} {f : Nat → Nat} (h : u ≠ t) : upN N t f u = N u := if_neg h
theorem cvr_cg {g g' : Nat → Nat} : ∀ n, (∀ s, s < n → g s = g' s) → cvr V g n = cvr V g' n
  | 0, _ => rfl
  | n + 1, h => by unfold cvr; rw [cvr_cg n (fun s hs => h s (by omega)), h n (by omega)]
theorem unc_cg {g g' : Nat → Nat} {s : Nat} (h : ∀ s, s < V 0 2 0 → g s = g' s) (hs : s < V 0 2 0) : unc V g s = unc V g' s := by unfold unc; rw [h s hs, cvr_cg _ h]
theorem tls_cg {g g' : Nat → Nat} {land skill : Nat} (h : ∀ s, s < V 0 2 0 → g s = g' s) : ∀ n, n ≤ V 0 2 0 → tls V g land skill n = tls V g' land skill n
  | 0, _ => rfl
  | n + 1, hn => by unfold tls; rw [tls_cg h n (by omega), unc_cg h (show n < V 0 2 0 by omega)]
theorem dgn_cg {g g' : Nat → Nat} {so q m : Nat} (h : ∀ s, s < V 0 2 0 → g s = g' s) : dgn V g so q m = dgn V g' so q m := by unfold dgn tol; rw [tls_cg h _ (Nat.le_refl _)]

theorem nar_b0 : narrow .boolean (.int (nI 0)) = .int (nI 0) := by decide
theorem nar_b1 : narrow .boolean (.int (nI 1)) = .int (nI 1) := by decide
set_option maxRecDepth 100000 in
set_option maxHeartbeats 600000 in
theorem m_waits (hV : VW V) (hO : YO V nb b I) {N : sN} {h : sH} {mk : List sN} (hW : NW V N) (hY : YS V N h mk I) {z1 z2 : Int32} : Mt G vX13_waits (d + 3) (0, 0) [.ref (ad 13 0), .int (z1), .int (z2)] (MM ad nb b r I L) (qZ V ad nb b r I L (t_waits V N h mk z1 z2)) := by
  have v0 := hV.1
  have v1 := hV.2.1
  have v2 := hV.2.2.1
  have v3 := hV.2.2.2.1
  have v4 := hV.2.2.2.2.1
  have v7 := hV.2.2.2.2.2.2.2.1
  have v9 := hV.2.2.2.2.2.2.2.2.2.1
  have v10 := hV.2.2.2.2.2.2.2.2.2.2.1
  have hO := hO.sm (I' := (xu I 13 0 0 (nI 0))) (fun q hq => by funext x y; rw [xu_ns (by omega)])
  have hY := hY.t0
  have hN := hY.1
  have hm := MZ.rf (I := (xu I 13 0 0 (nI 0)))
  refine x_start (by decide) (Nat.le_of_ble_eq_true rfl) ?_
  refine x_aload_n dX13_waits_0 rfl ?_
  refine x_iconst dX13_waits_1 li_0 ?_
  refine p_M_thrown fX13_72 dX13_waits_2 ?_
  refine x_aload_n dX13_waits_5 rfl ?_
  refine x_iload_n dX13_waits_6 rfl ?_
  refine x_cvi (m_isTraveller' hV hO) kX13_425 dX13_waits_7 rfl (Nat.le_of_ble_eq_true rfl) rfl rfl (Nat.le_of_ble_eq_true rfl) (fun ru Mu hq => ?_)
  obtain ⟨rfl, rfl⟩ := hq
  refine x_if_ne 19 dX13_waits_10 (by decide) (fun h10 => ?_) (fun h10 => ?_)
  · have qt := bI_ne.mp h10
    obtain ⟨t, ht, rfl⟩ := inr_of qt (by omega)
    obtain ⟨bi, hb, hbn, hB⟩ := hO.some (show V 0 7 0 ≠ 0 by omega) (by decide)
    refine x_iload_n dX13_waits_19 rfl ?_
    refine x_iconst dX13_waits_20 li_1 ?_
    refine x_bipush dX13_waits_21 lb_99 ?_
    refine x_csi (m_in) kX13_150 dX13_waits_23 rfl rfl (Nat.le_of_ble_eq_true rfl) (fun ru Mu hq => ?_)
    obtain ⟨rfl, rfl⟩ := hq
    refine x_if_ne 35 dX13_waits_26 (by decide) (fun h26 => ?_) (fun h26 => ?_)
    · have qw := bI_ne.mp h26
      obtain ⟨H, hlH, hH, rfl⟩ := wth_of qw (by omega) (by omega)
      refine x_aload_n dX13_waits_35 rfl ?_
      refine x_cvv (m_remembers (d := d + 2) hV hN hY.2.1) kX13_534 dX13_waits_36 rfl (Nat.le_of_ble_eq_true rfl) rfl rfl (Nat.le_of_ble_eq_true rfl) (fun Mu hq => ?_)
      obtain ⟨I1, rfl, r1, r2, r3⟩ := hq
      have m1 := hm.tr (MZ.rem r2 r3)
      refine x_aload_n dX13_waits_39 rfl ?_
      refine x_iload_n dX13_waits_40 rfl ?_
      refine x_iload_n dX13_waits_41 rfl ?_
      refine x_cvv (m_goesBy (d := d) (H := H) hV hb hbn hW (hB.mz m1) (hN.sm (r2 85 (by decide) (by decide))) ht hH) kX13_537 dX13_waits_42 rfl (Nat.le_of_ble_eq_true rfl) rfl rfl (Nat.le_of_ble_eq_true rfl) (fun Mu hq => ?_)
      obtain ⟨I2, rfl, g1, g2, g3⟩ := hq
      have m2 := m1.tr (MZ.of2 g3)
      refine x_aload_n dX13_waits_45 rfl ?_
      refine x_aload_n dX13_waits_46 rfl ?_
      refine g_M_v fX13_17 dX13_waits_47 ?_
      refine x_bipush dX13_waits_50 lb_32 ?_
      refine x_iload_n dX13_waits_52 rfl ?_
      refine x_iaddN dX13_waits_53 ?_
      refine x_iald dX13_waits_54 rfl rfl (Nat.le_of_ble_eq_true rfl) (by first | exact Nat.le_of_ble_eq_true rfl | assumption | omega) ?_
      rw [(g1 t ht).2.2.2]
      refine x_cvi (m_good) kX13_82 dX13_waits_55 rfl (Nat.le_of_ble_eq_true rfl) rfl rfl (Nat.le_of_ble_eq_true rfl) (fun ru Mu hq => ?_)
      obtain ⟨rfl, rfl⟩ := hq
      refine x_iret dX13_waits_58 rfl ?_
      refine qZ_ok (show t_waits V N h mk _ _ = _ from ?_) m2 (YS.act g1 (r1.sm (g3 86 (by decide) (by decide)) (by rw [g3 13 (by decide) (by decide)])) ((hY.2.2.sm (r2 87 (by decide) (by decide)) (r3 20 (by decide))).sm (g3 87 (by decide) (by decide)) (by rw [g3 13 (by decide) (by decide)])))
      unfold t_waits
      rw [if_pos qt, if_pos qw, zN_nI (by omega), zN_nI (by omega), upN_t]
      rfl
    · refine x_aload_n dX13_waits_29 rfl ?_
      refine x_iconst dX13_waits_30 li_2 ?_
      refine x_cvi (m_refused) kX13_78 dX13_waits_31 rfl (Nat.le_of_ble_eq_true rfl) rfl rfl (Nat.le_of_ble_eq_true rfl) (fun ru Mu hq => ?_)
      obtain ⟨rfl, rfl⟩ := hq
      refine x_iret dX13_waits_34 rfl ?_
      refine qZ_ok (show t_waits V N h mk _ _ = ((-1, 2), N, h, mk) from ?_) hm hY
      unfold t_waits
      rw [if_pos qt, if_neg (by simp [bI_eq.mp h26])]
  · refine x_aload_n dX13_waits_13 rfl ?_
    refine x_iconst dX13_waits_14 li_1 ?_
    refine x_cvi (m_refused) kX13_78 dX13_waits_15 rfl (Nat.le_of_ble_eq_true rfl) rfl rfl (Nat.le_of_ble_eq_true rfl) (fun ru Mu hq => ?_)
    obtain ⟨rfl, rfl⟩ := hq
    refine x_iret dX13_waits_18 rfl ?_
    refine qZ_ok (show t_waits V N h mk _ _ = ((-1, 1), N, h, mk) from if_neg (by first | simp [bI_eq.mp h10])) hm hY

theorem god_eq {N : sN} {t q : Nat} : god V N t q = dgn V (fun s => xf V (ON N t) (V 7 (N t 0) q) s / 2) (V 9 t 0) q (V 6 q 0) := by
  unfold god dbh
  show dgn V (str V (fun s => upN N t (gon V N t q) t (3 + s)) 0 0) (V 9 t 0) q (V 6 q 0) = _
  rw [upN_t]
  refine dgn_cg (fun s hs => ?_)
  unfold str gon pas
  dsimp only
  rw [if_neg (by omega), if_neg (by omega), if_pos (by omega), Nat.add_sub_cancel_left, Nat.mul_zero]
  rfl

set_option maxRecDepth 100000 in
set_option maxHeartbeats 600000 in
theorem m_go (hV : VW V) (hO : YO V nb b I) {N : sN} {h : sH} {mk : List sN} (hW : NW V N) (hY : YS V N h mk I) {z1 z2 : Int32} : Mt G vX13_go (d + 4) (0, 0) [.ref (ad 13 0), .int (z1), .int (z2)] (MM ad nb b r I L) (qZ V ad nb b r I L (t_go V N h mk z1 z2)) := by
  have v0 := hV.1
  have v1 := hV.2.1
  have v2 := hV.2.2.1
  have v3 := hV.2.2.2.1
  have v4 := hV.2.2.2.2.1
  have v7 := hV.2.2.2.2.2.2.2.1
  have v9 := hV.2.2.2.2.2.2.2.2.2.1
  have v10 := hV.2.2.2.2.2.2.2.2.2.2.1
  have hO := hO.sm (I' := (xu I 13 0 0 (nI 0))) (fun q hq => by funext x y; rw [xu_ns (by omega)])
  have hY := hY.t0
  have hN := hY.1
  have hm := MZ.rf (I := (xu I 13 0 0 (nI 0)))
  refine x_start (by decide) (Nat.le_of_ble_eq_true rfl) ?_
  refine x_aload_n dX13_go_0 rfl ?_
  refine x_iconst dX13_go_1 li_0 ?_
  refine p_M_thrown fX13_72 dX13_go_2 ?_
  refine x_aload_n dX13_go_5 rfl ?_
  refine x_iload_n dX13_go_6 rfl ?_
  refine x_cvi (m_isTraveller' hV hO) kX13_425 dX13_go_7 rfl (Nat.le_of_ble_eq_true rfl) rfl rfl (Nat.le_of_ble_eq_true rfl) (fun ru Mu hq => ?_)
  obtain ⟨rfl, rfl⟩ := hq
  refine x_if_eq 21 dX13_go_10 (by decide) (fun h10 => ?_) (fun h10 => ?_)
  · refine x_aload_n dX13_go_21 rfl ?_
    refine x_iconst dX13_go_22 li_1 ?_
    refine x_cvi (m_refused) kX13_78 dX13_go_23 rfl (Nat.le_of_ble_eq_true rfl) rfl rfl (Nat.le_of_ble_eq_true rfl) (fun ru Mu hq => ?_)
    obtain ⟨rfl, rfl⟩ := hq
    refine x_iret dX13_go_26 rfl ?_
    refine qZ_ok (show t_go V N h mk _ _ = ((-1, 1), N, h, mk) from if_neg (by first | simp [bI_eq.mp h10] | simp [bI_eq.mp h18])) hm hY
  · have qt := bI_ne.mp h10
    obtain ⟨t, ht, rfl⟩ := inr_of qt (by omega)
    obtain ⟨bi, hb, hbn, hB⟩ := hO.some (show V 0 7 0 ≠ 0 by omega) (by decide)
    refine x_aload_n dX13_go_13 rfl ?_
    refine x_iload_n dX13_go_14 rfl ?_
    refine x_cvi (m_isPlace' hV hO) kX13_422 dX13_go_15 rfl (Nat.le_of_ble_eq_true rfl) rfl rfl (Nat.le_of_ble_eq_true rfl) (fun ru Mu hq => ?_)
    obtain ⟨rfl, rfl⟩ := hq
    refine x_if_ne 27 dX13_go_18 (by decide) (fun h18 => ?_) (fun h18 => ?_)
    · have qq := bI_ne.mp h18
      obtain ⟨q, hq, rfl⟩ := inr_of qq (by omega)
      have hp0 := (hW t ht).1
      have h7 := hV.2.2.2.2.2.2.2.2.2.2.2.2.2.2.2.2.1 (N t 0) q
      refine x_aload_n dX13_go_27 rfl ?_
      refine g_M_border hb fX13_397 dX13_go_28 ?_
      refine g_MB_hours fX13_334 dX13_go_31 hbn ?_
      refine x_bipush dX13_go_34 lb_6 ?_
      refine x_aload_n dX13_go_36 rfl ?_
      refine g_M_v fX13_17 dX13_go_37 ?_
      refine x_bipush dX13_go_40 lb_24 ?_
      refine x_iload_n dX13_go_42 rfl ?_
      refine x_iaddN dX13_go_43 ?_
      refine x_iald dX13_go_44 rfl rfl (Nat.le_of_ble_eq_true rfl) (by first | exact Nat.le_of_ble_eq_true rfl | assumption | omega) ?_
      rw [hN t ht |>.2.1]
      refine x_imulN dX13_go_45 ?_
      refine x_iload_n dX13_go_46 rfl ?_
      refine x_iaddN dX13_go_47 ?_
      refine x_iald dX13_go_48 rfl rfl hbn (by first | exact Nat.le_of_ble_eq_true rfl | assumption | omega) ?_
      refine x_top (y70 hB (by first | assumption | omega) (by first | assumption | omega)) ?_
      refine x_istore_n dX13_go_49 (by decide) rfl ?_
      refine x_iload_n dX13_go_50 rfl ?_
      refine x_ifN_ne 60 dX13_go_51 (by decide) (by omega) (fun h51 => ?_) (fun h51 => ?_)
      · refine x_aload_n dX13_go_60 rfl ?_
        refine x_cvv (m_remembers (d := d + 3) hV hN hY.2.1) kX13_534 dX13_go_61 rfl (Nat.le_of_ble_eq_true rfl) rfl rfl (Nat.le_of_ble_eq_true rfl) (fun Mu hq => ?_)
        obtain ⟨I1, rfl, r1, r2, r3⟩ := hq
        have m1 := hm.tr (MZ.rem r2 r3)
        refine x_aload_n dX13_go_64 rfl ?_
        refine x_iload_n dX13_go_65 rfl ?_
        refine x_iload_n dX13_go_66 rfl ?_
        refine x_cvv (m_goesBy (d := d + 1) (H := V 7 (N t 0) q) hV hb hbn hW (hB.mz m1) (hN.sm (r2 85 (by decide) (by decide))) ht (by omega)) kX13_537 dX13_go_67 rfl (Nat.le_of_ble_eq_true rfl) rfl rfl (Nat.le_of_ble_eq_true rfl) (fun Mu hq => ?_)
        obtain ⟨I2, rfl, g1, g2, g3⟩ := hq
        have m2 := m1.tr (MZ.of2 g3)
        refine x_aload_n dX13_go_70 rfl ?_
        refine x_cvv (m_posted (d := d + 3) hV hb hbn (hB.mz m2)) kX13_433 dX13_go_71 rfl (Nat.le_of_ble_eq_true rfl) rfl rfl (Nat.le_of_ble_eq_true rfl) (fun Mu hq => ?_)
        obtain ⟨I3, rfl, k1, k2⟩ := hq
        have m3 := m2.tr (MX.of k2 (by unfold msc; omega)).mz
        refine x_aload_n dX13_go_74 rfl ?_
        refine g_M_v fX13_17 dX13_go_75 ?_
        refine x_bipush dX13_go_78 lb_24 ?_
        refine x_iload_n dX13_go_80 rfl ?_
        refine x_iaddN dX13_go_81 ?_
        refine x_iload_n dX13_go_82 rfl ?_
        refine x_iast dX13_go_83 rfl rfl (Nat.le_of_ble_eq_true rfl) (by first | exact Nat.le_of_ble_eq_true rfl | assumption | omega) ?_
        refine x_aload_n dX13_go_84 rfl ?_
        refine x_iload_n dX13_go_85 rfl ?_
        refine x_iload_n dX13_go_86 rfl ?_
        refine x_cvi (m_dutyAt (d := d) (g := xf V (ON N t) (V 7 (N t 0) q)) hV hb hbn (hB.mz (m3.xu (Or.inl rfl))) (fun s hs => by rw [xu_ns (by decide), k2 88 (by decide)]; exact g2 s hs) (fun s hs => xf_le ((hW t ht).2 s (by omega))) (nz := fun p => V 6 p 0) (fun p hp => by rw [xu_ns (by decide)]; exact k1 p hp) (fun p hp => (hV.2.2.2.2.2.2.2.2.2.2.2.2.2.2.2.1 p hp).2) ht hq) kX13_442 dX13_go_87 rfl (Nat.le_of_ble_eq_true rfl) rfl rfl (Nat.le_of_ble_eq_true rfl) (fun ru Mu hqq => ?_)
        obtain ⟨rfl, rfl⟩ := hqq
        rw [← god_eq]
        refine x_istore dX13_go_90 (by decide) rfl ?_
        refine x_aload_n dX13_go_92 rfl ?_
        refine g_M_v fX13_17 dX13_go_93 ?_
        refine x_bipush dX13_go_96 lb_28 ?_
        refine x_iload_n dX13_go_98 rfl ?_
        refine x_iaddN dX13_go_99 ?_
        refine x_dup2 dX13_go_100 rfl rfl ?_
        refine x_iald dX13_go_101 rfl rfl (Nat.le_of_ble_eq_true rfl) (by first | exact Nat.le_of_ble_eq_true rfl | assumption | omega) ?_
        rw [xu_nk (by omega), k2 85 (by decide), (g1 t ht).2.2.1, upN_t]
        refine x_iload dX13_go_102 rfl ?_
        refine x_iaddN dX13_go_104 ?_
        refine x_iast dX13_go_105 rfl rfl (Nat.le_of_ble_eq_true rfl) (by first | exact Nat.le_of_ble_eq_true rfl | assumption | omega) ?_
        refine x_aload_n dX13_go_106 rfl ?_
        refine x_iload dX13_go_107 rfl ?_
        refine x_cvi (m_good) kX13_82 dX13_go_109 rfl (Nat.le_of_ble_eq_true rfl) rfl rfl (Nat.le_of_ble_eq_true rfl) (fun ru Mu hq => ?_)
        obtain ⟨rfl, rfl⟩ := hq
        refine x_iret dX13_go_112 rfl ?_
        refine qZ_ok (show t_go V N h mk _ _ = ((nI (god V N t q), 0), upN N t (fun k => if k = 1 then N t 1 + god V N t q else gon V N t q k), kp N h t, mk) from ?_) ((m3.xu (Or.inl rfl)).xu (Or.inl rfl)) (YS.act (fun u hu => ?_) (r1.sm ?_ ?_) ((hY.2.2.sm (r2 87 (by decide) (by decide)) (r3 20 (by decide))).sm ?_ ?_))
        · unfold t_go
          rw [if_pos (by rw [qt, qq]; rfl), zN_nI (by omega), zN_nI (by omega), if_neg (by omega)]
        · obtain ⟨n1, n2, n3, n4⟩ := g1 u hu
          by_cases e0 : u = t
          · subst e0
            rw [upN_t] at n1 n2 n3 n4 ⊢
            refine ⟨fun s h6 => ?_, ?_, ?_, ?_⟩
            · rw [xu_nk (by omega), xu_nk (by omega), k2 85 (by decide), n1 s h6, if_neg (by omega)]; unfold gon; rw [if_neg (by omega)]
            · rw [xu_nk (by omega), xu_s]; rfl
            · rw [xu_s]; rfl
            · rw [xu_nk (by omega), xu_nk (by omega), k2 85 (by decide), n4]; rfl
          · rw [upN_n e0] at n1 n2 n3 n4 ⊢
            refine ⟨fun s h6 => ?_, ?_, ?_, ?_⟩
            · rw [xu_nk (by omega), xu_nk (by omega), k2 85 (by decide), n1 s h6]
            · rw [xu_nk (by omega), xu_nk (by omega), k2 85 (by decide), n2]
            · rw [xu_nk (by omega), xu_nk (by omega), k2 85 (by decide), n3]
            · rw [xu_nk (by omega), xu_nk (by omega), k2 85 (by decide), n4]
        · rw [← g3 86 (by decide) (by decide), ← k2 86 (by decide)]; funext x y; rw [xu_ns (by decide), xu_ns (by decide)]
        · rw [xu_ns (by decide), xu_ns (by decide), k2 13 (by decide), g3 13 (by decide) (by decide)]
        · rw [← g3 87 (by decide) (by decide), ← k2 87 (by decide)]; funext x y; rw [xu_ns (by decide), xu_ns (by decide)]
        · rw [xu_ns (by decide), xu_ns (by decide), k2 13 (by decide), g3 13 (by decide) (by decide)]
      · refine x_aload_n dX13_go_54 rfl ?_
        refine x_iconst dX13_go_55 li_5 ?_
        refine x_cvi (m_refused) kX13_78 dX13_go_56 rfl (Nat.le_of_ble_eq_true rfl) rfl rfl (Nat.le_of_ble_eq_true rfl) (fun ru Mu hq => ?_)
        obtain ⟨rfl, rfl⟩ := hq
        refine x_iret dX13_go_59 rfl ?_
        refine qZ_ok (show t_go V N h mk _ _ = ((-1, 5), N, h, mk) from ?_) hm hY
        unfold t_go
        rw [if_pos (by rw [qt, qq]; rfl), zN_nI (by omega), zN_nI (by omega), if_pos (by omega)]
    · refine x_aload_n dX13_go_21 rfl ?_
      refine x_iconst dX13_go_22 li_1 ?_
      refine x_cvi (m_refused) kX13_78 dX13_go_23 rfl (Nat.le_of_ble_eq_true rfl) rfl rfl (Nat.le_of_ble_eq_true rfl) (fun ru Mu hq => ?_)
      obtain ⟨rfl, rfl⟩ := hq
      refine x_iret dX13_go_26 rfl ?_
      refine qZ_ok (show t_go V N h mk _ _ = ((-1, 1), N, h, mk) from if_neg (by first | simp [bI_eq.mp h10] | simp [bI_eq.mp h18])) hm hY
set_option maxRecDepth 100000 in
set_option maxHeartbeats 600000 in
theorem m_spray (hV : VW V) (hO : YO V nb b I) {N : sN} {h : sH} {mk : List sN} (hW : NW V N) (hY : YS V N h mk I) {z1 z2 z3 : Int32} : Mt G vX13_spray (d + 2) (0, 0) [.ref (ad 13 0), .int (z1), .int (z2), .int (z3)] (MM ad nb b r I L) (qZ V ad nb b r I L (t_spray V N h mk z1 z2 z3)) := by
  have v0 := hV.1
  have v1 := hV.2.1
  have v2 := hV.2.2.1
  have v3 := hV.2.2.2.1
  have v4 := hV.2.2.2.2.1
  have v7 := hV.2.2.2.2.2.2.2.1
  have v9 := hV.2.2.2.2.2.2.2.2.2.1
  have v10 := hV.2.2.2.2.2.2.2.2.2.2.1
  have hO := hO.sm (I' := (xu I 13 0 0 (nI 0))) (fun q hq => by funext x y; rw [xu_ns (by omega)])
  have hY := hY.t0
  have hN := hY.1
  have hm := MZ.rf (I := (xu I 13 0 0 (nI 0)))
  refine x_start (by decide) (Nat.le_of_ble_eq_true rfl) ?_
  refine x_aload_n dX13_spray_0 rfl ?_
  refine x_iconst dX13_spray_1 li_0 ?_
  refine p_M_thrown fX13_72 dX13_spray_2 ?_
  refine x_aload_n dX13_spray_5 rfl ?_
  refine x_iload_n dX13_spray_6 rfl ?_
  refine x_cvi (m_isTraveller' hV hO) kX13_425 dX13_spray_7 rfl (Nat.le_of_ble_eq_true rfl) rfl rfl (Nat.le_of_ble_eq_true rfl) (fun ru Mu hq => ?_)
  obtain ⟨rfl, rfl⟩ := hq
  refine x_if_eq 21 dX13_spray_10 (by decide) (fun h10 => ?_) (fun h10 => ?_)
  · refine x_aload_n dX13_spray_21 rfl ?_
    refine x_iconst dX13_spray_22 li_1 ?_
    refine x_cvi (m_denied) kX13_540 dX13_spray_23 rfl (Nat.le_of_ble_eq_true rfl) rfl rfl (Nat.le_of_ble_eq_true rfl) (fun ru Mu hq => ?_)
    obtain ⟨rfl, rfl⟩ := hq
    refine x_zret dX13_spray_26 rfl nar_b0 ?_
    refine qZ_ok (show t_spray V N h mk _ _ _ = ((nI 0, 1), N, h, mk) from if_neg (by first | simp [bI_eq.mp h10] | simp [bI_eq.mp h18])) hm hY
  · have qt := bI_ne.mp h10
    obtain ⟨t, ht, rfl⟩ := inr_of qt (by omega)
    obtain ⟨bi, hb, hbn, hB⟩ := hO.some (show V 0 7 0 ≠ 0 by omega) (by decide)
    refine x_aload_n dX13_spray_13 rfl ?_
    refine x_iload_n dX13_spray_14 rfl ?_
    refine x_cvi (m_isSmell' hV hO) kX13_419 dX13_spray_15 rfl (Nat.le_of_ble_eq_true rfl) rfl rfl (Nat.le_of_ble_eq_true rfl) (fun ru Mu hq => ?_)
    obtain ⟨rfl, rfl⟩ := hq
    refine x_if_ne 27 dX13_spray_18 (by decide) (fun h18 => ?_) (fun h18 => ?_)
    · have qs := bI_ne.mp h18
      obtain ⟨s, hs, rfl⟩ := inr_of qs (by omega)
      refine x_iload_n dX13_spray_27 rfl ?_
      refine x_iconst dX13_spray_28 li_0 ?_
      refine x_bipush dX13_spray_29 lb_99 ?_
      refine x_csi (m_in) kX13_150 dX13_spray_31 rfl rfl (Nat.le_of_ble_eq_true rfl) (fun ru Mu hq => ?_)
      obtain ⟨rfl, rfl⟩ := hq
      refine x_if_ne 43 dX13_spray_34 (by decide) (fun h34 => ?_) (fun h34 => ?_)
      · have qw := bI_ne.mp h34
        obtain ⟨c, hlc, hc, rfl⟩ := wth_of qw (by omega) (by omega)
        refine x_aload_n dX13_spray_43 rfl ?_
        refine g_M_v fX13_17 dX13_spray_44 ?_
        refine x_bipush dX13_spray_47 lb_6 ?_
        refine x_iload_n dX13_spray_49 rfl ?_
        refine x_imulN dX13_spray_50 ?_
        refine x_iload_n dX13_spray_51 rfl ?_
        refine x_iaddN dX13_spray_52 ?_
        refine x_iald dX13_spray_53 rfl rfl (Nat.le_of_ble_eq_true rfl) (by first | exact Nat.le_of_ble_eq_true rfl | assumption | omega) ?_
        rw [(hN t ht).1 s (by omega)]
        have h198 := (hW t ht).2 s (by omega)
        refine x_iconst dX13_spray_54 li_2 ?_
        refine x_iload_n dX13_spray_55 rfl ?_
        refine x_imulN dX13_spray_56 ?_
        refine x_icN_ne 66 dX13_spray_57 (by decide) (by omega) (by omega) (fun h57 => ?_) (fun h57 => ?_)
        · refine x_aload_n dX13_spray_66 rfl ?_
          refine x_cvv (m_remembers (d := d + 1) hV hN hY.2.1) kX13_534 dX13_spray_67 rfl (Nat.le_of_ble_eq_true rfl) rfl rfl (Nat.le_of_ble_eq_true rfl) (fun Mu hq => ?_)
          obtain ⟨I1, rfl, r1, r2, r3⟩ := hq
          have m1 := hm.tr (MZ.rem r2 r3)
          refine x_aload_n dX13_spray_70 rfl ?_
          refine g_M_v fX13_17 dX13_spray_71 ?_
          refine x_bipush dX13_spray_74 lb_6 ?_
          refine x_iload_n dX13_spray_76 rfl ?_
          refine x_imulN dX13_spray_77 ?_
          refine x_iload_n dX13_spray_78 rfl ?_
          refine x_iaddN dX13_spray_79 ?_
          refine x_iconst dX13_spray_80 li_2 ?_
          refine x_iload_n dX13_spray_81 rfl ?_
          refine x_imulN dX13_spray_82 ?_
          refine x_iast dX13_spray_83 rfl rfl (Nat.le_of_ble_eq_true rfl) (by first | exact Nat.le_of_ble_eq_true rfl | assumption | omega) ?_
          refine x_aload_n dX13_spray_84 rfl ?_
          refine x_cvi (m_granted) kX13_543 dX13_spray_85 rfl (Nat.le_of_ble_eq_true rfl) rfl rfl (Nat.le_of_ble_eq_true rfl) (fun ru Mu hq => ?_)
          obtain ⟨rfl, rfl⟩ := hq
          refine x_zret dX13_spray_88 rfl nar_b1 ?_
          refine qZ_ok (show t_spray V N h mk _ _ _ = ((nI 1, 0), upN N t (fun k => if k = 3 + s then 2 * c else N t k), kp N h t, mk) from ?_) (m1.xu (Or.inl rfl)) (YS.act (fun u hu => ?_) (r1.sm ?_ ?_) ((hY.2.2.sm (r2 87 (by decide) (by decide)) (r3 20 (by decide))).sm ?_ ?_))
          · unfold t_spray
            rw [if_pos (by rw [qt, qs]; rfl), if_pos qw, zN_nI (by omega), zN_nI (by omega), zN_nI (by omega), if_neg (by omega)]
          · obtain ⟨n1, n2, n3, n4⟩ := hN u hu
            have e85 := r2 85 (by decide) (by decide)
            by_cases e0 : u = t
            · subst e0
              rw [upN_t]
              refine ⟨fun i h6 => ?_, ?_, ?_, ?_⟩
              · by_cases e1 : i = s
                · rw [e1, xu_s, if_pos rfl]
                · rw [xu_nk (by omega), e85, n1 i h6, if_neg (by omega)]
              · rw [xu_nk (by omega), e85, n2, if_neg (by omega)]
              · rw [xu_nk (by omega), e85, n3, if_neg (by omega)]
              · rw [xu_nk (by omega), e85, n4, if_neg (by omega)]
            · rw [upN_n e0]
              refine ⟨fun i h6 => ?_, ?_, ?_, ?_⟩
              · rw [xu_nk (by omega), e85, n1 i h6]
              · rw [xu_nk (by omega), e85, n2]
              · rw [xu_nk (by omega), e85, n3]
              · rw [xu_nk (by omega), e85, n4]
          · funext x y; rw [xu_ns (by decide)]
          · rw [xu_ns (by decide)]
          · funext x y; rw [xu_ns (by decide)]
          · rw [xu_ns (by decide)]
        · refine x_aload_n dX13_spray_60 rfl ?_
          refine x_iconst dX13_spray_61 li_5 ?_
          refine x_cvi (m_denied) kX13_540 dX13_spray_62 rfl (Nat.le_of_ble_eq_true rfl) rfl rfl (Nat.le_of_ble_eq_true rfl) (fun ru Mu hq => ?_)
          obtain ⟨rfl, rfl⟩ := hq
          refine x_zret dX13_spray_65 rfl nar_b0 ?_
          refine qZ_ok (show t_spray V N h mk _ _ _ = ((nI 0, 5), N, h, mk) from ?_) hm hY
          unfold t_spray
          rw [if_pos (by rw [qt, qs]; rfl), if_pos qw, zN_nI (by omega), zN_nI (by omega), zN_nI (by omega), if_pos (by omega)]
      · refine x_aload_n dX13_spray_37 rfl ?_
        refine x_iconst dX13_spray_38 li_2 ?_
        refine x_cvi (m_denied) kX13_540 dX13_spray_39 rfl (Nat.le_of_ble_eq_true rfl) rfl rfl (Nat.le_of_ble_eq_true rfl) (fun ru Mu hq => ?_)
        obtain ⟨rfl, rfl⟩ := hq
        refine x_zret dX13_spray_42 rfl nar_b0 ?_
        refine qZ_ok (show t_spray V N h mk _ _ _ = ((nI 0, 2), N, h, mk) from ?_) hm hY
        unfold t_spray
        rw [if_pos (by rw [qt, qs]; rfl), if_neg (by simp [bI_eq.mp h34])]
    · refine x_aload_n dX13_spray_21 rfl ?_
      refine x_iconst dX13_spray_22 li_1 ?_
      refine x_cvi (m_denied) kX13_540 dX13_spray_23 rfl (Nat.le_of_ble_eq_true rfl) rfl rfl (Nat.le_of_ble_eq_true rfl) (fun ru Mu hq => ?_)
      obtain ⟨rfl, rfl⟩ := hq
      refine x_zret dX13_spray_26 rfl nar_b0 ?_
      refine qZ_ok (show t_spray V N h mk _ _ _ = ((nI 0, 1), N, h, mk) from if_neg (by first | simp [bI_eq.mp h10] | simp [bI_eq.mp h18])) hm hY
set_option maxRecDepth 100000 in
set_option maxHeartbeats 600000 in
theorem lp_wash2 (hV : VW V) {N : sN} {h : sH} {mk : List sN} (hW : NW V N) (hY : YS V N h mk (xu I 13 0 0 (nI 0))) {t : Nat} (ht : t < V 0 7 0) (ha : anyOn (N t) 6 = true) {I1 : Nat → Nat → Nat → Int32} (r1 : YP V ((N :: hs N h).take 16) I1) (r2 : ∀ s, s ≠ 86 → s ≠ 13 → I1 s = (xu I 13 0 0 (nI 0)) s) (r3 : ∀ k, k ≠ 19 → I1 13 0 k = (xu I 13 0 0 (nI 0)) 13 0 k) : ∀ (n : Nat) (k : Nat) (I2 : Nat → Nat → Nat → Int32), 6 - k < n → k ≤ 6 → (∀ s, s < k → I2 85 0 (6 * t + s) = nI (N t (3 + s) / 2)) → (∀ j, ¬ (6 * t ≤ j ∧ j < 6 * t + k) → I2 85 0 j = (xu I 13 0 0 (nI 0)) 85 0 j) → (∀ q, q ≠ 85 → I2 q = I1 q) → X G vX13_wash (d + 2) (0, 0) 75 [(0, some (.ref (ad 13 0))), (1, some (.int (nI (t)))), (3, some (.int (nI (k))))] [] (MM ad nb b r I2 L) (xT G (qZ V ad nb b r I L (t_wash V N h mk (nI t)))) := by
  have v0 := hV.1
  have v1 := hV.2.1
  have v2 := hV.2.2.1
  have v3 := hV.2.2.2.1
  have v4 := hV.2.2.2.2.1
  have v7 := hV.2.2.2.2.2.2.2.1
  have v9 := hV.2.2.2.2.2.2.2.2.2.1
  have v10 := hV.2.2.2.2.2.2.2.2.2.2.1
  intro n
  induction n with
  | zero => intro k I2 h0; omega
  | succ n ih =>
    intro k I2 hn hk h1 h2 hs2
    have hN := hY.1
    refine x_iload_n dX13_wash_75 rfl ?_
    refine x_bipush dX13_wash_76 lb_6 ?_
    refine x_icN_ge 102 dX13_wash_78 (by decide) (by omega) (by omega) (fun h78 => ?_) (fun h78 => ?_)
    · refine x_aload_n dX13_wash_102 rfl ?_
      refine x_cvi (m_granted (d := d)) kX13_543 dX13_wash_103 rfl (Nat.le_of_ble_eq_true rfl) rfl rfl (Nat.le_of_ble_eq_true rfl) (fun ru Mu hq => ?_)
      obtain ⟨rfl, rfl⟩ := hq
      refine x_zret dX13_wash_106 rfl nar_b1 ?_
      obtain rfl : k = 6 := by omega
      refine qZ_ok (show t_wash V N h mk _ = ((nI 1, 0), upN N t (wsh (N t)), kp N h t, mk) from ?_) ((MZ.rem r2 r3).tr ⟨fun s _ _ h85 _ _ => hs2 s h85, fun k _ _ _ => by rw [hs2 13 (by decide)]⟩) (YS.act (fun u hu => ?_) (r1.sm (hs2 86 (by decide)) (by rw [hs2 13 (by decide)])) ((hY.2.2.sm (r2 87 (by decide) (by decide)) (r3 20 (by decide))).sm (hs2 87 (by decide)) (by rw [hs2 13 (by decide)])))
      · unfold t_wash
        rw [inr_nI (by omega) (by omega), decide_eq_true ht, if_pos rfl, zN_nI (by omega), if_pos ha]
      · obtain ⟨n1, n2, n3, n4⟩ := hN u hu
        by_cases e0 : u = t
        · subst e0
          rw [upN_t]
          refine ⟨fun i h6 => ?_, ?_, ?_, ?_⟩
          · rw [h1 i h6]; unfold wsh; rw [if_neg (by omega)]
          · rw [h2 _ (by omega)]; exact n2
          · rw [h2 _ (by omega)]; exact n3
          · rw [h2 _ (by omega)]; exact n4
        · rw [upN_n e0]
          refine ⟨fun i h6 => ?_, ?_, ?_, ?_⟩
          · rw [h2 _ (by omega)]; exact n1 i h6
          · rw [h2 _ (by omega)]; exact n2
          · rw [h2 _ (by omega)]; exact n3
          · rw [h2 _ (by omega)]; exact n4
    · refine x_aload_n dX13_wash_81 rfl ?_
      refine g_M_v fX13_17 dX13_wash_82 ?_
      refine x_bipush dX13_wash_85 lb_6 ?_
      refine x_iload_n dX13_wash_87 rfl ?_
      refine x_imulN dX13_wash_88 ?_
      refine x_iload_n dX13_wash_89 rfl ?_
      refine x_iaddN dX13_wash_90 ?_
      refine x_dup2 dX13_wash_91 rfl rfl ?_
      refine x_iald dX13_wash_92 rfl rfl (Nat.le_of_ble_eq_true rfl) (by first | exact Nat.le_of_ble_eq_true rfl | assumption | omega) ?_
      rw [h2 (6 * t + k) (by omega), (hN t ht).1 k (by omega)]
      have h198 := (hW t ht).2 k (by omega)
      refine x_iconst dX13_wash_93 li_2 ?_
      refine x_idivN dX13_wash_94 (by omega) (by omega) (by omega) ?_
      refine x_iast dX13_wash_95 rfl rfl (Nat.le_of_ble_eq_true rfl) (by first | exact Nat.le_of_ble_eq_true rfl | assumption | omega) ?_
      refine x_iincN 1 dX13_wash_96 li_1 rfl (by decide) rfl ?_
      refine x_goto 75 dX13_wash_99 (by decide) ?_
      refine x_ls ?_ (ih (k + 1) _ (by omega) (by omega) (fun s hsk => ?_) (fun j hj => ?_) (fun q hq => ?_))
      · exact ⟨rfl, rfl, rfl, trivial⟩
      · rw [xu_at]
        by_cases e0 : s = k
        · rw [if_pos (by omega), e0]
        · rw [if_neg (by omega)]; exact h1 s (by omega)
      · rw [xu_nk (by omega)]; exact h2 j (by omega)
      · rw [← hs2 q hq]; funext x y; rw [xu_ns hq]
set_option maxRecDepth 100000 in
set_option maxHeartbeats 600000 in
theorem lp_wash1 (hV : VW V) {N : sN} {h : sH} {mk : List sN} (hW : NW V N) (hY : YS V N h mk (xu I 13 0 0 (nI 0))) {t : Nat} (ht : t < V 0 7 0)  : ∀ (n : Nat) (k : Nat), 6 - k < n → k ≤ 6 → X G vX13_wash (d + 2) (0, 0) 23 [(0, some (.ref (ad 13 0))), (1, some (.int (nI (t)))), (2, some (.int (bI (anyOn (N t) k)))), (3, some (.int (nI (k))))] [] (MM ad nb b r (xu I 13 0 0 (nI 0)) L) (xT G (qZ V ad nb b r I L (t_wash V N h mk (nI t)))) := by
  have v0 := hV.1
  have v1 := hV.2.1
  have v2 := hV.2.2.1
  have v3 := hV.2.2.2.1
  have v4 := hV.2.2.2.2.1
  have v7 := hV.2.2.2.2.2.2.2.1
  have v9 := hV.2.2.2.2.2.2.2.2.2.1
  have v10 := hV.2.2.2.2.2.2.2.2.2.2.1
  intro n
  induction n with
  | zero => intro k h0; omega
  | succ n ih =>
    intro k hn hk
    have hN := hY.1
    have hm := MZ.rf (I := (xu I 13 0 0 (nI 0)))
    refine x_iload_n dX13_wash_23 rfl ?_
    refine x_bipush dX13_wash_24 lb_6 ?_
    refine x_icN_ge 59 dX13_wash_26 (by decide) (by omega) (by omega) (fun h26 => ?_) (fun h26 => ?_)
    · refine x_iload_n dX13_wash_59 rfl ?_
      refine x_if_ne 69 dX13_wash_60 (by decide) (fun h60 => ?_) (fun h60 => ?_)
      · obtain rfl : k = 6 := by omega
        refine x_aload_n dX13_wash_69 rfl ?_
        refine x_cvv (m_remembers (d := d + 1) hV hN hY.2.1) kX13_534 dX13_wash_70 rfl (Nat.le_of_ble_eq_true rfl) rfl rfl (Nat.le_of_ble_eq_true rfl) (fun Mu hq => ?_)
        obtain ⟨I1, rfl, r1, r2, r3⟩ := hq
        have m1 := hm.tr (MZ.rem r2 r3)
        refine x_iconst dX13_wash_73 li_0 ?_
        refine x_istore_n dX13_wash_74 (by decide) rfl ?_
        refine x_ls ?_ (lp_wash2 hV hW hY ht (bI_ne.mp h60) r1 r2 r3 7 0 I1 (by omega) (by omega) (fun s h => absurd h (Nat.not_lt_zero s)) (fun j _ => by rw [r2 85 (by decide) (by decide)]) (fun _ _ => rfl))
        exact ⟨rfl, rfl, rfl, trivial⟩
      · obtain rfl : k = 6 := by omega
        refine x_aload_n dX13_wash_63 rfl ?_
        refine x_iconst dX13_wash_64 li_5 ?_
        refine x_cvi (m_denied (d := d)) kX13_540 dX13_wash_65 rfl (Nat.le_of_ble_eq_true rfl) rfl rfl (Nat.le_of_ble_eq_true rfl) (fun ru Mu hq => ?_)
        obtain ⟨rfl, rfl⟩ := hq
        refine x_zret dX13_wash_68 rfl nar_b0 ?_
        refine qZ_ok (show t_wash V N h mk _ = ((nI 0, 5), N, h, mk) from ?_) hm hY
        unfold t_wash
        rw [inr_nI (by omega) (by omega), decide_eq_true ht, if_pos rfl, zN_nI (by omega), if_neg (by rw [bI_eq.mp h60]; decide)]
    · refine x_iload_n dX13_wash_29 rfl ?_
      refine x_if_ne 47 dX13_wash_30 (by decide) (fun h30 => ?_) (fun h30 => ?_)
      · have ec : some (Value.int (nI 1)) = some (Value.int (bI (anyOn (N t) (k + 1)))) := by unfold anyOn; rw [bI_ne.mp h30]; rfl
        refine x_iconst dX13_wash_47 li_1 ?_
        refine x_goto 52 dX13_wash_48 (by decide) ?_
        refine x_istore_n dX13_wash_52 (by decide) rfl ?_
        refine x_iincN 1 dX13_wash_53 li_1 rfl (by decide) rfl ?_
        refine x_goto 23 dX13_wash_56 (by decide) ?_
        refine x_ls ?_ (ih (k + 1) (by omega) (by omega))
        exact ⟨rfl, rfl, ec, rfl, trivial⟩
      · refine x_aload_n dX13_wash_33 rfl ?_
        refine g_M_v fX13_17 dX13_wash_34 ?_
        refine x_bipush dX13_wash_37 lb_6 ?_
        refine x_iload_n dX13_wash_39 rfl ?_
        refine x_imulN dX13_wash_40 ?_
        refine x_iload_n dX13_wash_41 rfl ?_
        refine x_iaddN dX13_wash_42 ?_
        refine x_iald dX13_wash_43 rfl rfl (Nat.le_of_ble_eq_true rfl) (by first | exact Nat.le_of_ble_eq_true rfl | assumption | omega) ?_
        rw [(hN t ht).1 k (by omega)]
        have h198 := (hW t ht).2 k (by omega)
        refine x_ifN_le 51 dX13_wash_44 (by decide) (by omega) (fun h44 => ?_) (fun h44 => ?_)
        · have ec : some (Value.int (nI 0)) = some (Value.int (bI (anyOn (N t) (k + 1)))) := by unfold anyOn; rw [bI_eq.mp h30, decide_eq_false (by omega)]; rfl
          refine x_iconst dX13_wash_51 li_0 ?_
          refine x_istore_n dX13_wash_52 (by decide) rfl ?_
          refine x_iincN 1 dX13_wash_53 li_1 rfl (by decide) rfl ?_
          refine x_goto 23 dX13_wash_56 (by decide) ?_
          refine x_ls ?_ (ih (k + 1) (by omega) (by omega))
          exact ⟨rfl, rfl, ec, rfl, trivial⟩
        · have ec : some (Value.int (nI 1)) = some (Value.int (bI (anyOn (N t) (k + 1)))) := by unfold anyOn; rw [bI_eq.mp h30, decide_eq_true (by omega)]; rfl
          refine x_iconst dX13_wash_47 li_1 ?_
          refine x_goto 52 dX13_wash_48 (by decide) ?_
          refine x_istore_n dX13_wash_52 (by decide) rfl ?_
          refine x_iincN 1 dX13_wash_53 li_1 rfl (by decide) rfl ?_
          refine x_goto 23 dX13_wash_56 (by decide) ?_
          refine x_ls ?_ (ih (k + 1) (by omega) (by omega))
          exact ⟨rfl, rfl, ec, rfl, trivial⟩
set_option maxRecDepth 100000 in
set_option maxHeartbeats 600000 in
theorem m_wash (hV : VW V) (hO : YO V nb b I) {N : sN} {h : sH} {mk : List sN} (hW : NW V N) (hY : YS V N h mk I) {z1 : Int32} : Mt G vX13_wash (d + 2) (0, 0) [.ref (ad 13 0), .int (z1)] (MM ad nb b r I L) (qZ V ad nb b r I L (t_wash V N h mk z1)) := by
  have v0 := hV.1
  have v1 := hV.2.1
  have v2 := hV.2.2.1
  have v3 := hV.2.2.2.1
  have v4 := hV.2.2.2.2.1
  have v7 := hV.2.2.2.2.2.2.2.1
  have v9 := hV.2.2.2.2.2.2.2.2.2.1
  have v10 := hV.2.2.2.2.2.2.2.2.2.2.1
  have hO := hO.sm (I' := (xu I 13 0 0 (nI 0))) (fun q hq => by funext x y; rw [xu_ns (by omega)])
  have hY := hY.t0
  have hN := hY.1
  have hm := MZ.rf (I := (xu I 13 0 0 (nI 0)))
  refine x_start (by decide) (Nat.le_of_ble_eq_true rfl) ?_
  refine x_aload_n dX13_wash_0 rfl ?_
  refine x_iconst dX13_wash_1 li_0 ?_
  refine p_M_thrown fX13_72 dX13_wash_2 ?_
  refine x_aload_n dX13_wash_5 rfl ?_
  refine x_iload_n dX13_wash_6 rfl ?_
  refine x_cvi (m_isTraveller' hV hO) kX13_425 dX13_wash_7 rfl (Nat.le_of_ble_eq_true rfl) rfl rfl (Nat.le_of_ble_eq_true rfl) (fun ru Mu hq => ?_)
  obtain ⟨rfl, rfl⟩ := hq
  refine x_if_ne 19 dX13_wash_10 (by decide) (fun h10 => ?_) (fun h10 => ?_)
  · have qt := bI_ne.mp h10
    obtain ⟨t, ht, rfl⟩ := inr_of qt (by omega)
    obtain ⟨bi, hb, hbn, hB⟩ := hO.some (show V 0 7 0 ≠ 0 by omega) (by decide)
    refine x_iconst dX13_wash_19 li_0 ?_
    refine x_istore_n dX13_wash_20 (by decide) rfl ?_
    refine x_iconst dX13_wash_21 li_0 ?_
    refine x_istore_n dX13_wash_22 (by decide) rfl ?_
    refine x_ls ?_ (lp_wash1 hV hW hY ht 7 0 (by omega) (by omega))
    exact ⟨rfl, rfl, rfl, rfl, trivial⟩
  · refine x_aload_n dX13_wash_13 rfl ?_
    refine x_iconst dX13_wash_14 li_1 ?_
    refine x_cvi (m_denied) kX13_540 dX13_wash_15 rfl (Nat.le_of_ble_eq_true rfl) rfl rfl (Nat.le_of_ble_eq_true rfl) (fun ru Mu hq => ?_)
    obtain ⟨rfl, rfl⟩ := hq
    refine x_zret dX13_wash_18 rfl nar_b0 ?_
    refine qZ_ok (show t_wash V N h mk _ = ((nI 0, 1), N, h, mk) from if_neg (by first | simp [bI_eq.mp h10])) hm hY
end M10
