section M11
variable {G : xG} {ad : Nat → Nat → Nat} {nb : Nat} {b r : Option Nat} {L : Nat → Nat → Nat → Int64} {V : sV} {I : Nat → Nat → Nat → Int32} {d : Nat}

theorem mz_cp {I' : Nat → Nat → Nat → Int32} {s0 k0 : Nat} {v : Int32} (h : ∀ q, q ≠ s0 → I' q = xu I 13 0 k0 v q) (hs : s0 = 85 ∨ s0 = 86 ∨ s0 = 87) (hk : k0 = 19 ∨ k0 = 20) : MZ I I' := ⟨fun s _ h13 a c d => by rw [h s (by omega)]; funext x y; rw [xu_ns h13], fun k _ h19 h20 => by rw [h 13 (by omega), xu_nk (by omega)]⟩

set_option maxRecDepth 100000 in
set_option maxHeartbeats 600000 in
theorem m_undo0 (hV : VW V) {N : sN} {h : sH} {mk : List sN} (hY : YS V N h mk I) (hn : b = none) (hz : ∀ k, k < 12 → V 0 k 0 = 0) (hh : h = [] ∧ mk = []) : Mt G vX13_undo (d + 2) (0, 0) [.ref (ad 13 0)] (MM ad nb b r I L) (qZ V ad nb b r I L (t_undo N h mk)) := by
  have hY := hY.t0
  have hN := hY.1
  have hm := MZ.rf (I := (xu I 13 0 0 (nI 0)))
  refine x_start (by decide) (Nat.le_of_ble_eq_true rfl) ?_
  refine x_aload_n dX13_undo_0 rfl ?_
  refine x_iconst dX13_undo_1 li_0 ?_
  refine p_M_thrown fX13_72 dX13_undo_2 ?_
  refine x_aload_n dX13_undo_5 rfl ?_
  refine g_M_borderN hn fX13_397 dX13_undo_6 ?_
  refine x_ifnullN 19 dX13_undo_9 (by decide) ?_
  refine x_aload_n dX13_undo_19 rfl ?_
  refine x_bipush dX13_undo_20 lb_6 ?_
  refine x_cvi (m_denied) kX13_540 dX13_undo_22 rfl (Nat.le_of_ble_eq_true rfl) rfl rfl (Nat.le_of_ble_eq_true rfl) (fun ru Mu hq => ?_)
  obtain ⟨rfl, rfl⟩ := hq
  refine x_zret dX13_undo_25 rfl nar_b0 ?_
  obtain ⟨rfl, rfl⟩ := hh
  exact qZ_ok rfl hm hY
set_option maxRecDepth 100000 in
set_option maxHeartbeats 600000 in
theorem m_mark0 (hV : VW V) {N : sN} {h : sH} {mk : List sN} (hY : YS V N h mk I) (hn : b = none) (hz : ∀ k, k < 12 → V 0 k 0 = 0) (hh : h = [] ∧ mk = []) : Mt G vX13_mark (d + 1) (0, 0) [.ref (ad 13 0)] (MM ad nb b r I L) (qZ V ad nb b r I L (t_mark V N h mk)) := by
  have hY := hY.t0
  have hN := hY.1
  have hm := MZ.rf (I := (xu I 13 0 0 (nI 0)))
  refine x_start (by decide) (Nat.le_of_ble_eq_true rfl) ?_
  refine x_aload_n dX13_mark_0 rfl ?_
  refine x_iconst dX13_mark_1 li_0 ?_
  refine p_M_thrown fX13_72 dX13_mark_2 ?_
  refine x_aload_n dX13_mark_5 rfl ?_
  refine g_M_borderN hn fX13_397 dX13_mark_6 ?_
  refine x_ifnonnullN dX13_mark_9 ?_
  refine x_aload_n dX13_mark_12 rfl ?_
  refine x_iconst dX13_mark_13 li_1 ?_
  refine x_cvi (m_refused) kX13_78 dX13_mark_14 rfl (Nat.le_of_ble_eq_true rfl) rfl rfl (Nat.le_of_ble_eq_true rfl) (fun ru Mu hq => ?_)
  obtain ⟨rfl, rfl⟩ := hq
  refine x_iret dX13_mark_17 rfl ?_
  refine qZ_ok (show t_mark V N h mk = _ from if_neg (by rw [hz 0 (by decide)]; decide)) hm hY
set_option maxRecDepth 100000 in
set_option maxHeartbeats 600000 in
theorem m_back0 (hV : VW V) {N : sN} {h : sH} {mk : List sN} (hY : YS V N h mk I) (hn : b = none) (hz : ∀ k, k < 12 → V 0 k 0 = 0) (hh : h = [] ∧ mk = []) {z1 : Int32} : Mt G vX13_back (d + 2) (0, 0) [.ref (ad 13 0), .int (z1)] (MM ad nb b r I L) (qZ V ad nb b r I L (t_back N h mk z1)) := by
  have hY := hY.t0
  have hN := hY.1
  have hm := MZ.rf (I := (xu I 13 0 0 (nI 0)))
  refine x_start (by decide) (Nat.le_of_ble_eq_true rfl) ?_
  refine x_aload_n dX13_back_0 rfl ?_
  refine x_iconst dX13_back_1 li_0 ?_
  refine p_M_thrown fX13_72 dX13_back_2 ?_
  refine x_aload_n dX13_back_5 rfl ?_
  refine g_M_borderN hn fX13_397 dX13_back_6 ?_
  refine x_ifnullN 24 dX13_back_9 (by decide) ?_
  refine x_aload_n dX13_back_24 rfl ?_
  refine x_iconst dX13_back_25 li_1 ?_
  refine x_cvi (m_denied) kX13_540 dX13_back_26 rfl (Nat.le_of_ble_eq_true rfl) rfl rfl (Nat.le_of_ble_eq_true rfl) (fun ru Mu hq => ?_)
  obtain ⟨rfl, rfl⟩ := hq
  refine x_zret dX13_back_29 rfl nar_b0 ?_
  obtain ⟨rfl, rfl⟩ := hh
  refine qZ_ok (show t_back N [] [] z1 = _ from if_neg ?_) hm hY
  intro z
  obtain ⟨j, hj, _⟩ := inr_of z (by decide)
  exact absurd hj (Nat.not_lt_zero j)
set_option maxRecDepth 100000 in
set_option maxHeartbeats 600000 in
theorem m_undo1 (hV : VW V) {bi : Nat} (hb : b = some bi) (h0 : 0 < V 0 0 0) {N : sN} {h : sH} {mk : List sN} (hY : YS V N h mk I) : Mt G vX13_undo (d + 2) (0, 0) [.ref (ad 13 0)] (MM ad nb b r I L) (qZ V ad nb b r I L (t_undo N h mk)) := by
  have hY := hY.t0
  have hN := hY.1
  have hm := MZ.rf (I := (xu I 13 0 0 (nI 0)))
  have hP := hY.2.1
  have hl16 : h.length ≤ 16 := by have := hP.2.1; rwa [hs_len] at this
  have loop38 : ∀ (n : Nat) (k : Nat) (I1 : Nat → Nat → Nat → Int32) (q : Nat × (Nat → Nat)) (h2 : sH), 36 - k < n → h = q :: h2 → k ≤ 36 → (∀ j, j < k → I1 85 0 j = (xu I 13 0 0 (nI 0)) 86 0 (36 * h2.length + j)) → (∀ s, s ≠ 85 → I1 s = (xu (xu I 13 0 0 (nI 0)) 13 0 19 (nI h2.length)) s) → X G vX13_undo (d + 2) (0, 0) 38 [(0, some (.ref (ad 13 0))), (1, some (.int (nI (k))))] [] (MM ad nb b r I1 L) (xT G (qZ V ad nb b r I L (t_undo N h mk))) := by
    intro n
    induction n with
    | zero => intro k I1 q h2 h0; omega
    | succ n ih =>
      intro k I1 q h2 hn eh hk h1 hs2
      subst eh
      refine x_iload_n dX13_undo_38 rfl ?_
      refine x_bipush dX13_undo_39 lb_36 ?_
      refine x_icN_ge 70 dX13_undo_41 (by decide) (by omega) (by omega) (fun h41 => ?_) (fun h41 => ?_)
      · refine x_aload_n dX13_undo_70 rfl ?_
        refine x_cvi (m_granted) kX13_543 dX13_undo_71 rfl (Nat.le_of_ble_eq_true rfl) rfl rfl (Nat.le_of_ble_eq_true rfl) (fun ru Mu hq => ?_)
        obtain ⟨rfl, rfl⟩ := hq
        refine x_zret dX13_undo_74 rfl nar_b1 ?_
        obtain rfl : k = 36 := by omega
        have e1 : hs N (q :: h2) = upN N q.1 q.2 :: hs (upN N q.1 q.2) h2 := rfl
        have hl2 : (hs (upN N q.1 q.2) h2).length = h2.length := hs_len h2
        refine qZ_ok (show t_undo N (q :: h2) mk = ((nI 1, 0), upN N q.1 q.2, h2, mk) from rfl) (mz_cp hs2 (Or.inl rfl) (Or.inl rfl)) ⟨?_, ⟨?_, ?_, fun i q2 hq2 => ?_⟩, hY.2.2.sm (by rw [hs2 87 (by decide)]; funext x y; rw [xu_ns (by decide)]) (by rw [hs2 13 (by decide), xu_nk (by decide)])⟩
        · have h3 := hP.2.2 0 (upN N q.1 q.2) (by rw [e1]; rfl)
          rw [e1, List.length_cons, hl2] at h3
          exact h3.yn hV (fun k hk => by rw [h1 k hk]; rfl)
        · rw [hs2 13 (by decide), xu_s, hl2]
        · rw [hl2]; have hl3 : h2.length + 1 ≤ 16 := hl16; omega
        · have h3 := hP.2.2 (i + 1) q2 (by rw [e1, List.getElem?_cons_succ]; exact hq2)
          have hi := (List.getElem?_eq_some_iff.mp hq2).1
          rw [e1, List.length_cons, hl2] at h3
          rw [hl2] at hi ⊢
          rw [show h2.length + 1 - 1 - (i + 1) = h2.length - 1 - i by omega] at h3
          exact h3.sm (by rw [hs2 86 (by decide)]; funext x y; rw [xu_ns (by decide)])
      · refine x_aload_n dX13_undo_44 rfl ?_
        refine g_M_v fX13_17 dX13_undo_45 ?_
        refine x_iload_n dX13_undo_48 rfl ?_
        refine x_aload_n dX13_undo_49 rfl ?_
        refine g_M_past fX13_21 dX13_undo_50 ?_
        refine x_bipush dX13_undo_53 lb_36 ?_
        refine x_aload_n dX13_undo_55 rfl ?_
        refine g_M_acts fX13_399 dX13_undo_56 ?_
        rw [hs2 13 (by decide), xu_s]
        refine x_imulN dX13_undo_59 ?_
        refine x_iload_n dX13_undo_60 rfl ?_
        refine x_iaddN dX13_undo_61 ?_
        refine x_iald dX13_undo_62 rfl rfl (Nat.le_of_ble_eq_true rfl) (by have hl2 : h2.length + 1 ≤ 16 := hl16; omega) ?_
        refine x_iast dX13_undo_63 rfl rfl (Nat.le_of_ble_eq_true rfl) (by first | exact Nat.le_of_ble_eq_true rfl | assumption | omega) ?_
        refine x_iincN 1 dX13_undo_64 li_1 rfl (by decide) rfl ?_
        refine x_goto 38 dX13_undo_67 (by decide) ?_
        refine x_ls ?_ (ih (k + 1) _ q h2 (by omega) rfl (by omega) (fun j hj => ?_) (fun s h1 => ?_))
        · exact ⟨rfl, rfl, trivial⟩
        · rw [xu_at]
          by_cases e0 : j = k
          · rw [if_pos e0, e0, hs2 86 (by decide), xu_ns (by decide)]
          · rw [if_neg e0]; exact h1 j (by omega)
        · rw [← hs2 s h1]; funext x y; rw [xu_ns h1]
  refine x_start (by decide) (Nat.le_of_ble_eq_true rfl) ?_
  refine x_aload_n dX13_undo_0 rfl ?_
  refine x_iconst dX13_undo_1 li_0 ?_
  refine p_M_thrown fX13_72 dX13_undo_2 ?_
  refine x_aload_n dX13_undo_5 rfl ?_
  refine g_M_border hb fX13_397 dX13_undo_6 ?_
  refine x_ifnull dX13_undo_9 ?_
  refine x_aload_n dX13_undo_12 rfl ?_
  refine g_M_acts fX13_399 dX13_undo_13 ?_
  rw [hP.1, hs_len]
  refine x_ifN_ne 26 dX13_undo_16 (by decide) (by omega) (fun h16 => ?_) (fun h16 => ?_)
  · obtain ⟨q, h2, rfl⟩ : ∃ q h2, h = q :: h2 := by
      cases h with
      | nil => exact absurd h16 (by decide)
      | cons q h2 => exact ⟨q, h2, rfl⟩
    refine x_aload_n dX13_undo_26 rfl ?_
    refine x_dup dX13_undo_27 rfl ?_
    refine g_M_acts fX13_399 dX13_undo_28 ?_
    rw [hP.1, hs_len]
    refine x_iconst dX13_undo_31 li_1 ?_
    refine x_isubN dX13_undo_32 (by omega) ?_
    refine p_M_acts fX13_399 dX13_undo_33 ?_
    refine x_iconst dX13_undo_36 li_0 ?_
    refine x_istore_n dX13_undo_37 (by decide) rfl ?_
    rw [show (q :: h2).length - 1 = h2.length from rfl]
    refine x_ls ?_ (loop38 37 0 _ q h2 (by omega) rfl (by omega) (fun j hj => absurd hj (Nat.not_lt_zero j)) (fun _ _ => rfl))
    exact ⟨rfl, rfl, trivial⟩
  · obtain rfl : h = [] := List.eq_nil_of_length_eq_zero (by omega)
    refine x_aload_n dX13_undo_19 rfl ?_
    refine x_bipush dX13_undo_20 lb_6 ?_
    refine x_cvi (m_denied) kX13_540 dX13_undo_22 rfl (Nat.le_of_ble_eq_true rfl) rfl rfl (Nat.le_of_ble_eq_true rfl) (fun ru Mu hq => ?_)
    obtain ⟨rfl, rfl⟩ := hq
    refine x_zret dX13_undo_25 rfl nar_b0 ?_
    exact qZ_ok rfl hm hY
set_option maxRecDepth 100000 in
set_option maxHeartbeats 600000 in
theorem m_mark1 (hV : VW V) {bi : Nat} (hb : b = some bi) (h0 : 0 < V 0 0 0) {N : sN} {h : sH} {mk : List sN} (hY : YS V N h mk I) : Mt G vX13_mark (d + 1) (0, 0) [.ref (ad 13 0)] (MM ad nb b r I L) (qZ V ad nb b r I L (t_mark V N h mk)) := by
  have hY := hY.t0
  have hN := hY.1
  have hm := MZ.rf (I := (xu I 13 0 0 (nI 0)))
  have hK := hY.2.2
  have hl3 := hK.2.1
  have loop34 : ∀ (n : Nat) (k : Nat) (I1 : Nat → Nat → Nat → Int32), 36 - k < n → k ≤ 36 → mk.length < 3 → (∀ j, j < k → I1 87 0 (36 * mk.length + j) = (xu I 13 0 0 (nI 0)) 85 0 j) → (∀ j, j < 36 * mk.length → I1 87 0 j = (xu I 13 0 0 (nI 0)) 87 0 j) → (∀ s, s ≠ 87 → I1 s = (xu I 13 0 0 (nI 0)) s) → X G vX13_mark (d + 1) (0, 0) 34 [(0, some (.ref (ad 13 0))), (1, some (.int (nI (k))))] [] (MM ad nb b r I1 L) (xT G (qZ V ad nb b r I L (t_mark V N h mk))) := by
    intro n
    induction n with
    | zero => intro k I1 h0; omega
    | succ n ih =>
      intro k I1 hn hk hm3 h1 h2 hs2
      refine x_iload_n dX13_mark_34 rfl ?_
      refine x_bipush dX13_mark_35 lb_36 ?_
      refine x_icN_ge 66 dX13_mark_37 (by decide) (by omega) (by omega) (fun h37 => ?_) (fun h37 => ?_)
      · refine x_aload_n dX13_mark_66 rfl ?_
        refine x_dup dX13_mark_67 rfl ?_
        refine g_M_marks fX13_402 dX13_mark_68 ?_
        rw [hs2 13 (by decide), hK.1]
        refine x_iconst dX13_mark_71 li_1 ?_
        refine x_iaddN dX13_mark_72 ?_
        refine p_M_marks fX13_402 dX13_mark_73 ?_
        refine x_aload_n dX13_mark_76 rfl ?_
        refine x_aload_n dX13_mark_77 rfl ?_
        refine g_M_marks fX13_402 dX13_mark_78 ?_
        rw [xu_s]
        refine x_iconst dX13_mark_81 li_1 ?_
        refine x_isubN dX13_mark_82 (by omega) ?_
        refine x_cvi (m_good) kX13_82 dX13_mark_83 rfl (Nat.le_of_ble_eq_true rfl) rfl rfl (Nat.le_of_ble_eq_true rfl) (fun ru Mu hq => ?_)
        obtain ⟨rfl, rfl⟩ := hq
        refine x_iret dX13_mark_86 rfl ?_
        obtain rfl : k = 36 := by omega
        rw [Nat.add_sub_cancel]
        refine qZ_ok (show t_mark V N h mk = ((nI mk.length, 0), N, h, mk ++ [N]) from ?_) ⟨fun s _ h13 a c d => ?_, fun k _ h19 h20 => ?_⟩ ⟨hN.sm ?_, hY.2.1.sm ?_ ?_, ⟨?_, ?_, fun i q hq => ?_⟩⟩
        · unfold t_mark; rw [if_pos h0, if_pos hm3]
        · rw [← hs2 s d]; funext x y; rw [xu_ns h13]
        · rw [xu_nk h20, hs2 13 (by decide)]
        · rw [← hs2 85 (by decide)]; funext x y; rw [xu_ns (by decide)]
        · rw [← hs2 86 (by decide)]; funext x y; rw [xu_ns (by decide)]
        · rw [xu_nk (by decide), hs2 13 (by decide)]
        · rw [xu_s, List.length_append]; rfl
        · rw [List.length_append]; show mk.length + 1 ≤ 3; omega
        · have hi := (List.getElem?_eq_some_iff.mp hq).1
          rw [List.length_append] at hi
          have hi2 : i < mk.length + 1 := hi
          by_cases e0 : i = mk.length
          · rw [e0, List.getElem?_concat_length] at hq
            cases hq
            rw [e0]
            exact hN.snp hV (fun k hk => by rw [xu_ns (by decide)]; exact h1 k hk)
          · rw [List.getElem?_append_left (by omega)] at hq
            exact (hK.2.2 i q hq).mv hV (fun k hk => by rw [xu_ns (by decide)]; exact h2 _ (by omega))
      · refine x_aload_n dX13_mark_40 rfl ?_
        refine g_M_kept fX13_24 dX13_mark_41 ?_
        refine x_bipush dX13_mark_44 lb_36 ?_
        refine x_aload_n dX13_mark_46 rfl ?_
        refine g_M_marks fX13_402 dX13_mark_47 ?_
        rw [hs2 13 (by decide), hK.1]
        refine x_imulN dX13_mark_50 ?_
        refine x_iload_n dX13_mark_51 rfl ?_
        refine x_iaddN dX13_mark_52 ?_
        refine x_aload_n dX13_mark_53 rfl ?_
        refine g_M_v fX13_17 dX13_mark_54 ?_
        refine x_iload_n dX13_mark_57 rfl ?_
        refine x_iald dX13_mark_58 rfl rfl (Nat.le_of_ble_eq_true rfl) (by first | exact Nat.le_of_ble_eq_true rfl | assumption | omega) ?_
        refine x_iast dX13_mark_59 rfl rfl (Nat.le_of_ble_eq_true rfl) (by first | exact Nat.le_of_ble_eq_true rfl | assumption | omega) ?_
        refine x_iincN 1 dX13_mark_60 li_1 rfl (by decide) rfl ?_
        refine x_goto 34 dX13_mark_63 (by decide) ?_
        refine x_ls ?_ (ih (k + 1) _ (by omega) (by omega) hm3 (fun j hj => ?_) (fun j hj => ?_) (fun s h1 => ?_))
        · exact ⟨rfl, rfl, trivial⟩
        · rw [xu_at]
          by_cases e0 : j = k
          · rw [if_pos (by omega), e0, hs2 85 (by decide)]
          · rw [if_neg (by omega)]; exact h1 j (by omega)
        · rw [xu_nk (by omega)]; exact h2 j hj
        · rw [← hs2 s h1]; funext x y; rw [xu_ns h1]
  refine x_start (by decide) (Nat.le_of_ble_eq_true rfl) ?_
  refine x_aload_n dX13_mark_0 rfl ?_
  refine x_iconst dX13_mark_1 li_0 ?_
  refine p_M_thrown fX13_72 dX13_mark_2 ?_
  refine x_aload_n dX13_mark_5 rfl ?_
  refine g_M_border hb fX13_397 dX13_mark_6 ?_
  refine x_ifnonnull 18 dX13_mark_9 (by decide) ?_
  refine x_aload_n dX13_mark_18 rfl ?_
  refine g_M_marks fX13_402 dX13_mark_19 ?_
  rw [hK.1]
  refine x_iconst dX13_mark_22 li_3 ?_
  refine x_icN_ne 32 dX13_mark_23 (by decide) (by omega) (by omega) (fun h23 => ?_) (fun h23 => ?_)
  · refine x_iconst dX13_mark_32 li_0 ?_
    refine x_istore_n dX13_mark_33 (by decide) rfl ?_
    refine x_ls ?_ (loop34 37 0 _ (by omega) (by omega) (by omega) (fun j hj => absurd hj (Nat.not_lt_zero j)) (fun _ _ => rfl) (fun _ _ => rfl))
    exact ⟨rfl, rfl, trivial⟩
  · refine x_aload_n dX13_mark_26 rfl ?_
    refine x_iconst dX13_mark_27 li_3 ?_
    refine x_cvi (m_refused) kX13_78 dX13_mark_28 rfl (Nat.le_of_ble_eq_true rfl) rfl rfl (Nat.le_of_ble_eq_true rfl) (fun ru Mu hq => ?_)
    obtain ⟨rfl, rfl⟩ := hq
    refine x_iret dX13_mark_31 rfl ?_
    refine qZ_ok (show t_mark V N h mk = ((-1, 3), N, h, mk) from ?_) hm hY
    unfold t_mark
    rw [if_pos h0, if_neg (by omega)]
set_option maxRecDepth 100000 in
set_option maxHeartbeats 600000 in
theorem m_back1 (hV : VW V) {bi : Nat} (hb : b = some bi) (h0 : 0 < V 0 0 0) {N : sN} {h : sH} {mk : List sN} (hY : YS V N h mk I) {z1 : Int32} : Mt G vX13_back (d + 2) (0, 0) [.ref (ad 13 0), .int (z1)] (MM ad nb b r I L) (qZ V ad nb b r I L (t_back N h mk z1)) := by
  have hY := hY.t0
  have hN := hY.1
  have hm := MZ.rf (I := (xu I 13 0 0 (nI 0)))
  have hK := hY.2.2
  have hl3 := hK.2.1
  have loop32 : ∀ (n : Nat) (k m : Nat) (I1 : Nat → Nat → Nat → Int32), 36 - k < n → k ≤ 36 → m < mk.length → z1 = nI m → (∀ j, j < k → I1 85 0 j = (xu I 13 0 0 (nI 0)) 87 0 (36 * m + j)) → (∀ s, s ≠ 85 → I1 s = (xu I 13 0 0 (nI 0)) s) → X G vX13_back (d + 2) (0, 0) 32 [(0, some (.ref (ad 13 0))), (1, some (.int (nI (m)))), (2, some (.int (nI (k))))] [] (MM ad nb b r I1 L) (xT G (qZ V ad nb b r I L (t_back N h mk z1))) := by
    intro n
    induction n with
    | zero => intro k m I1 h0; omega
    | succ n ih =>
      intro k m I1 hn hk hmk ez h1 hs2
      refine x_iload_n dX13_back_32 rfl ?_
      refine x_bipush dX13_back_33 lb_36 ?_
      refine x_icN_ge 61 dX13_back_35 (by decide) (by omega) (by omega) (fun h35 => ?_) (fun h35 => ?_)
      · refine x_aload_n dX13_back_61 rfl ?_
        refine x_iconst dX13_back_62 li_0 ?_
        refine p_M_acts fX13_399 dX13_back_63 ?_
        refine x_aload_n dX13_back_66 rfl ?_
        refine x_cvi (m_granted) kX13_543 dX13_back_67 rfl (Nat.le_of_ble_eq_true rfl) rfl rfl (Nat.le_of_ble_eq_true rfl) (fun ru Mu hq => ?_)
        obtain ⟨rfl, rfl⟩ := hq
        refine x_zret dX13_back_70 rfl nar_b1 ?_
        obtain rfl : k = 36 := by omega
        refine qZ_ok (show t_back N h mk z1 = ((nI 1, 0), mk.getD m N, [], mk) from ?_) ⟨fun s _ h13 a c d => ?_, fun k _ h19 h20 => ?_⟩ ⟨?_, ⟨xu_s, Nat.zero_le 16, fun i q hq => by simp [hs] at hq⟩, hK.sm ?_ ?_⟩
        · unfold t_back; rw [ez, inr_nI (by omega) (by omega), decide_eq_true hmk, if_pos rfl, zN_nI (by omega)]
        · rw [← hs2 s a]; funext x y; rw [xu_ns h13]
        · rw [xu_nk h19, hs2 13 (by decide)]
        · refine (hK.2.2 m (mk.getD m N) ?_).yn hV (fun k hk => by rw [xu_ns (by decide)]; exact h1 k hk)
          rw [List.getD_eq_getElem?_getD, List.getElem?_eq_getElem hmk]; rfl
        · rw [← hs2 87 (by decide)]; funext x y; rw [xu_ns (by decide)]
        · rw [xu_nk (by decide), hs2 13 (by decide)]
      · refine x_aload_n dX13_back_38 rfl ?_
        refine g_M_v fX13_17 dX13_back_39 ?_
        refine x_iload_n dX13_back_42 rfl ?_
        refine x_aload_n dX13_back_43 rfl ?_
        refine g_M_kept fX13_24 dX13_back_44 ?_
        refine x_bipush dX13_back_47 lb_36 ?_
        refine x_iload_n dX13_back_49 rfl ?_
        refine x_imulN dX13_back_50 ?_
        refine x_iload_n dX13_back_51 rfl ?_
        refine x_iaddN dX13_back_52 ?_
        refine x_iald dX13_back_53 rfl rfl (Nat.le_of_ble_eq_true rfl) (by first | exact Nat.le_of_ble_eq_true rfl | assumption | omega) ?_
        refine x_iast dX13_back_54 rfl rfl (Nat.le_of_ble_eq_true rfl) (by first | exact Nat.le_of_ble_eq_true rfl | assumption | omega) ?_
        refine x_iincN 1 dX13_back_55 li_1 rfl (by decide) rfl ?_
        refine x_goto 32 dX13_back_58 (by decide) ?_
        refine x_ls ?_ (ih (k + 1) m _ (by omega) (by omega) hmk ez (fun j hj => ?_) (fun s h1 => ?_))
        · exact ⟨rfl, rfl, rfl, trivial⟩
        · rw [xu_at]
          by_cases e0 : j = k
          · rw [if_pos e0, e0, hs2 87 (by decide)]
          · rw [if_neg e0]; exact h1 j (by omega)
        · rw [← hs2 s h1]; funext x y; rw [xu_ns h1]
  refine x_start (by decide) (Nat.le_of_ble_eq_true rfl) ?_
  refine x_aload_n dX13_back_0 rfl ?_
  refine x_iconst dX13_back_1 li_0 ?_
  refine p_M_thrown fX13_72 dX13_back_2 ?_
  refine x_aload_n dX13_back_5 rfl ?_
  refine g_M_border hb fX13_397 dX13_back_6 ?_
  refine x_ifnull dX13_back_9 ?_
  refine x_iload_n dX13_back_12 rfl ?_
  refine x_if_lt 24 dX13_back_13 (by decide) (fun h13 => ?_) (fun h13 => ?_)
  · have hw : inr z1 mk.length = false := decide_eq_false (fun k => k.1 h13)
    refine x_aload_n dX13_back_24 rfl ?_
    refine x_iconst dX13_back_25 li_1 ?_
    refine x_cvi (m_denied) kX13_540 dX13_back_26 rfl (Nat.le_of_ble_eq_true rfl) rfl rfl (Nat.le_of_ble_eq_true rfl) (fun ru Mu hq => ?_)
    obtain ⟨rfl, rfl⟩ := hq
    refine x_zret dX13_back_29 rfl nar_b0 ?_
    refine qZ_ok (show t_back N h mk _ = _ from if_neg (by rw [hw]; decide)) hm hY
  · refine x_iload_n dX13_back_16 rfl ?_
    refine x_aload_n dX13_back_17 rfl ?_
    refine g_M_marks fX13_402 dX13_back_18 ?_
    rw [hK.1]
    refine x_ic_lt 30 dX13_back_21 (by decide) (fun h21 => ?_) (fun h21 => ?_)
    · have hw : inr z1 mk.length = true := decide_eq_true ⟨h13, fun z => absurd h21 (Int32.not_lt.mpr z)⟩
      obtain ⟨m, hmk, rfl⟩ := inr_of hw (by omega)
      refine x_iconst dX13_back_30 li_0 ?_
      refine x_istore_n dX13_back_31 (by decide) rfl ?_
      refine x_ls ?_ (loop32 37 0 m _ (by omega) (by omega) hmk rfl (fun j hj => absurd hj (Nat.not_lt_zero j)) (fun _ _ => rfl))
      exact ⟨rfl, rfl, rfl, trivial⟩
    · have hw : inr z1 mk.length = false := decide_eq_false (fun k => k.2 (Int32.not_lt.mp h21))
      refine x_aload_n dX13_back_24 rfl ?_
      refine x_iconst dX13_back_25 li_1 ?_
      refine x_cvi (m_denied) kX13_540 dX13_back_26 rfl (Nat.le_of_ble_eq_true rfl) rfl rfl (Nat.le_of_ble_eq_true rfl) (fun ru Mu hq => ?_)
      obtain ⟨rfl, rfl⟩ := hq
      refine x_zret dX13_back_29 rfl nar_b0 ?_
      refine qZ_ok (show t_back N h mk _ = _ from if_neg (by rw [hw]; decide)) hm hY
theorem m_undo (hV : VW V) (hO : YO V nb b I) {N : sN} {h : sH} {mk : List sN} (hW : NW V N) (hY : YS V N h mk I) (hn0 : b = none → h = [] ∧ mk = []) : Mt G vX13_undo (d + 2) (0, 0) [.ref (ad 13 0)] (MM ad nb b r I L) (qZ V ad nb b r I L (t_undo N h mk)) := by
  rcases hO with ⟨hn, hz⟩ | ⟨bi, hb, hbn, hB, h0⟩
  · exact m_undo0 hV hY hn hz (hn0 hn)
  · exact m_undo1 hV hb h0 hY
theorem m_mark (hV : VW V) (hO : YO V nb b I) {N : sN} {h : sH} {mk : List sN} (hW : NW V N) (hY : YS V N h mk I) (hn0 : b = none → h = [] ∧ mk = []) : Mt G vX13_mark (d + 1) (0, 0) [.ref (ad 13 0)] (MM ad nb b r I L) (qZ V ad nb b r I L (t_mark V N h mk)) := by
  rcases hO with ⟨hn, hz⟩ | ⟨bi, hb, hbn, hB, h0⟩
  · exact m_mark0 hV hY hn hz (hn0 hn)
  · exact m_mark1 hV hb h0 hY
theorem m_back (hV : VW V) (hO : YO V nb b I) {N : sN} {h : sH} {mk : List sN} (hW : NW V N) (hY : YS V N h mk I) (hn0 : b = none → h = [] ∧ mk = []) {z1 : Int32} : Mt G vX13_back (d + 2) (0, 0) [.ref (ad 13 0), .int z1] (MM ad nb b r I L) (qZ V ad nb b r I L (t_back N h mk z1)) := by
  rcases hO with ⟨hn, hz⟩ | ⟨bi, hb, hbn, hB, h0⟩
  · exact m_back0 hV hY hn hz (hn0 hn)
  · exact m_back1 hV hb h0 hY
set_option maxRecDepth 100000 in
set_option maxHeartbeats 600000 in
theorem m_trouble  : Mt G vX13_trouble (d) (0, 0) [.ref (ad 13 0)] (MM ad nb b r I L) (qE (I 13 0 1) (MM ad nb b r (xu I 13 0 0 (nI 0)) L)) := by
  refine x_start (by decide) (Nat.le_of_ble_eq_true rfl) ?_
  refine x_aload_n dX13_trouble_0 rfl ?_
  refine x_iconst dX13_trouble_1 li_0 ?_
  refine p_M_thrown fX13_72 dX13_trouble_2 ?_
  refine x_aload_n dX13_trouble_5 rfl ?_
  refine g_M_trouble fX13_75 dX13_trouble_6 ?_
  refine x_iret dX13_trouble_9 rfl ?_
  exact ⟨_, rfl, xu_nk (by decide), rfl⟩
set_option maxRecDepth 100000 in
set_option maxHeartbeats 600000 in
theorem m_fault  : Mt G vX13_fault (d) (0, 0) [.ref (ad 13 0)] (MM ad nb b r I L) (qE (I 13 0 13) (MM ad nb b r (xu I 13 0 0 (nI 0)) L)) := by
  refine x_start (by decide) (Nat.le_of_ble_eq_true rfl) ?_
  refine x_aload_n dX13_fault_0 rfl ?_
  refine x_iconst dX13_fault_1 li_0 ?_
  refine p_M_thrown fX13_72 dX13_fault_2 ?_
  refine x_aload_n dX13_fault_5 rfl ?_
  refine g_M_fault fX13_129 dX13_fault_6 ?_
  refine x_iret dX13_fault_9 rfl ?_
  exact ⟨_, rfl, xu_nk (by decide), rfl⟩
set_option maxRecDepth 100000 in
set_option maxHeartbeats 600000 in
theorem m_where  : Mt G vX13_where (d) (0, 0) [.ref (ad 13 0)] (MM ad nb b r I L) (qE (I 13 0 2) (MM ad nb b r (xu I 13 0 0 (nI 0)) L)) := by
  refine x_start (by decide) (Nat.le_of_ble_eq_true rfl) ?_
  refine x_aload_n dX13_where_0 rfl ?_
  refine x_iconst dX13_where_1 li_0 ?_
  refine p_M_thrown fX13_72 dX13_where_2 ?_
  refine x_aload_n dX13_where_5 rfl ?_
  refine g_M_where fX13_9 dX13_where_6 ?_
  refine x_iret dX13_where_9 rfl ?_
  exact ⟨_, rfl, xu_nk (by decide), rfl⟩
set_option maxRecDepth 100000 in
set_option maxHeartbeats 600000 in
theorem m_thrown  : Mt G vX13_thrown (d) (0, 0) [.ref (ad 13 0)] (MM ad nb b r I L) (qE (I 13 0 0) (MM ad nb b r I L)) := by
  refine x_start (by decide) (Nat.le_of_ble_eq_true rfl) ?_
  refine x_aload_n dX13_thrown_0 rfl ?_
  refine g_M_thrown fX13_72 dX13_thrown_1 ?_
  refine x_iret dX13_thrown_4 rfl ?_
  exact ⟨_, rfl, rfl, rfl⟩

def YT (T : Nat → Nat) (n : Nat) (I : Nat → Nat → Nat → Int32) : Prop := I 13 0 6 = nI n ∧ n ≤ 1100 ∧ ∀ i, i < n → I 84 0 i &&& nI 255 = nI (T i)

set_option maxRecDepth 100000 in
set_option maxHeartbeats 600000 in
theorem m_size0 (hV : VW V) (hn : b = none) (hz : ∀ k, k < 12 → V 0 k 0 = 0) {T : Nat → Nat} {n : Nat} (hT : YT T n I) {z1 : Int32} : Mt G vX13_size (d + 1) (0, 0) [.ref (ad 13 0), .int (z1)] (MM ad nb b r I L) (qE (a_size V [] [] n z1) (MM ad nb b r (xu I 13 0 0 (nI 0)) L)) := by
  refine x_start (by decide) (Nat.le_of_ble_eq_true rfl) ?_
  refine x_aload_n dX13_size_0 rfl ?_
  refine x_iconst dX13_size_1 li_0 ?_
  refine p_M_thrown fX13_72 dX13_size_2 ?_
  refine x_iload_n dX13_size_5 rfl ?_
  refine x_bipush dX13_size_6 lb_13 ?_
  refine x_ic_ne 16 dX13_size_8 (by decide) (fun h8 => ?_) (fun h8 => ?_)
  · refine x_iload_n dX13_size_16 rfl ?_
    refine x_iconst dX13_size_17 li_0 ?_
    refine x_bipush dX13_size_18 lb_12 ?_
    refine x_csi (m_in) kX13_150 dX13_size_20 rfl rfl (Nat.le_of_ble_eq_true rfl) (fun ru Mu hq => ?_)
    obtain ⟨rfl, rfl⟩ := hq
    refine x_if_ne 28 dX13_size_23 (by decide) (fun h23 => ?_) (fun h23 => ?_)
    · refine x_aload_n dX13_size_28 rfl ?_
      refine g_M_borderN hn fX13_397 dX13_size_29 ?_
      refine x_ifnonnullN dX13_size_32 ?_
      refine x_iconst dX13_size_35 li_0 ?_
      refine x_iret dX13_size_36 rfl ?_
      obtain ⟨j, _, h12, rfl⟩ := wth_of (bI_ne.mp h23) (by decide) (by decide)
      refine ⟨_, rfl, ?_, rfl⟩
      unfold a_size
      by_cases q : j ≤ 10
      · rw [wth_nI (by omega) (by omega) (by omega), decide_eq_true (by omega), if_pos rfl, zN_nI (by omega), hz j (by omega)]
      · rw [wth_nI (by omega) (by omega) (by omega), decide_eq_false (by omega), if_neg (by decide)]
        rcases (show j = 11 ∨ j = 12 by omega) with rfl | rfl <;> rfl
    · refine x_iconst dX13_size_26 li_m1 ?_
      refine x_iret dX13_size_27 rfl ?_
      have hw := bI_eq.mp h23
      refine ⟨_, rfl, ?_, rfl⟩
      unfold a_size
      have a1 : ¬ wth z1 0 10 = true := fun z => by
        obtain ⟨j, _, h10, rfl⟩ := wth_of z (by decide) (by decide)
        rw [wth_nI (by omega) (by omega) (by omega), decide_eq_true (by omega)] at hw; cases hw
      have a2 : ¬ z1 = nI 11 := fun z => by subst z; exact absurd hw (by decide)
      have a3 : ¬ z1 = nI 12 := fun z => by subst z; exact absurd hw (by decide)
      rw [if_neg a1, if_neg a2, if_neg a3, if_neg h8]
  · refine x_aload_n dX13_size_11 rfl ?_
    refine g_M_taped fX13_390 dX13_size_12 ?_
    rw [xu_nk (by decide), hT.1]
    refine x_iret dX13_size_15 rfl ?_
    subst h8
    exact ⟨_, rfl, rfl, rfl⟩
set_option maxRecDepth 100000 in
set_option maxHeartbeats 600000 in
theorem m_size1 (hV : VW V) {bi : Nat} (hb : b = some bi) (hbn : bi < nb) (hB : YB V bi I) {N : sN} {h : sH} {mk : List sN} (hY : YS V N h mk I) {T : Nat → Nat} {n : Nat} (hT : YT T n I) {z1 : Int32} : Mt G vX13_size (d + 1) (0, 0) [.ref (ad 13 0), .int (z1)] (MM ad nb b r I L) (qE (a_size V h mk n z1) (MM ad nb b r (xu I 13 0 0 (nI 0)) L)) := by
  have hB := hB.sm (I' := (xu I 13 0 0 (nI 0))) (fun q hq => by funext x y; rw [xu_ns (by omega)])
  have hY := hY.t0
  refine x_start (by decide) (Nat.le_of_ble_eq_true rfl) ?_
  refine x_aload_n dX13_size_0 rfl ?_
  refine x_iconst dX13_size_1 li_0 ?_
  refine p_M_thrown fX13_72 dX13_size_2 ?_
  refine x_iload_n dX13_size_5 rfl ?_
  refine x_bipush dX13_size_6 lb_13 ?_
  refine x_ic_ne 16 dX13_size_8 (by decide) (fun h8 => ?_) (fun h8 => ?_)
  · refine x_iload_n dX13_size_16 rfl ?_
    refine x_iconst dX13_size_17 li_0 ?_
    refine x_bipush dX13_size_18 lb_12 ?_
    refine x_csi (m_in) kX13_150 dX13_size_20 rfl rfl (Nat.le_of_ble_eq_true rfl) (fun ru Mu hq => ?_)
    obtain ⟨rfl, rfl⟩ := hq
    refine x_if_ne 28 dX13_size_23 (by decide) (fun h23 => ?_) (fun h23 => ?_)
    · refine x_aload_n dX13_size_28 rfl ?_
      refine g_M_border hb fX13_397 dX13_size_29 ?_
      refine x_ifnonnull 37 dX13_size_32 (by decide) ?_
      obtain ⟨j, _, h12, rfl⟩ := wth_of (bI_ne.mp h23) (by decide) (by decide)
      refine x_iload_n dX13_size_37 rfl ?_
      rcases (show j = 0 ∨ j = 1 ∨ j = 2 ∨ j = 3 ∨ j = 4 ∨ j = 5 ∨ j = 6 ∨ j = 7 ∨ j = 8 ∨ j = 9 ∨ j = 10 ∨ j = 11 ∨ j = 12 by omega) with rfl | rfl | rfl | rfl | rfl | rfl | rfl | rfl | rfl | rfl | rfl | rfl | rfl
      · refine x_tswIn 100 dX13_size_38 (by decide) (by decide) rfl (by decide) ?_
        refine x_aload_n dX13_size_100 rfl ?_
        refine g_M_border hb fX13_397 dX13_size_101 ?_
        refine g_MB_wind fX13_189 dX13_size_104 hbn ?_
        refine x_top (y12_0 hB) ?_
        refine x_iret dX13_size_107 rfl ?_
        exact ⟨_, rfl, rfl, rfl⟩
      · refine x_tswIn 108 dX13_size_38 (by decide) (by decide) rfl (by decide) ?_
        refine x_aload_n dX13_size_108 rfl ?_
        refine g_M_border hb fX13_397 dX13_size_109 ?_
        refine g_MB_lands fX13_227 dX13_size_112 hbn ?_
        refine x_top (y12_1 hB) ?_
        refine x_iret dX13_size_115 rfl ?_
        exact ⟨_, rfl, rfl, rfl⟩
      · refine x_tswIn 116 dX13_size_38 (by decide) (by decide) rfl (by decide) ?_
        refine x_aload_n dX13_size_116 rfl ?_
        refine g_M_border hb fX13_397 dX13_size_117 ?_
        refine g_MB_smells fX13_301 dX13_size_120 hbn ?_
        refine x_top (y12_2 hB) ?_
        refine x_iret dX13_size_123 rfl ?_
        exact ⟨_, rfl, rfl, rfl⟩
      · refine x_tswIn 124 dX13_size_38 (by decide) (by decide) rfl (by decide) ?_
        refine x_aload_n dX13_size_124 rfl ?_
        refine g_M_border hb fX13_397 dX13_size_125 ?_
        refine g_MB_noses fX13_318 dX13_size_128 hbn ?_
        refine x_top (y12_3 hB) ?_
        refine x_iret dX13_size_131 rfl ?_
        exact ⟨_, rfl, rfl, rfl⟩
      · refine x_tswIn 132 dX13_size_38 (by decide) (by decide) rfl (by decide) ?_
        refine x_aload_n dX13_size_132 rfl ?_
        refine g_M_border hb fX13_397 dX13_size_133 ?_
        refine g_MB_places fX13_230 dX13_size_136 hbn ?_
        refine x_top (y12_4 hB) ?_
        refine x_iret dX13_size_139 rfl ?_
        exact ⟨_, rfl, rfl, rfl⟩
      · refine x_tswIn 140 dX13_size_38 (by decide) (by decide) rfl (by decide) ?_
        refine x_aload_n dX13_size_140 rfl ?_
        refine g_M_border hb fX13_397 dX13_size_141 ?_
        refine g_MB_paths fX13_331 dX13_size_144 hbn ?_
        refine x_top (y12_5 hB) ?_
        refine x_iret dX13_size_147 rfl ?_
        exact ⟨_, rfl, rfl, rfl⟩
      · refine x_tswIn 148 dX13_size_38 (by decide) (by decide) rfl (by decide) ?_
        refine x_aload_n dX13_size_148 rfl ?_
        refine g_M_border hb fX13_397 dX13_size_149 ?_
        refine g_MB_left fX13_338 dX13_size_152 hbn ?_
        refine x_top (y12_6 hB) ?_
        refine x_iret dX13_size_155 rfl ?_
        exact ⟨_, rfl, rfl, rfl⟩
      · refine x_tswIn 156 dX13_size_38 (by decide) (by decide) rfl (by decide) ?_
        refine x_aload_n dX13_size_156 rfl ?_
        refine g_M_border hb fX13_397 dX13_size_157 ?_
        refine g_MB_travellers fX13_343 dX13_size_160 hbn ?_
        refine x_top (y12_7 hB) ?_
        refine x_iret dX13_size_163 rfl ?_
        exact ⟨_, rfl, rfl, rfl⟩
      · refine x_tswIn 164 dX13_size_38 (by decide) (by decide) rfl (by decide) ?_
        refine x_aload_n dX13_size_164 rfl ?_
        refine g_M_border hb fX13_397 dX13_size_165 ?_
        refine g_MB_walks fX13_375 dX13_size_168 hbn ?_
        refine x_top (y12_9 hB) ?_
        refine x_iret dX13_size_171 rfl ?_
        exact ⟨_, rfl, rfl, rfl⟩
      · refine x_tswIn 172 dX13_size_38 (by decide) (by decide) rfl (by decide) ?_
        refine x_aload_n dX13_size_172 rfl ?_
        refine g_M_border hb fX13_397 dX13_size_173 ?_
        refine g_MB_asks fX13_378 dX13_size_176 hbn ?_
        refine x_top (y12_10 hB) ?_
        refine x_iret dX13_size_179 rfl ?_
        exact ⟨_, rfl, rfl, rfl⟩
      · refine x_tswIn 180 dX13_size_38 (by decide) (by decide) rfl (by decide) ?_
        refine x_aload_n dX13_size_180 rfl ?_
        refine g_M_border hb fX13_397 dX13_size_181 ?_
        refine g_MB_whiffs fX13_387 dX13_size_184 hbn ?_
        refine x_top (y12_11 hB) ?_
        refine x_iret dX13_size_187 rfl ?_
        exact ⟨_, rfl, rfl, rfl⟩
      · refine x_tswIn 188 dX13_size_38 (by decide) (by decide) rfl (by decide) ?_
        refine x_aload_n dX13_size_188 rfl ?_
        refine g_M_acts fX13_399 dX13_size_189 ?_
        rw [hY.2.1.1, hs_len]
        refine x_iret dX13_size_192 rfl ?_
        exact ⟨_, rfl, rfl, rfl⟩
      · refine x_tswOut 193 dX13_size_38 (by decide) (by decide) ?_
        refine x_aload_n dX13_size_193 rfl ?_
        refine g_M_marks fX13_402 dX13_size_194 ?_
        rw [hY.2.2.1]
        refine x_iret dX13_size_197 rfl ?_
        exact ⟨_, rfl, rfl, rfl⟩
    · refine x_iconst dX13_size_26 li_m1 ?_
      refine x_iret dX13_size_27 rfl ?_
      have hw := bI_eq.mp h23
      refine ⟨_, rfl, ?_, rfl⟩
      unfold a_size
      have a1 : ¬ wth z1 0 10 = true := fun z => by
        obtain ⟨j, _, h10, rfl⟩ := wth_of z (by decide) (by decide)
        rw [wth_nI (by omega) (by omega) (by omega), decide_eq_true (by omega)] at hw; cases hw
      have a2 : ¬ z1 = nI 11 := fun z => by subst z; exact absurd hw (by decide)
      have a3 : ¬ z1 = nI 12 := fun z => by subst z; exact absurd hw (by decide)
      rw [if_neg a1, if_neg a2, if_neg a3, if_neg h8]
  · refine x_aload_n dX13_size_11 rfl ?_
    refine g_M_taped fX13_390 dX13_size_12 ?_
    rw [xu_nk (by decide), hT.1]
    refine x_iret dX13_size_15 rfl ?_
    subst h8
    exact ⟨_, rfl, rfl, rfl⟩
theorem m_size (hV : VW V) (hO : YO V nb b I) {N : sN} {h : sH} {mk : List sN} (hY : YS V N h mk I) (hn0 : b = none → h = [] ∧ mk = []) {T : Nat → Nat} {n : Nat} (hT : YT T n I) {z1 : Int32} : Mt G vX13_size (d + 1) (0, 0) [.ref (ad 13 0), .int z1] (MM ad nb b r I L) (qE (a_size V h mk n z1) (MM ad nb b r (xu I 13 0 0 (nI 0)) L)) := by
  rcases hO with ⟨hn, hz⟩ | ⟨bi, hb, hbn, hB, h0⟩
  · obtain ⟨rfl, rfl⟩ := hn0 hn
    exact m_size0 hV hn hz hT
  · exact m_size1 hV hb hbn hB hY hT
end M11
