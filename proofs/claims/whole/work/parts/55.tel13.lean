section Tel13
variable {G : xG} {ad : Nat → Nat → Nat} {nb : Nat} {b r : Option Nat} {L : Nat → Nat → Nat → Int64} {V : sV} {I : Nat → Nat → Nat → Int32} {d : Nat}
set_option maxRecDepth 100000 in
set_option maxHeartbeats 4000000 in
theorem lp_walk {T : Nat → Nat} {e : Nat} (hE : e ≤ 1100) (hT : ∀ i, i < e → I 14 0 i = nI (T i)) (hT2 : ∀ i, T i < 256) {s : pS} (hP : PSt T e s I L) (hW : PW s) {t : Nat} (ht : t < s.1 0 7 0) : ∀ (n : Nat) (k : Nat) (st : List Nat) (a : Nat) (q : lR) (I1 : Nat → Nat → Nat → Int32) (L1 : Nat → Nat → Nat → Int64), 5 - k < n → k ≤ 5 → st.length = k → MID T e [16, 26, 37] I L s.2.1 a I1 L1 → I1 16 = I 16 → ((0 < k → I1 26 1 t = nI k) ∧ ∀ l, l ≠ t → I1 26 1 l = I 26 1 l) → ((∀ j, j < k → I1 37 (t + 4) j = nI (st.getD j 0)) ∧ ∀ c, c ≠ t + 4 → I1 37 c = I 37 c) → rwl T e s t (5 - k) st a = q → X G vX6_readWalk (d + 6) (0, 0) 40 [(0, some (.ref (ad 6 0))), (1, some (.int (nI (t)))), (2, some (.int (nI (k))))] [] (MM ad nb b r I1 L1) (xT G (qR2 T e ad nb b r I L (q))) := by
  have hV := hW.1
  have v0 := hV.1
  have v1 := hV.2.1
  have v2 := hV.2.2.1
  have v3 := hV.2.2.2.1
  have v4 := hV.2.2.2.2.1
  have v7 := hV.2.2.2.2.2.2.2.1
  have v9 := hV.2.2.2.2.2.2.2.2.2.1
  have v10 := hV.2.2.2.2.2.2.2.2.2.2.1
  intro n
  induction n with
  | zero => intro k st a q I1 L1 h0; omega
  | succ n ih =>
    intro k st a q I1 L1 hn hk hl m1 f16 f26 f37 hs
    have hta := (tA_le (T := T) m1.1).2
    refine x_iload_n dX6_readWalk_40 rfl ?_
    refine x_iconst dX6_readWalk_41 li_5 ?_
    refine x_icN_ge 113 dX6_readWalk_42 (by decide) (by omega) (by omega) (fun h42 => ?_) (fun h42 => ?_)
    · refine x_aload_n dX6_readWalk_113 rfl ?_
      refine x_iconst dX6_readWalk_114 li_4 ?_
      refine x_cvi ((c_knownName (d := d) (so := 4) hE (m1.t hT (by decide)) hT2 m1.1 m1.2.1 m1.2.2.1 (by omega)).wk (fun _ _ h => h.un)) kX6_159 dX6_readWalk_115 rfl (Nat.le_of_ble_eq_true rfl) rfl rfl (Nat.le_of_ble_eq_true rfl) (fun ru Mu hq => ?_)
      obtain ⟨rfl, I2, L2, rfl, p2, l2, e2, g2⟩ := hq
      refine x_if_eq 137 dX6_readWalk_118 (by decide) (fun h118 => ?_) (fun h118 => ?_)
      · obtain ⟨f, hf⟩ := pR_l h118
        refine x_iconst dX6_readWalk_137 li_0 ?_
        refine x_zret dX6_readWalk_138 rfl rfl ?_
        first
          | (refine qR2_no (f := (5, tA T e a)) ?_ ⟨by rw [xu_nk (by decide), xu_s], xu_s⟩ ((m1.2.2.2.2.1.tr p2).tr (fun a c hac => by funext x; rw [xu_ns (by omega), xu_ns (by omega)])) (m1.2.2.2.2.2.1.tr l2); rw [← hs, rwl_0 (by omega), hx]; rfl)
          | (refine qR2_no (f := f) ?_ (e2 f hf) (m1.2.2.2.2.1.tr p2) (m1.2.2.2.2.2.1.tr l2); rw [← hs, rwl_0 (by omega), hf]; rfl)
      · obtain ⟨x, hx⟩ := pR_r h118
        refine x_aload_n dX6_readWalk_121 rfl ?_
        refine x_iconst dX6_readWalk_122 li_5 ?_
        refine x_aload_n dX6_readWalk_123 rfl ?_
        refine g_Teller_foundAt fX6_183 dX6_readWalk_124 ?_
        rw [(g2 x hx).2.2.1]
        refine x_cvi (c_wrong (d := d + 5)) kX6_68 dX6_readWalk_127 rfl (Nat.le_of_ble_eq_true rfl) rfl rfl (Nat.le_of_ble_eq_true rfl) (fun ru Mu hq => ?_)
        obtain ⟨rfl, rfl⟩ := hq
        refine x_if_eq 137 dX6_readWalk_130 (by decide) (fun h130 => ?_) (fun h130 => absurd h130 (by decide))
        refine x_iconst dX6_readWalk_137 li_0 ?_
        refine x_zret dX6_readWalk_138 rfl rfl ?_
        first
          | (refine qR2_no (f := (5, tA T e a)) ?_ ⟨by rw [xu_nk (by decide), xu_s], xu_s⟩ ((m1.2.2.2.2.1.tr p2).tr (fun a c hac => by funext x; rw [xu_ns (by omega), xu_ns (by omega)])) (m1.2.2.2.2.2.1.tr l2); rw [← hs, rwl_0 (by omega), hx]; rfl)
          | (refine qR2_no (f := f) ?_ (e2 f hf) (m1.2.2.2.2.1.tr p2) (m1.2.2.2.2.2.1.tr l2); rw [← hs, rwl_0 (by omega), hf]; rfl)
    · refine x_aload_n dX6_readWalk_45 rfl ?_
      refine x_iconst dX6_readWalk_46 li_4 ?_
      refine x_cvi ((c_knownName (d := d) (so := 4) hE (m1.t hT (by decide)) hT2 m1.1 m1.2.1 m1.2.2.1 (by omega)).wk (fun _ _ h => h.un)) kX6_159 dX6_readWalk_47 rfl (Nat.le_of_ble_eq_true rfl) rfl rfl (Nat.le_of_ble_eq_true rfl) (fun ru Mu hq => ?_)
      obtain ⟨rfl, I2, L2, rfl, p2, l2, e2, g2⟩ := hq
      refine x_if_ne 55 dX6_readWalk_50 (by decide) (fun h50 => ?_) (fun h50 => ?_)
      · obtain ⟨x, hx⟩ := pR_r h50
        have m2 := m1.u (g2 x hx)
        have i16 : I2 16 = I 16 := ((g2 x hx).2.2.2.2.1 16 (by decide) (by decide)).trans f16
        have i26 : I2 26 = I1 26 := (g2 x hx).2.2.2.2.1 26 (by decide) (by decide)
        have i37 : I2 37 = I1 37 := (g2 x hx).2.2.2.2.1 37 (by decide) (by decide)
        refine x_aload_n dX6_readWalk_55 rfl ?_
        refine g_Teller_draft fX6_12 dX6_readWalk_56 ?_
        refine g_Border_walk fX6_203 dX6_readWalk_59 (by first | exact Nat.le_of_ble_eq_true rfl | assumption | omega) ?_
        refine x_iload_n dX6_readWalk_62 rfl ?_
        refine aa_Border_walk1 dX6_readWalk_63 rfl (by first | exact Nat.le_of_ble_eq_true rfl | assumption | omega) ?_
        refine x_iload_n dX6_readWalk_64 rfl ?_
        refine x_aload_n dX6_readWalk_65 rfl ?_
        refine g_Teller_found fX6_137 dX6_readWalk_66 ?_
        rw [(g2 x hx).2.1]
        refine x_iast dX6_readWalk_69 rfl rfl (Nat.lt_of_lt_of_le (show t + 4 < 8 by omega) (Nat.le_of_ble_eq_true rfl)) (by first | exact Nat.le_of_ble_eq_true rfl | assumption | omega) ?_
        refine x_aload_n dX6_readWalk_70 rfl ?_
        refine g_Teller_draft fX6_12 dX6_readWalk_71 ?_
        refine g_Border_walkLength fX6_200 dX6_readWalk_74 (by first | exact Nat.le_of_ble_eq_true rfl | assumption | omega) ?_
        refine x_iload_n dX6_readWalk_77 rfl ?_
        refine x_iload_n dX6_readWalk_78 rfl ?_
        refine x_iconst dX6_readWalk_79 li_1 ?_
        refine x_iaddN dX6_readWalk_80 ?_
        refine x_iast dX6_readWalk_81 rfl rfl (Nat.lt_of_lt_of_le (by first | assumption | omega | decide) (Nat.le_refl 2)) (by first | exact Nat.le_of_ble_eq_true rfl | assumption | omega) ?_
        have m3 := (m2.w2 (s := 37) (c := t + 4) (n := k) (v := nI x) (by decide) (by unfold db; omega)).w (s := 26) (n := t) (v := nI (k + 1)) (by decide) (by decide) (by decide)
        have h16b : (xu (xu I2 37 (t + 4) k (nI x)) 26 1 t (nI (k + 1))) 16 = I 16 := by rw [← i16]; funext x y; rw [xu_ns (by decide), xu_ns (by decide)]
        have a26 : (xu (xu I2 37 (t + 4) k (nI x)) 26 1 t (nI (k + 1))) 26 1 t = nI (k + 1) := xu_s
        have b26 : ∀ l, l ≠ t → (xu (xu I2 37 (t + 4) k (nI x)) 26 1 t (nI (k + 1))) 26 1 l = I 26 1 l := fun l hl => by rw [xu_nk hl, xu_ns (by decide), i26]; exact f26.2 l hl
        have a37 : ∀ j, j < k + 1 → (xu (xu I2 37 (t + 4) k (nI x)) 26 1 t (nI (k + 1))) 37 (t + 4) j = nI ((st ++ [x]).getD j 0) := by
          intro j hj
          rw [xu_ns (by decide), xu_at, List.getD_eq_getElem?_getD]
          by_cases e0 : j = k
          · rw [if_pos e0, e0, ← hl, List.getElem?_concat_length]; rfl
          · rw [if_neg e0, i37, f37.1 j (by omega), List.getElem?_append_left (by omega), List.getD_eq_getElem?_getD]
        have b37 : ∀ c, c ≠ t + 4 → (xu (xu I2 37 (t + 4) k (nI x)) 26 1 t (nI (k + 1))) 37 c = I 37 c := fun c hc => by rw [← f37.2 c hc, ← i37]; funext y; rw [xu_ns (by decide), xu_ni hc]
        have hl2 : (st ++ [x]).length = k + 1 := by rw [List.length_append, hl]; rfl
        have hkd := kd_le (T := T) (e := e) (a := nx T e a)
        refine x_aload_n dX6_readWalk_82 rfl ?_
        refine g_Teller_tokens fX6_34 dX6_readWalk_83 ?_
        refine g_Tokens_kind fX6_59 dX6_readWalk_86 ?_
        refine x_top (v := nI (kd T e (nx T e a))) m3.2.1.2.2.2.1 ?_
        refine x_iconst dX6_readWalk_89 li_4 ?_
        refine x_icN_eq 100 dX6_readWalk_90 (by decide) (by omega) (by omega) (fun h90 => ?_) (fun h90 => ?_)
        · refine x_aload_n dX6_readWalk_100 rfl ?_
          refine g_Teller_tokens fX6_34 dX6_readWalk_101 ?_
          refine x_cvv (c_next (d := d + 5) (a := nx T e (nx T e a)) hE (m3.t hT (by decide)) hT2 (nx_le m3.1).2 m3.2.1.1 m3.2.1.2.2.1) kX6_62 dX6_readWalk_104 rfl (Nat.le_of_ble_eq_true rfl) rfl rfl (Nat.le_of_ble_eq_true rfl) (fun Mu hq => ?_)
          obtain ⟨I4, L4, rfl, q1, q2, q3⟩ := hq
          have m4 := m3.x q1 q2 q3
          refine x_iincN 1 dX6_readWalk_107 li_1 rfl (by decide) rfl ?_
          refine x_goto 40 dX6_readWalk_110 (by decide) ?_
          refine x_ls ?_ (ih (k + 1) (st ++ [x]) _ q I4 L4 (by omega) (by omega) hl2 m4 ((q2 16 (by decide)).trans h16b) ⟨fun _ => by rw [q2 26 (by decide)]; exact a26, fun l hl => by rw [q2 26 (by decide)]; exact b26 l hl⟩ ⟨fun j hj => by rw [q2 37 (by decide)]; exact a37 j hj, fun c hc => (by rw [q2 37 (by decide)]; exact b37 c hc)⟩ ?_)
          · exact ⟨rfl, rfl, rfl, trivial⟩
          · rw [← hs, rwl_s (f := 5 - k) (by omega), hx]; simp only [bnd]; rw [if_pos h90, show 5 - (k + 1) = 5 - k - 1 by omega]
        · refine x_aload_n dX6_readWalk_93 rfl ?_
          refine x_bipush dX6_readWalk_94 lb_8 ?_
          refine x_cvi (c_count' (d := d + 5) (so := 8) (n := s.1 0 8 0) (by rw [h16b]; exact hP.2.2.1.1 8 (by omega)) (by omega)) kX6_149 dX6_readWalk_96 rfl (Nat.le_of_ble_eq_true rfl) rfl rfl (Nat.le_of_ble_eq_true rfl) (fun ru Mu hq => ?_)
          obtain ⟨rfl, rfl⟩ := hq
          refine x_zret dX6_readWalk_99 rfl rfl ?_
          have mz := m3.w (s := 16) (n := 8) (v := nI (s.1 0 8 0 + 1)) (by decide) (by decide) (by decide)
          have e16 : ∀ q, q ≠ 16 → (xu (xu (xu I2 37 (t + 4) k (nI x)) 26 1 t (nI (k + 1))) 16 1 8 (nI (s.1 0 8 0 + 1))) q = (xu (xu I2 37 (t + 4) k (nI x)) 26 1 t (nI (k + 1))) q := fun q h => by funext x y; rw [xu_ns h]
          have hb := XB.walk (t := t) (st := st ++ [x]) (I' := xu (xu (xu I2 37 (t + 4) k (nI x)) 26 1 t (nI (k + 1))) 16 1 8 (nI (s.1 0 8 0 + 1))) hP.2.2.1 hP.2.2.2.1 xu_s (fun l hl => by rw [xu_nk hl, h16b]) (by rw [e16 26 (by decide), hl2]; exact a26) (fun l hl => by rw [e16 26 (by decide)]; exact b26 l hl) (fun j hj => by rw [e16 37 (by decide)]; exact a37 j (by omega)) (fun c hc => by rw [e16 37 (by decide)]; exact b37 c hc) (fun q h1 h2 h3 h4 => mz.2.2.2.2.2.2 q (by omega) (by omega) (by omega) (by omega) (by simp; omega))
          refine qR2_ok (s := (wkV s.1 t (st ++ [x]), s.2.1, nx T e a)) ?_ ⟨mz.1, mz.2.1, hb.1, hb.2, mz.2.2.1⟩ mz.2.2.2.2.1 mz.2.2.2.2.2.1 mz.2.2.2.1.1 mz.2.2.2.1.2
          rw [← hs, rwl_s (by omega), hx]
          simp only [bnd]
          rw [if_neg h90]
      · obtain ⟨f, hf⟩ := pR_l h50
        refine x_iconst dX6_readWalk_53 li_0 ?_
        refine x_zret dX6_readWalk_54 rfl rfl ?_
        refine qR2_no (f := f) ?_ (e2 f hf) (m1.2.2.2.2.1.tr p2) (m1.2.2.2.2.2.1.tr l2)
        rw [← hs, rwl_s (by omega), hf]
        rfl
set_option maxRecDepth 100000 in
set_option maxHeartbeats 4000000 in
theorem c_read_walk {T : Nat → Nat} {e : Nat} (hE : e ≤ 1100) (hT : ∀ i, i < e → I 14 0 i = nI (T i)) (hT2 : ∀ i, T i < 256) {s : pS} (hP : PSt T e s I L) (hW : PW s) : Mt G vX6_readWalk (d + 6) (0, 0) [.ref (ad 6 0)] (MM ad nb b r I L) (qR2 T e ad nb b r I L (rd_walk T e s)) := by
  have hV := hW.1
  have v0 := hV.1
  have v1 := hV.2.1
  have v2 := hV.2.2.1
  have v3 := hV.2.2.2.1
  have v4 := hV.2.2.2.2.1
  have v7 := hV.2.2.2.2.2.2.2.1
  have v9 := hV.2.2.2.2.2.2.2.2.2.1
  have v10 := hV.2.2.2.2.2.2.2.2.2.2.1
  have m0 : MID T e [16, 26, 37] I L s.2.1 s.2.2 I L := MID.st hP
  have hta := (tA_le (T := T) hP.1).2
  refine x_start (by decide) (Nat.le_of_ble_eq_true rfl) ?_
  refine x_aload_n dX6_readWalk_0 rfl ?_
  refine x_bipush dX6_readWalk_1 lb_7 ?_
  refine x_cvi ((c_knownName (d := d) (so := 7) hE (m0.t hT (by decide)) hT2 m0.1 m0.2.1 m0.2.2.1 (by omega)).wk (fun _ _ h => h.un)) kX6_159 dX6_readWalk_3 rfl (Nat.le_of_ble_eq_true rfl) rfl rfl (Nat.le_of_ble_eq_true rfl) (fun ru Mu hq => ?_)
  obtain ⟨rfl, I1, L1, rfl, p1, l1, e1, g1⟩ := hq
  refine x_if_ne 11 dX6_readWalk_6 (by decide) (fun h6 => ?_) (fun h6 => ?_)
  · obtain ⟨t, hx1⟩ := pR_r h6
    have m1 := m0.u (g1 t hx1)
    have ht := pKnown_lt (V := s.1) hx1 hW.2.2
    have j26 : I1 26 = I 26 := (g1 t hx1).2.2.2.2.1 26 (by decide) (by decide)
    have h13 := hV.2.2.2.2.2.2.2.2.2.2.2.2.2.2.2.2.2.2.2.2.1 t
    refine x_aload_n dX6_readWalk_11 rfl ?_
    refine g_Teller_found fX6_137 dX6_readWalk_12 ?_
    rw [(g1 t hx1).2.1]
    refine x_istore_n dX6_readWalk_15 (by decide) rfl ?_
    refine x_aload_n dX6_readWalk_16 rfl ?_
    refine g_Teller_draft fX6_12 dX6_readWalk_17 ?_
    refine g_Border_walkLength fX6_200 dX6_readWalk_20 (by first | exact Nat.le_of_ble_eq_true rfl | assumption | omega) ?_
    refine x_iload_n dX6_readWalk_23 rfl ?_
    refine x_iald dX6_readWalk_24 rfl rfl (Nat.lt_of_lt_of_le (by first | assumption | omega | decide) (Nat.le_refl 2)) (by first | exact Nat.le_of_ble_eq_true rfl | assumption | omega) ?_
    rw [j26, hP.2.2.1.2.2.2.2.2.2.1 t (by omega)]
    refine x_ifN_le 38 dX6_readWalk_25 (by decide) (by omega) (fun h25 => ?_) (fun h25 => ?_)
    · refine x_iconst dX6_readWalk_38 li_0 ?_
      refine x_istore_n dX6_readWalk_39 (by decide) rfl ?_
      refine x_ls ?_ (lp_walk hE hT hT2 hP hW ht 6 0 [] (nx T e s.2.2) _ I1 L1 (by omega) (by omega) rfl m1 ((g1 t hx1).2.2.2.2.1 16 (by decide) (by decide)) ⟨fun z => absurd z (by omega), fun l _ => by rw [j26]⟩ ⟨fun j hj => absurd hj (Nat.not_lt_zero j), fun c _ => by rw [(g1 t hx1).2.2.2.2.1 37 (by decide) (by decide)]⟩ ?_)
      · exact ⟨rfl, rfl, rfl, trivial⟩
      · unfold rd_walk; simp only [bnd, hx1]; rw [if_pos (show s.1 13 t 0 = 0 by omega)]
    · refine x_aload_n dX6_readWalk_28 rfl ?_
      refine x_iconst dX6_readWalk_29 li_3 ?_
      refine x_aload_n dX6_readWalk_30 rfl ?_
      refine g_Teller_foundAt fX6_183 dX6_readWalk_31 ?_
      rw [(g1 t hx1).2.2.1]
      refine x_cvi (c_wrong (d := d + 5)) kX6_68 dX6_readWalk_34 rfl (Nat.le_of_ble_eq_true rfl) rfl rfl (Nat.le_of_ble_eq_true rfl) (fun ru Mu hq => ?_)
      obtain ⟨rfl, rfl⟩ := hq
      refine x_zret dX6_readWalk_37 rfl rfl ?_
      refine qR2_no (f := (3, tA T e s.2.2)) ?_ ⟨by rw [xu_nk (by decide), xu_s], xu_s⟩ (p1.tr (fun a c hac => by funext x; rw [xu_ns (by omega), xu_ns (by omega)])) l1
      unfold rd_walk
      simp only [bnd, hx1]
      rw [if_neg (show ¬ s.1 13 t 0 = 0 by omega)]
  · obtain ⟨f, hf⟩ := pR_l h6
    refine x_iconst dX6_readWalk_9 li_0 ?_
    refine x_zret dX6_readWalk_10 rfl rfl ?_
    refine qR2_no (f := f) ?_ (e1 f hf) p1 l1
    unfold rd_walk
    simp only [bnd, hf]
end Tel13
