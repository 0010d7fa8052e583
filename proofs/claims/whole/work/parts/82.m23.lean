section M23
variable {G : xG} {ad : Nat → Nat → Nat} {nb : Nat} {b r : Option Nat} {L : Nat → Nat → Nat → Int64} {V : sV} {I : Nat → Nat → Nat → Int32} {d : Nat}

variable {P w : List Nat} {T : List (List Nat)}
theorem bl_nd : ∀ (r : Nat) (P : List Nat), P.Nodup → (∀ x ∈ P, x < V 0 4 0) → ∀ u ∈ bl V r P, u.Nodup ∧ (∀ x ∈ u, x < V 0 4 0) ∧ u.length = P.length + r
  | 0, P, h1, h2, u, hu => by
    unfold bl at hu
    split at hu
    · rw [List.mem_singleton.mp hu]; exact ⟨h1, h2, rfl⟩
    · exact absurd hu List.not_mem_nil
  | r + 1, P, h1, h2, u, hu => by
    obtain ⟨q, hq, k⟩ := List.mem_flatMap.mp (show u ∈ (List.range (V 0 4 0)).flatMap (fun q => if pok V P q = true then bl V r (P ++ [q]) else []) from hu)
    split at k
    · rename_i hp
      have hn : q ∉ P := by unfold pok at hp; exact of_decide_eq_true (Bool.and_eq_true_iff.mp hp).1
      have h3 := bl_nd r (P ++ [q]) (by
        rw [List.nodup_append]
        exact ⟨h1, by simp, fun a ha c hc e => hn (by rw [List.mem_singleton.mp hc] at e; exact e ▸ ha)⟩) (fun x hx => (List.mem_append.mp hx).elim (h2 x) (fun e => by rw [List.mem_singleton.mp e]; exact List.mem_range.mp hq)) u k
      refine ⟨h3.1, h3.2.1, ?_⟩
      rw [h3.2.2, List.length_append]
      show P.length + 1 + r = _
      omega
    · exact absurd k List.not_mem_nil
theorem bl_big {m : Nat} (h : V 0 4 0 < m) : bl V m [] = [] := List.eq_nil_iff_forall_not_mem.mpr (fun u hu => by
  obtain ⟨h1, h2, h3⟩ := bl_nd m [] List.nodup_nil (fun x hx => absurd hx List.not_mem_nil) u hu
  have := php0 _ u h1 h2
  rw [h3] at this
  simp at this
  omega)
theorem mtk_end {k : Nat} (hk : V 0 4 0 ≤ k) : ∀ j, mtk V (k + j) = mtk V k
  | 0 => rfl
  | j + 1 => by
    show mtk V (k + j) ++ bl V (k + j + 1) [] = _
    rw [mtk_end hk j, bl_big (by omega), List.append_nil]
theorem mtk_2000 (h4 : V 0 4 0 ≤ 6) : ∀ k, k ≤ 4 → (mtk V k).length ≤ 2000 := by
  have l1 := bl_len (V := V) h4 1 []
  have l2 := bl_len (V := V) h4 2 []
  have l3 := bl_len (V := V) h4 3 []
  have l4 := bl_len (V := V) h4 4 []
  have e1 : (mtk V 1).length = (bl V 1 []).length := by show ([] ++ bl V 1 []).length = _; rw [List.nil_append]
  have e2 : (mtk V 2).length = (mtk V 1).length + (bl V 2 []).length := List.length_append
  have e3 : (mtk V 3).length = (mtk V 2).length + (bl V 3 []).length := List.length_append
  have e4 : (mtk V 4).length = (mtk V 3).length + (bl V 4 []).length := List.length_append
  intro k hk
  have e0 : (mtk V 0).length = 0 := rfl
  rcases (show k = 0 ∨ k = 1 ∨ k = 2 ∨ k = 3 ∨ k = 4 by omega) with rfl | rfl | rfl | rfl | rfl <;> omega

set_option maxRecDepth 100000 in
set_option maxHeartbeats 600000 in
theorem m_beens (hV : VW V) {bi : Nat} (hb : b = some bi) (hbn : bi < nb) (hB : YB V bi I) (h0 : 0 < V 0 0 0) : Mt G vX13_beens (d + 4) (0, 0) [.ref (ad 13 0)] (MM ad nb b r I L) (qV (fun M' => ∃ I', M' = MM ad nb b r I' L ∧ MX I I' ∧ I' 13 0 34 = nI (been V).length ∧ I' 13 0 35 = nI (orT (been V)) ∧ I' 13 0 36 = (if nI (been V).length = 0 then 0 else nI (anT (been V))) ∧ (been V).length ≤ 2000 ∧ (been V ≠ [] → I' 13 0 37 = nI (fsT (been V)).length ∧ ∀ i, i < (fsT (been V)).length → I' 99 0 i = nI ((fsT (been V)).getD i 0)))) := by
  have v0 := hV.1
  have v1 := hV.2.1
  have v2 := hV.2.2.1
  have v3 := hV.2.2.2.1
  have v4 := hV.2.2.2.2.1
  have v7 := hV.2.2.2.2.2.2.2.1
  have v9 := hV.2.2.2.2.2.2.2.2.2.1
  have v10 := hV.2.2.2.2.2.2.2.2.2.2.1
  have loop27 : ∀ (n : Nat) (k : Nat) (I1 : Nat → Nat → Nat → Int32), 4 - k < n → k ≤ 4 → TB V (mtk V k) I1 → FB I I1 → X G vX13_beens (d + 4) (0, 0) 27 [(0, some (.ref (ad 13 0))), (1, some (.int (nI (k + 1))))] [] (MM ad nb b r I1 L) (xT G (qV (fun M' => ∃ I', M' = MM ad nb b r I' L ∧ MX I I' ∧ I' 13 0 34 = nI (been V).length ∧ I' 13 0 35 = nI (orT (been V)) ∧ I' 13 0 36 = (if nI (been V).length = 0 then 0 else nI (anT (been V))) ∧ (been V).length ≤ 2000 ∧ (been V ≠ [] → I' 13 0 37 = nI (fsT (been V)).length ∧ ∀ i, i < (fsT (been V)).length → I' 99 0 i = nI ((fsT (been V)).getD i 0))))) := by
    intro n
    induction n with
    | zero => intro k I1 h0; omega
    | succ n ih =>
      intro k I1 hn hk hT hF
      have hB1 := hB.mx hF.mx
      have hl := mtk_2000 v4 k hk
      refine x_iload_n dX13_beens_27 rfl ?_
      refine x_iconst dX13_beens_28 li_4 ?_
      refine x_icN_gt 54 dX13_beens_29 (by decide) (by omega) (by omega) (fun h29 => ?_) (fun h29 => ?_)
      · have e4 : mtk V k = mtk V 4 := by
          rcases (show k = 4 ∨ V 0 4 0 ≤ k by omega) with e | e
          · rw [e]
          · have := mtk_end (V := V) e (4 - k); rw [show k + (4 - k) = 4 by omega] at this; exact this.symm
        have hbl : (been V).length ≤ 2000 := by rw [← mt_len, ← e4]; exact hl
        rw [e4] at hT
        refine x_aload_n dX13_beens_54 rfl ?_
        refine g_M_rows fX13_472 dX13_beens_55 ?_
        rw [hT.1, mt_len]
        refine x_ifN_ne 66 dX13_beens_58 (by decide) (by omega) (fun h58 => ?_) (fun h58 => ?_)
        · have hne : been V ≠ [] := fun z => by rw [z] at h58; exact absurd h58 (by decide)
          have hz : ¬ nI (been V).length = 0 := fun z => by have := nI_inj (by omega) (by omega) (show nI (been V).length = nI 0 from z); omega
          refine x_vret dX13_beens_66 rfl ?_
          first
            | (refine ⟨rfl, _, rfl, hF.mx, by rw [hT.1, mt_len], by rw [hT.2.1, mt_or], by rw [hT.2.2.1, if_neg hz, mt_an v4 hne], hbl, fun _ => ?_⟩
               have h3 := hT.2.2.2 (fun z => by have := mt_len (V := V); rw [z] at this; exact hne (List.eq_nil_of_length_eq_zero this.symm))
               rw [mt_hd hne] at h3
               exact h3)
            | (refine ⟨rfl, _, rfl, hF.mx.tr ⟨fun s _ h13 => by funext x y; rw [xu_ns h13], fun k hk => by rw [xu_nk (by omega)]⟩, by rw [xu_nk (by decide), hT.1, mt_len], by rw [xu_nk (by decide), hT.2.1, mt_or], by rw [xu_s, if_pos (by rw [h58]; rfl)]; rfl, hbl, fun z => absurd hne z⟩)
        · have hne : been V = [] := List.eq_nil_of_length_eq_zero h58
          refine x_aload_n dX13_beens_61 rfl ?_
          refine x_iconst dX13_beens_62 li_0 ?_
          refine p_M_all fX13_478 dX13_beens_63 ?_
          refine x_vret dX13_beens_66 rfl ?_
          first
            | (refine ⟨rfl, _, rfl, hF.mx, by rw [hT.1, mt_len], by rw [hT.2.1, mt_or], by rw [hT.2.2.1, if_neg hz, mt_an v4 hne], hbl, fun _ => ?_⟩
               have h3 := hT.2.2.2 (fun z => by have := mt_len (V := V); rw [z] at this; exact hne (List.eq_nil_of_length_eq_zero this.symm))
               rw [mt_hd hne] at h3
               exact h3)
            | (refine ⟨rfl, _, rfl, hF.mx.tr ⟨fun s _ h13 => by funext x y; rw [xu_ns h13], fun k hk => by rw [xu_nk (by omega)]⟩, by rw [xu_nk (by decide), hT.1, mt_len], by rw [xu_nk (by decide), hT.2.1, mt_or], by rw [xu_s, if_pos (by rw [h58]; rfl)]; rfl, hbl, fun z => absurd hne z⟩)
      · refine x_iload_n dX13_beens_32 rfl ?_
        refine x_aload_n dX13_beens_33 rfl ?_
        refine g_M_border hb fX13_397 dX13_beens_34 ?_
        refine g_MB_places fX13_230 dX13_beens_37 hbn ?_
        refine x_top (y12_4 hB1) ?_
        refine x_icN_gt 54 dX13_beens_40 (by decide) (by omega) (by omega) (fun h40 => ?_) (fun h40 => ?_)
        · have e4 : mtk V k = mtk V 4 := by
            rcases (show k = 4 ∨ V 0 4 0 ≤ k by omega) with e | e
            · rw [e]
            · have := mtk_end (V := V) e (4 - k); rw [show k + (4 - k) = 4 by omega] at this; exact this.symm
          have hbl : (been V).length ≤ 2000 := by rw [← mt_len, ← e4]; exact hl
          rw [e4] at hT
          refine x_aload_n dX13_beens_54 rfl ?_
          refine g_M_rows fX13_472 dX13_beens_55 ?_
          rw [hT.1, mt_len]
          refine x_ifN_ne 66 dX13_beens_58 (by decide) (by omega) (fun h58 => ?_) (fun h58 => ?_)
          · have hne : been V ≠ [] := fun z => by rw [z] at h58; exact absurd h58 (by decide)
            have hz : ¬ nI (been V).length = 0 := fun z => by have := nI_inj (by omega) (by omega) (show nI (been V).length = nI 0 from z); omega
            refine x_vret dX13_beens_66 rfl ?_
            first
              | (refine ⟨rfl, _, rfl, hF.mx, by rw [hT.1, mt_len], by rw [hT.2.1, mt_or], by rw [hT.2.2.1, if_neg hz, mt_an v4 hne], hbl, fun _ => ?_⟩
                 have h3 := hT.2.2.2 (fun z => by have := mt_len (V := V); rw [z] at this; exact hne (List.eq_nil_of_length_eq_zero this.symm))
                 rw [mt_hd hne] at h3
                 exact h3)
              | (refine ⟨rfl, _, rfl, hF.mx.tr ⟨fun s _ h13 => by funext x y; rw [xu_ns h13], fun k hk => by rw [xu_nk (by omega)]⟩, by rw [xu_nk (by decide), hT.1, mt_len], by rw [xu_nk (by decide), hT.2.1, mt_or], by rw [xu_s, if_pos (by rw [h58]; rfl)]; rfl, hbl, fun z => absurd hne z⟩)
          · have hne : been V = [] := List.eq_nil_of_length_eq_zero h58
            refine x_aload_n dX13_beens_61 rfl ?_
            refine x_iconst dX13_beens_62 li_0 ?_
            refine p_M_all fX13_478 dX13_beens_63 ?_
            refine x_vret dX13_beens_66 rfl ?_
            first
              | (refine ⟨rfl, _, rfl, hF.mx, by rw [hT.1, mt_len], by rw [hT.2.1, mt_or], by rw [hT.2.2.1, if_neg hz, mt_an v4 hne], hbl, fun _ => ?_⟩
                 have h3 := hT.2.2.2 (fun z => by have := mt_len (V := V); rw [z] at this; exact hne (List.eq_nil_of_length_eq_zero this.symm))
                 rw [mt_hd hne] at h3
                 exact h3)
              | (refine ⟨rfl, _, rfl, hF.mx.tr ⟨fun s _ h13 => by funext x y; rw [xu_ns h13], fun k hk => by rw [xu_nk (by omega)]⟩, by rw [xu_nk (by decide), hT.1, mt_len], by rw [xu_nk (by decide), hT.2.1, mt_or], by rw [xu_s, if_pos (by rw [h58]; rfl)]; rfl, hbl, fun z => absurd hne z⟩)
        · refine x_aload_n dX13_beens_43 rfl ?_
          refine x_iload_n dX13_beens_44 rfl ?_
          refine x_cvv (m_beensOf (d := d) (T := mtk V k) (m := k + 1) hV hb hbn hB1 h0 (by omega) (by omega) hT (mtk_2000 (V := V) v4 (k + 1) (by omega))) kX13_481 dX13_beens_45 rfl (Nat.le_of_ble_eq_true rfl) rfl rfl (Nat.le_of_ble_eq_true rfl) (fun Mu hq => ?_)
          obtain ⟨I2, rfl, t2, f2⟩ := hq
          refine x_iincN 1 dX13_beens_48 li_1 rfl (by decide) rfl ?_
          refine x_goto 27 dX13_beens_51 (by decide) ?_
          refine x_ls ?_ (ih (k + 1) I2 (by omega) (by omega) t2 (hF.tr f2))
          exact ⟨rfl, rfl, trivial⟩
  refine x_start (by decide) (Nat.le_of_ble_eq_true rfl) ?_
  refine x_aload_n dX13_beens_0 rfl ?_
  refine x_iconst dX13_beens_1 li_0 ?_
  refine p_M_rows fX13_472 dX13_beens_2 ?_
  refine x_aload_n dX13_beens_5 rfl ?_
  refine x_iconst dX13_beens_6 li_0 ?_
  refine p_M_some fX13_475 dX13_beens_7 ?_
  refine x_aload_n dX13_beens_10 rfl ?_
  refine x_iconst dX13_beens_11 li_1 ?_
  refine x_aload_n dX13_beens_12 rfl ?_
  refine g_M_border hb fX13_397 dX13_beens_13 ?_
  refine g_MB_places fX13_230 dX13_beens_16 hbn ?_
  refine x_top (y12_4 (hB.sm (I' := xu (xu I 13 0 34 (nI 0)) 13 0 35 (nI 0)) (fun q hq => by funext x y; rw [xu_ns (by omega), xu_ns (by omega)]))) ?_
  refine x_ishl dX13_beens_19 ?_
  rw [sh1 _ (by omega)]
  refine x_iconst dX13_beens_20 li_1 ?_
  refine x_isubN dX13_beens_21 Nat.one_le_two_pow ?_
  refine p_M_all fX13_478 dX13_beens_22 ?_
  refine x_iconst dX13_beens_25 li_1 ?_
  refine x_istore_n dX13_beens_26 (by decide) rfl ?_
  refine x_ls ?_ (loop27 5 0 (xu (xu (xu I 13 0 34 (nI 0)) 13 0 35 (nI 0)) 13 0 36 (nI (2 ^ V 0 4 0 - 1))) (by omega) (by omega) ⟨?_, ?_, xu_s, fun z => absurd rfl z⟩ ⟨fun s _ _ _ h13 => ?_, fun k hk => ?_⟩)
  · exact ⟨rfl, rfl, trivial⟩
  · rw [xu_nk (by decide), xu_nk (by decide), xu_s]; rfl
  · rw [xu_nk (by decide), xu_s]; rfl
  · funext x y; rw [xu_ns h13, xu_ns h13, xu_ns h13]
  · rw [xu_nk (by omega), xu_nk (by omega), xu_nk (by omega)]
set_option maxRecDepth 100000 in
set_option maxHeartbeats 600000 in
theorem m_asksBeen0 (hn : b = none) (hz : ∀ k, k < 12 → V 0 k 0 = 0) : Mt G vX13_asksBeen (d + 5) (0, 0) [.ref (ad 13 0)] (MM ad nb b r I L) (qI (fun rr M' => ∃ I', M' = MM ad nb b r I' L ∧ rr = nI (wnt V) ∧ MX I I' ∧ (wnt V = 0 → I' 13 0 34 = nI (been V).length ∧ I' 13 0 35 = nI (orT (been V)) ∧ I' 13 0 36 = (if nI (been V).length = 0 then 0 else nI (anT (been V))) ∧ (been V).length ≤ 2000 ∧ (been V ≠ [] → I' 13 0 37 = nI (fsT (been V)).length ∧ ∀ i, i < (fsT (been V)).length → I' 99 0 i = nI ((fsT (been V)).getD i 0))))) := by
  refine x_start (by decide) (Nat.le_of_ble_eq_true rfl) ?_
  refine x_aload_n dX13_asksBeen_0 rfl ?_
  refine g_M_borderN hn fX13_397 dX13_asksBeen_1 ?_
  refine x_ifnonnullN dX13_asksBeen_4 ?_
  refine x_iconst dX13_asksBeen_7 li_1 ?_
  refine x_iret dX13_asksBeen_8 rfl ?_
  have e1 : wnt V = 1 := if_neg (by rw [hz 0 (by decide)]; decide)
  exact ⟨_, rfl, _, rfl, by rw [e1], MX.rf, fun z => absurd (e1.symm.trans z) (by decide)⟩
set_option maxRecDepth 100000 in
set_option maxHeartbeats 600000 in
theorem m_asksBeen1 (hV : VW V) {bi : Nat} (hb : b = some bi) (hbn : bi < nb) (hB : YB V bi I) (h0 : 0 < V 0 0 0) : Mt G vX13_asksBeen (d + 5) (0, 0) [.ref (ad 13 0)] (MM ad nb b r I L) (qI (fun rr M' => ∃ I', M' = MM ad nb b r I' L ∧ rr = nI (wnt V) ∧ MX I I' ∧ (wnt V = 0 → I' 13 0 34 = nI (been V).length ∧ I' 13 0 35 = nI (orT (been V)) ∧ I' 13 0 36 = (if nI (been V).length = 0 then 0 else nI (anT (been V))) ∧ (been V).length ≤ 2000 ∧ (been V ≠ [] → I' 13 0 37 = nI (fsT (been V)).length ∧ ∀ i, i < (fsT (been V)).length → I' 99 0 i = nI ((fsT (been V)).getD i 0))))) := by
  have v0 := hV.1
  have v1 := hV.2.1
  have v2 := hV.2.2.1
  have v3 := hV.2.2.2.1
  have v4 := hV.2.2.2.2.1
  have v7 := hV.2.2.2.2.2.2.2.1
  have v9 := hV.2.2.2.2.2.2.2.2.2.1
  have v10 := hV.2.2.2.2.2.2.2.2.2.2.1
  refine x_start (by decide) (Nat.le_of_ble_eq_true rfl) ?_
  refine x_aload_n dX13_asksBeen_0 rfl ?_
  refine g_M_border hb fX13_397 dX13_asksBeen_1 ?_
  refine x_ifnonnull 9 dX13_asksBeen_4 (by decide) ?_
  refine x_aload_n dX13_asksBeen_9 rfl ?_
  refine g_M_border hb fX13_397 dX13_asksBeen_10 ?_
  refine g_MB_whiffs fX13_387 dX13_asksBeen_13 hbn ?_
  refine x_top (y12_11 hB) ?_
  refine x_ifN_ne 22 dX13_asksBeen_16 (by decide) (by omega) (fun h16 => ?_) (fun h16 => ?_)
  · refine x_aload_n dX13_asksBeen_22 rfl ?_
    refine x_cvv (m_beens (d := d) hV hb hbn hB h0) kX13_496 dX13_asksBeen_23 rfl (Nat.le_of_ble_eq_true rfl) rfl rfl (Nat.le_of_ble_eq_true rfl) (fun Mu hq => ?_)
    obtain ⟨I1, rfl, m1, hx⟩ := hq
    refine x_iconst dX13_asksBeen_26 li_0 ?_
    refine x_iret dX13_asksBeen_27 rfl ?_
    have e1 : wnt V = 0 := by unfold wnt; rw [if_pos h0, if_neg (by omega)]
    exact ⟨_, rfl, _, rfl, by rw [e1], m1, fun _ => hx⟩
  · refine x_bipush dX13_asksBeen_19 lb_6 ?_
    refine x_iret dX13_asksBeen_21 rfl ?_
    have e1 : wnt V = 6 := by unfold wnt; rw [if_pos h0, if_pos (by omega)]
    exact ⟨_, rfl, _, rfl, by rw [e1], MX.rf, fun z => absurd (e1.symm.trans z) (by decide)⟩
theorem m_asksBeen (hV : VW V) (hO : YO V nb b I) : Mt G vX13_asksBeen (d + 5) (0, 0) [.ref (ad 13 0)] (MM ad nb b r I L) (qI (fun rr M' => ∃ I', M' = MM ad nb b r I' L ∧ rr = nI (wnt V) ∧ MX I I' ∧ (wnt V = 0 → I' 13 0 34 = nI (been V).length ∧ I' 13 0 35 = nI (orT (been V)) ∧ I' 13 0 36 = (if nI (been V).length = 0 then 0 else nI (anT (been V))) ∧ (been V).length ≤ 2000 ∧ (been V ≠ [] → I' 13 0 37 = nI (fsT (been V)).length ∧ ∀ i, i < (fsT (been V)).length → I' 99 0 i = nI ((fsT (been V)).getD i 0))))) := by
  rcases hO with ⟨hn, hz⟩ | ⟨bi, hb, hbn, hB, h0⟩
  · exact m_asksBeen0 hn hz
  · exact m_asksBeen1 hV hb hbn hB h0
set_option maxRecDepth 100000 in
set_option maxHeartbeats 600000 in
theorem m_been (hV : VW V) (hO : YO V nb b I) : Mt G vX13_been (d + 6) (0, 0) [.ref (ad 13 0)] (MM ad nb b r I L) (qM ad nb b r I L (a_been V)) := by
  have v0 := hV.1
  have v1 := hV.2.1
  have v2 := hV.2.2.1
  have v3 := hV.2.2.2.1
  have v4 := hV.2.2.2.2.1
  have v7 := hV.2.2.2.2.2.2.2.1
  have v9 := hV.2.2.2.2.2.2.2.2.2.1
  have v10 := hV.2.2.2.2.2.2.2.2.2.2.1
  have hO := hO.sm (I' := (xu I 13 0 0 (nI 0))) (fun q hq => by funext x y; rw [xu_ns (by omega)])
  refine x_start (by decide) (Nat.le_of_ble_eq_true rfl) ?_
  refine x_aload_n dX13_been_0 rfl ?_
  refine x_iconst dX13_been_1 li_0 ?_
  refine p_M_thrown fX13_72 dX13_been_2 ?_
  refine x_aload_n dX13_been_5 rfl ?_
  refine x_cvi (m_asksBeen (d := d) hV hO) kX13_499 dX13_been_6 rfl (Nat.le_of_ble_eq_true rfl) rfl rfl (Nat.le_of_ble_eq_true rfl) (fun ru Mu hq => ?_)
  obtain ⟨I1, rfl, rfl, m1, hx⟩ := hq
  have hwb : wnt V ≤ 6 := by unfold wnt; repeat (first | omega | split)
  refine x_istore_n dX13_been_9 (by decide) rfl ?_
  refine x_iload_n dX13_been_10 rfl ?_
  refine x_ifN_le 22 dX13_been_11 (by decide) (by omega) (fun h11 => ?_) (fun h11 => ?_)
  · have h : wnt V = 0 := by omega
    refine x_aload_n dX13_been_22 rfl ?_
    refine x_aload_n dX13_been_23 rfl ?_
    refine g_M_rows fX13_472 dX13_been_24 ?_
    rw [(hx h).1]
    refine x_cvi (m_good) kX13_82 dX13_been_27 rfl (Nat.le_of_ble_eq_true rfl) rfl rfl (Nat.le_of_ble_eq_true rfl) (fun ru Mu hq => ?_)
    obtain ⟨rfl, rfl⟩ := hq
    refine x_iret dX13_been_30 rfl ?_
    first
      | exact qM_ok (show a_been V = _ from if_pos h) m1
      | exact qM_ok (show a_been V = _ from if_neg (by omega)) m1
  · refine x_aload_n dX13_been_14 rfl ?_
    refine x_iload_n dX13_been_15 rfl ?_
    refine x_cvi (m_refused) kX13_78 dX13_been_16 rfl (Nat.le_of_ble_eq_true rfl) rfl rfl (Nat.le_of_ble_eq_true rfl) (fun ru Mu hq => ?_)
    obtain ⟨rfl, rfl⟩ := hq
    refine x_goto 30 dX13_been_19 (by decide) ?_
    refine x_iret dX13_been_30 rfl ?_
    first
      | exact qM_ok (show a_been V = _ from if_pos h) m1
      | exact qM_ok (show a_been V = _ from if_neg (by omega)) m1
set_option maxRecDepth 100000 in
set_option maxHeartbeats 600000 in
theorem m_could (hV : VW V) (hO : YO V nb b I) : Mt G vX13_could (d + 6) (0, 0) [.ref (ad 13 0)] (MM ad nb b r I L) (qM ad nb b r I L (a_could V)) := by
  have v0 := hV.1
  have v1 := hV.2.1
  have v2 := hV.2.2.1
  have v3 := hV.2.2.2.1
  have v4 := hV.2.2.2.2.1
  have v7 := hV.2.2.2.2.2.2.2.1
  have v9 := hV.2.2.2.2.2.2.2.2.2.1
  have v10 := hV.2.2.2.2.2.2.2.2.2.2.1
  have hO := hO.sm (I' := (xu I 13 0 0 (nI 0))) (fun q hq => by funext x y; rw [xu_ns (by omega)])
  refine x_start (by decide) (Nat.le_of_ble_eq_true rfl) ?_
  refine x_aload_n dX13_could_0 rfl ?_
  refine x_iconst dX13_could_1 li_0 ?_
  refine p_M_thrown fX13_72 dX13_could_2 ?_
  refine x_aload_n dX13_could_5 rfl ?_
  refine x_cvi (m_asksBeen (d := d) hV hO) kX13_499 dX13_could_6 rfl (Nat.le_of_ble_eq_true rfl) rfl rfl (Nat.le_of_ble_eq_true rfl) (fun ru Mu hq => ?_)
  obtain ⟨I1, rfl, rfl, m1, hx⟩ := hq
  have hwb : wnt V ≤ 6 := by unfold wnt; repeat (first | omega | split)
  refine x_istore_n dX13_could_9 (by decide) rfl ?_
  refine x_iload_n dX13_could_10 rfl ?_
  refine x_ifN_le 22 dX13_could_11 (by decide) (by omega) (fun h11 => ?_) (fun h11 => ?_)
  · have h : wnt V = 0 := by omega
    refine x_aload_n dX13_could_22 rfl ?_
    refine x_aload_n dX13_could_23 rfl ?_
    refine g_M_some fX13_475 dX13_could_24 ?_
    rw [(hx h).2.1]
    refine x_cvi (m_good) kX13_82 dX13_could_27 rfl (Nat.le_of_ble_eq_true rfl) rfl rfl (Nat.le_of_ble_eq_true rfl) (fun ru Mu hq => ?_)
    obtain ⟨rfl, rfl⟩ := hq
    refine x_iret dX13_could_30 rfl ?_
    first
      | exact qM_ok (show a_could V = _ from if_pos h) m1
      | exact qM_ok (show a_could V = _ from if_neg (by omega)) m1
  · refine x_aload_n dX13_could_14 rfl ?_
    refine x_iload_n dX13_could_15 rfl ?_
    refine x_cvi (m_refused) kX13_78 dX13_could_16 rfl (Nat.le_of_ble_eq_true rfl) rfl rfl (Nat.le_of_ble_eq_true rfl) (fun ru Mu hq => ?_)
    obtain ⟨rfl, rfl⟩ := hq
    refine x_goto 30 dX13_could_19 (by decide) ?_
    refine x_iret dX13_could_30 rfl ?_
    first
      | exact qM_ok (show a_could V = _ from if_pos h) m1
      | exact qM_ok (show a_could V = _ from if_neg (by omega)) m1
set_option maxRecDepth 100000 in
set_option maxHeartbeats 600000 in
theorem m_surely (hV : VW V) (hO : YO V nb b I) : Mt G vX13_surely (d + 6) (0, 0) [.ref (ad 13 0)] (MM ad nb b r I L) (qM ad nb b r I L (a_surely V)) := by
  have v0 := hV.1
  have v1 := hV.2.1
  have v2 := hV.2.2.1
  have v3 := hV.2.2.2.1
  have v4 := hV.2.2.2.2.1
  have v7 := hV.2.2.2.2.2.2.2.1
  have v9 := hV.2.2.2.2.2.2.2.2.2.1
  have v10 := hV.2.2.2.2.2.2.2.2.2.2.1
  have hO := hO.sm (I' := (xu I 13 0 0 (nI 0))) (fun q hq => by funext x y; rw [xu_ns (by omega)])
  refine x_start (by decide) (Nat.le_of_ble_eq_true rfl) ?_
  refine x_aload_n dX13_surely_0 rfl ?_
  refine x_iconst dX13_surely_1 li_0 ?_
  refine p_M_thrown fX13_72 dX13_surely_2 ?_
  refine x_aload_n dX13_surely_5 rfl ?_
  refine x_cvi (m_asksBeen (d := d) hV hO) kX13_499 dX13_surely_6 rfl (Nat.le_of_ble_eq_true rfl) rfl rfl (Nat.le_of_ble_eq_true rfl) (fun ru Mu hq => ?_)
  obtain ⟨I1, rfl, rfl, m1, hx⟩ := hq
  have hwb : wnt V ≤ 6 := by unfold wnt; repeat (first | omega | split)
  refine x_istore_n dX13_surely_9 (by decide) rfl ?_
  refine x_iload_n dX13_surely_10 rfl ?_
  refine x_ifN_le 22 dX13_surely_11 (by decide) (by omega) (fun h11 => ?_) (fun h11 => ?_)
  · have h : wnt V = 0 := by omega
    refine x_aload_n dX13_surely_22 rfl ?_
    refine x_aload_n dX13_surely_23 rfl ?_
    refine g_M_all fX13_478 dX13_surely_24 ?_
    rw [(hx h).2.2.1]
    refine x_cvi (m_good) kX13_82 dX13_surely_27 rfl (Nat.le_of_ble_eq_true rfl) rfl rfl (Nat.le_of_ble_eq_true rfl) (fun ru Mu hq => ?_)
    obtain ⟨rfl, rfl⟩ := hq
    refine x_iret dX13_surely_30 rfl ?_
    first
      | exact qM_ok (show a_surely V = _ from if_pos h) m1
      | exact qM_ok (show a_surely V = _ from if_neg (by omega)) m1
  · refine x_aload_n dX13_surely_14 rfl ?_
    refine x_iload_n dX13_surely_15 rfl ?_
    refine x_cvi (m_refused) kX13_78 dX13_surely_16 rfl (Nat.le_of_ble_eq_true rfl) rfl rfl (Nat.le_of_ble_eq_true rfl) (fun ru Mu hq => ?_)
    obtain ⟨rfl, rfl⟩ := hq
    refine x_goto 30 dX13_surely_19 (by decide) ?_
    refine x_iret dX13_surely_30 rfl ?_
    first
      | exact qM_ok (show a_surely V = _ from if_pos h) m1
      | exact qM_ok (show a_surely V = _ from if_neg (by omega)) m1
set_option maxRecDepth 100000 in
set_option maxHeartbeats 600000 in
theorem m_beenAt (hV : VW V) (hO : YO V nb b I) {z1 : Int32} : Mt G vX13_beenAt (d + 6) (0, 0) [.ref (ad 13 0), .int (z1)] (MM ad nb b r I L) (qM ad nb b r I L (a_beenAt V z1)) := by
  have v0 := hV.1
  have v1 := hV.2.1
  have v2 := hV.2.2.1
  have v3 := hV.2.2.2.1
  have v4 := hV.2.2.2.2.1
  have v7 := hV.2.2.2.2.2.2.2.1
  have v9 := hV.2.2.2.2.2.2.2.2.2.1
  have v10 := hV.2.2.2.2.2.2.2.2.2.2.1
  have hO := hO.sm (I' := (xu I 13 0 0 (nI 0))) (fun q hq => by funext x y; rw [xu_ns (by omega)])
  refine x_start (by decide) (Nat.le_of_ble_eq_true rfl) ?_
  refine x_aload_n dX13_beenAt_0 rfl ?_
  refine x_iconst dX13_beenAt_1 li_0 ?_
  refine p_M_thrown fX13_72 dX13_beenAt_2 ?_
  refine x_aload_n dX13_beenAt_5 rfl ?_
  refine x_cvi (m_asksBeen (d := d) hV hO) kX13_499 dX13_beenAt_6 rfl (Nat.le_of_ble_eq_true rfl) rfl rfl (Nat.le_of_ble_eq_true rfl) (fun ru Mu hq => ?_)
  obtain ⟨I1, rfl, rfl, m1, hx⟩ := hq
  have hwb : wnt V ≤ 6 := by unfold wnt; repeat (first | omega | split)
  refine x_istore_n dX13_beenAt_9 (by decide) rfl ?_
  refine x_iload_n dX13_beenAt_10 rfl ?_
  refine x_ifN_le 20 dX13_beenAt_11 (by decide) (by omega) (fun h11 => ?_) (fun h11 => ?_)
  · have h : wnt V = 0 := by omega
    obtain ⟨x1, x2, x3, x4, x5⟩ := hx h
    refine x_iload_n dX13_beenAt_20 rfl ?_
    refine x_iconst dX13_beenAt_21 li_0 ?_
    refine x_iconst dX13_beenAt_22 li_3 ?_
    refine x_csi (m_in) kX13_150 dX13_beenAt_23 rfl rfl (Nat.le_of_ble_eq_true rfl) (fun ru Mu hq => ?_)
    obtain ⟨rfl, rfl⟩ := hq
    refine x_if_ne 35 dX13_beenAt_26 (by decide) (fun h26 => ?_) (fun h26 => ?_)
    · have qi := bI_ne.mp h26
      obtain ⟨i, _, hi, rfl⟩ := wth_of qi (by omega) (by omega)
      refine x_aload_n dX13_beenAt_35 rfl ?_
      refine x_aload_n dX13_beenAt_36 rfl ?_
      refine g_M_rows fX13_472 dX13_beenAt_37 ?_
      rw [x1]
      refine x_ifN_le 60 dX13_beenAt_40 (by decide) (by omega) (fun h40 => ?_) (fun h40 => ?_)
      · have hne : been V = [] := List.eq_nil_of_length_eq_zero (by omega)
        have hno : ¬ i < (fsT (been V)).length := by rw [hne]; exact Nat.not_lt_zero i
        refine x_bipush dX13_beenAt_60 lb_m2 ?_
        refine x_cvi (m_good) kX13_82 dX13_beenAt_62 rfl (Nat.le_of_ble_eq_true rfl) rfl rfl (Nat.le_of_ble_eq_true rfl) (fun ru Mu hq => ?_)
        obtain ⟨rfl, rfl⟩ := hq
        refine x_iret dX13_beenAt_65 rfl ?_
        refine qM_ok (show a_beenAt V _ = _ from ?_) m1
        unfold a_beenAt
        rw [if_pos h, if_pos qi, zN_nI (by omega)]
        first
          | rw [if_neg hno]
          | rw [if_pos h48]
      · have hne : been V ≠ [] := fun z => by rw [z] at h40; exact absurd h40 (by decide)
        have hfl : (fsT (been V)).length ≤ 4 := by have h9 := (fs_all hne (fun w hw => (been_len w hw).1)).2.1; exact (been_len _ (List.mem_filter.mp (List.mem_of_head? h9)).1).2
        refine x_iload_n dX13_beenAt_43 rfl ?_
        refine x_aload_n dX13_beenAt_44 rfl ?_
        refine g_M_firstSize fX13_493 dX13_beenAt_45 ?_
        rw [(x5 hne).1]
        refine x_icN_ge 60 dX13_beenAt_48 (by decide) (by omega) (by omega) (fun h48 => ?_) (fun h48 => ?_)
        · have hno : ¬ i < (fsT (been V)).length := by omega
          refine x_bipush dX13_beenAt_60 lb_m2 ?_
          refine x_cvi (m_good) kX13_82 dX13_beenAt_62 rfl (Nat.le_of_ble_eq_true rfl) rfl rfl (Nat.le_of_ble_eq_true rfl) (fun ru Mu hq => ?_)
          obtain ⟨rfl, rfl⟩ := hq
          refine x_iret dX13_beenAt_65 rfl ?_
          refine qM_ok (show a_beenAt V _ = _ from ?_) m1
          unfold a_beenAt
          rw [if_pos h, if_pos qi, zN_nI (by omega)]
          first
            | rw [if_neg hno]
            | rw [if_pos h48]
        · refine x_aload_n dX13_beenAt_51 rfl ?_
          refine g_M_firstRow fX13_60 dX13_beenAt_52 ?_
          refine x_iload_n dX13_beenAt_55 rfl ?_
          refine x_iald dX13_beenAt_56 rfl rfl (Nat.le_of_ble_eq_true rfl) (by first | exact Nat.le_of_ble_eq_true rfl | assumption | omega) ?_
          rw [(x5 hne).2 i h48]
          refine x_goto 62 dX13_beenAt_57 (by decide) ?_
          refine x_cvi (m_good) kX13_82 dX13_beenAt_62 rfl (Nat.le_of_ble_eq_true rfl) rfl rfl (Nat.le_of_ble_eq_true rfl) (fun ru Mu hq => ?_)
          obtain ⟨rfl, rfl⟩ := hq
          refine x_iret dX13_beenAt_65 rfl ?_
          refine qM_ok (show a_beenAt V _ = _ from ?_) m1
          unfold a_beenAt
          rw [if_pos h, if_pos qi, zN_nI (by omega)]
          first
            | rw [if_neg hno]
            | rw [if_pos h48]
    · refine x_aload_n dX13_beenAt_29 rfl ?_
      refine x_iconst dX13_beenAt_30 li_1 ?_
      refine x_cvi (m_refused) kX13_78 dX13_beenAt_31 rfl (Nat.le_of_ble_eq_true rfl) rfl rfl (Nat.le_of_ble_eq_true rfl) (fun ru Mu hq => ?_)
      obtain ⟨rfl, rfl⟩ := hq
      refine x_iret dX13_beenAt_34 rfl ?_
      refine qM_ok (show a_beenAt V _ = (-1, 1) from ?_) m1
      unfold a_beenAt
      rw [if_pos h, if_neg (by rw [bI_eq.mp h26]; decide)]
  · refine x_aload_n dX13_beenAt_14 rfl ?_
    refine x_iload_n dX13_beenAt_15 rfl ?_
    refine x_cvi (m_refused) kX13_78 dX13_beenAt_16 rfl (Nat.le_of_ble_eq_true rfl) rfl rfl (Nat.le_of_ble_eq_true rfl) (fun ru Mu hq => ?_)
    obtain ⟨rfl, rfl⟩ := hq
    refine x_iret dX13_beenAt_19 rfl ?_
    exact qM_ok (show a_beenAt V _ = _ from if_neg (by omega)) m1
end M23
