section Xp4
variable {G : xG} {ad : Nat → Nat → Nat} {nb : Nat} {b r : Option Nat} {L : Nat → Nat → Nat → Int64} {V : sV} {I : Nat → Nat → Nat → Int32} {d : Nat}
theorem x_ldcw {y : xY} {B : Nat × Nat} {pc : Nat} {ls : List (Nat × Option Value)} {st : List Value} {M : xM} {Q : xTg} {idx : Nat} {v : Int32} (hd : decode y.2.1 pc = .ok (.ldc_w idx, 3)) (hw : Cond.constant y.1.cls idx v ∈ xTBL) (k : X G y d B (pc + 3) ls (.int v :: st) M Q) : X G y d B pc ls st M Q := by
  intro p l e RM s m args below meth c H locs cells slots lsA hC hR hH hS hc hs hl
  intro T hT Xs
  obtain ⟨t, a1, b1⟩ := k p l e RM s m args below meth c H locs cells slots lsA hC hR hH hS hc hs hl T hT Xs
  exact ⟨t, va_ldcwI Xs hC.1 hC.2.2.2.2.1 (hC.2.2.2.2.2.1 _ hw) (g := F0 m pc lsA st) rfl (by rw [hC.2.1]; exact hd) t a1, b1⟩
variable {N : sN} {h : sH} {mk : List sN}

theorem pa_ne : ∀ (q : Nat) (a : List Nat) (u : Nat), u < 2 ^ V 0 3 0 → pa V q a u ≠ []
  | 0, a, u, _ => by simp [pa]
  | q + 1, a, u, hu => by
    unfold pa
    split
    · exact pa_ne q _ u hu
    · rename_i hne
      have hx : ∃ k, k < V 0 3 0 ∧ u.testBit k = false := by
        refine Classical.byContradiction (fun hc => hne (Or.inr ?_))
        apply Nat.eq_of_testBit_eq
        intro i
        rw [Nat.testBit_two_pow_sub_one]
        by_cases hi : i < V 0 3 0
        · rw [decide_eq_true hi]
          cases hb : u.testBit i
          · exact absurd ⟨i, hi, hb⟩ hc
          · rfl
        · rw [decide_eq_false hi]
          exact Nat.testBit_lt_two_pow (Nat.lt_of_lt_of_le hu (Nat.pow_le_pow_right (by omega) (by omega)))
      obtain ⟨k, hk, hb⟩ := hx
      intro he
      have h1 := List.flatMap_eq_nil_iff.mp he k (List.mem_range.mpr hk)
      rw [if_pos hb] at h1
      exact pa_ne q _ _ (Nat.or_lt_two_pow hu (Nat.pow_lt_pow_right (by omega) hk)) h1
theorem ps_pos : 0 < (psT V N (psa V)).1 := by
  have h1 : psa V ≠ [] := pa_ne _ _ _ (Nat.two_pow_pos _)
  have h2 : ∀ (A : List (List Nat)) (q : Nat × List Nat), 0 < q.1 → 0 < (A.foldl (psF V N) q).1 := by
    intro A
    induction A with
    | nil => intro q hq; exact hq
    | cons a A ih =>
      intro q hq
      refine ih _ ?_
      unfold psF
      split
      · exact Nat.succ_pos _
      · exact hq
  unfold psT
  cases hA : psa V with
  | nil => exact absurd hA h1
  | cons a A =>
    refine h2 A _ ?_
    unfold psF
    rw [if_pos (Nat.zero_le _)]
    exact Nat.succ_pos _
def a_posts (V : sV) (N : sN) : Int32 × Nat := if 0 < V 0 0 0 then (nI ((psT V N (psa V)).1 - 1), 0) else (-1, 1)
def a_postOf (V : sV) (N : sN) (z : Int32) : Int32 × Nat := if inr z (V 0 4 0) = true then (nO (-2) ((psT V N (psa V)).2.getD (zN z) 0), 0) else (-1, 1)
theorem sP_scr {I' : Nat → Nat → Nat → Int32} (h : Sm sP I I') : Sm scr I I' := h.wk (fun s h => by unfold sP at h; unfold scr; omega)
theorem sG_scr {I' : Nat → Nat → Nat → Int32} (h : Sm sG I I') : Sm scr I I' := h.wk (fun s h => by unfold sG sW at h; unfold scr; omega)
theorem c_psearch' (hV : VW V) (hB : XB V 0 I) (hN : XN V N I) (hW : NW V N) : Mt G vX5_search (d + 12) (0, 0) [.ref (ad 5 0)] (MM ad nb b r I L) (qV (fun M' => ∃ I', M' = MM ad nb b r I' L ∧ PS V N (psa V) I' ∧ Sm sP I I')) := by
  have v4 := hV.2.2.2.2.1
  have := c_psearch (G := G) (ad := ad) (nb := nb) (b := b) (r := r) (L := L) (d := d + (6 - V 0 4 0)) hV hB hN hW
  rwa [show d + (6 - V 0 4 0) + V 0 4 0 + 5 + 1 = d + 12 by omega] at this
/-- the game of a traveller: how many rests, the DUTY of the first -/
def gmr (V : sV) (N : sN) (t to : Nat) : Nat × Nat := gr2 (gp V (fun s => N t (3 + s)) (V 9 t 0) (wys V (N t 0) to)) (wys V (N t 0) to).length (V 0 4 0) (N t 0) (wys V (N t 0) to).length
def wng (V : sV) (N : sN) (t z : Int32) : Nat := if (inr t (V 0 7 0) && inr z (V 0 4 0)) = true then (if 2 ≤ V 0 4 0 then (if 0 < (wys V (N (zN t) 0) (zN z)).length then 0 else 6) else 6) else 1
theorem wng_le {t z : Int32} : wng V N t z ≤ 6 := by
  unfold wng
  split
  · split
    · split <;> omega
    · omega
  · omega
def a_rests (V : sV) (N : sN) (t z : Int32) : Int32 × Nat := if wng V N t z = 0 then (nI (gmr V N (zN t) (zN z)).1, 0) else (-1, wng V N t z)
def a_rest (V : sV) (N : sN) (t z : Int32) : Int32 × Nat := if wng V N t z = 0 then (if nI (gmr V N (zN t) (zN z)).1 = 0 then -2 else nI (gmr V N (zN t) (zN z)).2, 0) else (-1, wng V N t z)
/-- STRENGTHS behind hours of winds -/
def wst (V : sV) (N : sN) (t sd H : Nat) : Nat → Nat := str V (fun s => N t (3 + s)) H (blw (V 0 0 0) sd H)
def a_winds (V : sV) (N : sN) (t sd H : Int32) : Int32 × Nat := if inr t (V 0 7 0) = true then (if (wth sd 0 65536 && wth H 0 99) = true then (nI (tgt V (wst V N (zN t) (zN sd) (zN H)) (V 0 2 0)), 0) else (-1, 2)) else (-1, 1)
def a_windDuty (V : sV) (N : sN) (t z sd H : Int32) : Int32 × Nat := if (inr t (V 0 7 0) && inr z (V 0 4 0)) = true then (if (wth sd 0 65536 && wth H 0 99) = true then (nI (if skl V (V 6 (zN z) 0) = 0 then 0 else tol V (wst V N (zN t) (zN sd) (zN H)) (V 9 (zN t) 0) (zN z) (skl V (V 6 (zN z) 0))), 0) else (-1, 2)) else (-1, 1)

set_option maxRecDepth 100000 in
set_option maxHeartbeats 4000000 in
theorem x_posts_c (hS : SW V N h mk) (hX : XS V N h mk I) : Mt G vX11_posts (d + 12 + 1) (0, 0) [.ref (ad 11 0)] (MM ad nb b r I L) (qA ad nb b r I L (a_posts V N)) := by
  have hV := hS.1
  obtain ⟨hB, hN, hH, hK⟩ := hX
  have hW := hS.2.1
  have v0 := hV.1
  have v1 := hV.2.1
  have v2 := hV.2.2.1
  have v3 := hV.2.2.2.1
  have v4 := hV.2.2.2.2.1
  have v7 := hV.2.2.2.2.2.2.2.1
  have v9 := hV.2.2.2.2.2.2.2.2.2.1
  have v10 := hV.2.2.2.2.2.2.2.2.2.2.1
  refine x_start (by decide) (Nat.le_of_ble_eq_true rfl) ?_
  refine x_aload_n dX11_posts_0 rfl ?_
  refine g_X_told fX11_16 dX11_posts_1 ?_
  refine x_cvi (c_stands (V := V) (bd := 0) (by omega) (hB.1 0 (by omega)) v0) kX11_227 dX11_posts_4 rfl (Nat.le_of_ble_eq_true rfl) rfl rfl (Nat.le_of_ble_eq_true rfl) (fun ru Mu hq => ?_)
  obtain ⟨rfl, rfl⟩ := hq
  refine x_if_ne 16 dX11_posts_7 (by decide) (fun h7 => ?_) (fun h7 => ?_)
  · refine x_aload_n dX11_posts_16 rfl ?_
    refine g_X_posting fX11_75 dX11_posts_17 ?_
    refine x_cvv (c_psearch' (d := d) hV hB hN hW) kX11_279 dX11_posts_20 rfl (Nat.le_of_ble_eq_true rfl) rfl rfl (Nat.le_of_ble_eq_true rfl) (fun M2 hq2 => ?_)
    obtain ⟨I2, rfl, hP2, hS2⟩ := hq2
    refine x_aload_n dX11_posts_23 rfl ?_
    refine x_aload_n dX11_posts_24 rfl ?_
    refine g_X_posting fX11_75 dX11_posts_25 ?_
    refine g_Posting_most fX11_280 dX11_posts_28 ?_
    rw [hP2.1, nO_pos (by have := ps_pos (V := V) (N := N); omega)]
    refine x_cvi (c_answer) kX11_127 dX11_posts_31 rfl (Nat.le_of_ble_eq_true rfl) rfl rfl (Nat.le_of_ble_eq_true rfl) (fun ru Mu hq => ?_)
    obtain ⟨rfl, rfl⟩ := hq
    refine x_iret dX11_posts_34 rfl ?_
    refine qA_ok ?_ (sP_scr hS2)
    have p0 : 0 < V 0 0 0 := of_decide_eq_true (bI_ne.mp h7)
    unfold a_posts
    rw [if_pos p0]
  · refine x_aload_n dX11_posts_10 rfl ?_
    refine x_iconst dX11_posts_11 li_1 ?_
    refine x_cvi (c_refuse) kX11_102 dX11_posts_12 rfl (Nat.le_of_ble_eq_true rfl) rfl rfl (Nat.le_of_ble_eq_true rfl) (fun ru Mu hq => ?_)
    obtain ⟨rfl, rfl⟩ := hq
    refine x_iret dX11_posts_15 rfl ?_
    refine qA_no (c := 1) ?_
    have p0 := of_decide_eq_false (bI_eq.mp h7)
    unfold a_posts
    rw [if_neg p0]
set_option maxRecDepth 100000 in
set_option maxHeartbeats 4000000 in
theorem x_postOf_c (hS : SW V N h mk) (hX : XS V N h mk I) {z1 : Int32} : Mt G vX11_postOf (d + 12 + 1) (0, 0) [.ref (ad 11 0), .int (z1)] (MM ad nb b r I L) (qA ad nb b r I L (a_postOf V N z1)) := by
  have hV := hS.1
  obtain ⟨hB, hN, hH, hK⟩ := hX
  have hW := hS.2.1
  have v0 := hV.1
  have v1 := hV.2.1
  have v2 := hV.2.2.1
  have v3 := hV.2.2.2.1
  have v4 := hV.2.2.2.2.1
  have v7 := hV.2.2.2.2.2.2.2.1
  have v9 := hV.2.2.2.2.2.2.2.2.2.1
  have v10 := hV.2.2.2.2.2.2.2.2.2.2.1
  refine x_start (by decide) (Nat.le_of_ble_eq_true rfl) ?_
  refine x_aload_n dX11_postOf_0 rfl ?_
  refine x_iconst dX11_postOf_1 li_4 ?_
  refine x_iload_n dX11_postOf_2 rfl ?_
  refine x_cvi (c_isOne hV (so := 4) (by omega) (by omega) (hB.1 4 (by omega))) kX11_133 dX11_postOf_3 rfl (Nat.le_of_ble_eq_true rfl) rfl rfl (Nat.le_of_ble_eq_true rfl) (fun ru Mu hq => ?_)
  obtain ⟨rfl, rfl⟩ := hq
  refine x_if_ne 15 dX11_postOf_6 (by decide) (fun h6 => ?_) (fun h6 => ?_)
  · have qq := bI_ne.mp h6
    obtain ⟨q, hq, rfl⟩ := inr_of qq (by omega)
    refine x_aload_n dX11_postOf_15 rfl ?_
    refine g_X_posting fX11_75 dX11_postOf_16 ?_
    refine x_cvv (c_psearch' (d := d) hV hB hN hW) kX11_279 dX11_postOf_19 rfl (Nat.le_of_ble_eq_true rfl) rfl rfl (Nat.le_of_ble_eq_true rfl) (fun M2 hq2 => ?_)
    obtain ⟨I2, rfl, hP2, hS2⟩ := hq2
    refine x_aload_n dX11_postOf_22 rfl ?_
    refine x_aload_n dX11_postOf_23 rfl ?_
    refine g_X_posting fX11_75 dX11_postOf_24 ?_
    refine g_Posting_best fX11_283 dX11_postOf_27 ?_
    refine x_iload_n dX11_postOf_30 rfl ?_
    refine x_iald dX11_postOf_31 rfl rfl (Nat.le_of_ble_eq_true rfl) (by first | exact Nat.le_of_ble_eq_true rfl | assumption | omega) ?_
    rw [hP2.2 ps_pos q hq]
    refine x_cvi (c_answer) kX11_127 dX11_postOf_32 rfl (Nat.le_of_ble_eq_true rfl) rfl rfl (Nat.le_of_ble_eq_true rfl) (fun ru Mu hq => ?_)
    obtain ⟨rfl, rfl⟩ := hq
    refine x_iret dX11_postOf_35 rfl ?_
    refine qA_ok ?_ (sP_scr hS2)
    unfold a_postOf
    rw [qq, if_pos rfl, zN_nI (by omega)]
  · refine x_aload_n dX11_postOf_9 rfl ?_
    refine x_iconst dX11_postOf_10 li_1 ?_
    refine x_cvi (c_refuse) kX11_102 dX11_postOf_11 rfl (Nat.le_of_ble_eq_true rfl) rfl rfl (Nat.le_of_ble_eq_true rfl) (fun ru Mu hq => ?_)
    obtain ⟨rfl, rfl⟩ := hq
    refine x_iret dX11_postOf_14 rfl ?_
    refine qA_no (c := 1) ?_
    unfold a_postOf
    rw [bI_eq.mp h6]
    rfl
set_option maxRecDepth 100000 in
set_option maxHeartbeats 4000000 in
theorem c_whyNoGame (hS : SW V N h mk) (hX : XS V N h mk I) {z1 z2 : Int32} : Mt G vX11_whyNoGame (d + 6 + 2 + 1 + 1 + 1) (0, 0) [.ref (ad 11 0), .int (z1), .int (z2)] (MM ad nb b r I L) (qI (fun rr M' => rr = nI (wng V N z1 z2) ∧ ∃ I', M' = MM ad nb b r I' L ∧ Sm scr I I' ∧ (wng V N z1 z2 = 0 → RS (gmr V N (zN z1) (zN z2)) I'))) := by
  have hV := hS.1
  obtain ⟨hB, hN, hH, hK⟩ := hX
  have hW := hS.2.1
  have v0 := hV.1
  have v1 := hV.2.1
  have v2 := hV.2.2.1
  have v3 := hV.2.2.2.1
  have v4 := hV.2.2.2.2.1
  have v7 := hV.2.2.2.2.2.2.2.1
  have v9 := hV.2.2.2.2.2.2.2.2.2.1
  have v10 := hV.2.2.2.2.2.2.2.2.2.2.1
  refine x_start (by decide) (Nat.le_of_ble_eq_true rfl) ?_
  refine x_aload_n dX11_whyNoGame_0 rfl ?_
  refine x_bipush dX11_whyNoGame_1 lb_7 ?_
  refine x_iload_n dX11_whyNoGame_3 rfl ?_
  refine x_cvi (c_isOne hV (so := 7) (by omega) (by omega) (hB.1 7 (by omega))) kX11_133 dX11_whyNoGame_4 rfl (Nat.le_of_ble_eq_true rfl) rfl rfl (Nat.le_of_ble_eq_true rfl) (fun ru Mu hq => ?_)
  obtain ⟨rfl, rfl⟩ := hq
  refine x_if_eq 19 dX11_whyNoGame_7 (by decide) (fun h7 => ?_) (fun h7 => ?_)
  · refine x_iconst dX11_whyNoGame_19 li_1 ?_
    refine x_iret dX11_whyNoGame_20 rfl ?_
    have e : ∀ z1 z2, (inr z1 (V 0 7 0) && inr z2 (V 0 4 0)) = false → wng V N z1 z2 = 1 := fun _ _ z => by unfold wng; rw [z]; rfl
    first
      | (have e1 := e z1 z2 (by rw [bI_eq.mp h7]; rfl); exact ⟨_, rfl, by rw [e1], _, rfl, Sm.rf, fun z => by rw [e1] at z; cases z⟩)
      | (have e1 := e (nI t) z2 (by rw [bI_eq.mp h16, Bool.and_false]); exact ⟨_, rfl, by rw [e1], _, rfl, Sm.rf, fun z => by rw [e1] at z; cases z⟩)
  · have qt := bI_ne.mp h7
    obtain ⟨t, ht, rfl⟩ := inr_of qt (by omega)
    refine x_aload_n dX11_whyNoGame_10 rfl ?_
    refine x_iconst dX11_whyNoGame_11 li_4 ?_
    refine x_iload_n dX11_whyNoGame_12 rfl ?_
    refine x_cvi (c_isOne hV (so := 4) (by omega) (by omega) (hB.1 4 (by omega))) kX11_133 dX11_whyNoGame_13 rfl (Nat.le_of_ble_eq_true rfl) rfl rfl (Nat.le_of_ble_eq_true rfl) (fun ru Mu hq => ?_)
    obtain ⟨rfl, rfl⟩ := hq
    refine x_if_ne 21 dX11_whyNoGame_16 (by decide) (fun h16 => ?_) (fun h16 => ?_)
    · have qq := bI_ne.mp h16
      obtain ⟨q, hq, rfl⟩ := inr_of qq (by omega)
      refine x_aload_n dX11_whyNoGame_21 rfl ?_
      refine g_X_told fX11_16 dX11_whyNoGame_22 ?_
      refine g_Border_sizes fX11_124 dX11_whyNoGame_25 (by first | exact Nat.le_of_ble_eq_true rfl | assumption | omega) ?_
      refine x_iconst dX11_whyNoGame_28 li_4 ?_
      refine x_iald dX11_whyNoGame_29 rfl rfl (Nat.lt_of_lt_of_le (by first | assumption | omega | decide) (Nat.le_refl 2)) (by first | exact Nat.le_of_ble_eq_true rfl | assumption | omega) ?_
      refine x_iconst dX11_whyNoGame_30 li_2 ?_
      rw [hB.1 4 (by omega)]
      refine x_icN_ge 37 dX11_whyNoGame_31 (by decide) (by omega) (by omega) (fun h31 => ?_) (fun h31 => ?_)
      · refine x_aload_n dX11_whyNoGame_37 rfl ?_
        refine g_X_game fX11_84 dX11_whyNoGame_38 ?_
        refine x_aload_n dX11_whyNoGame_41 rfl ?_
        refine g_X_acts fX11_41 dX11_whyNoGame_42 ?_
        refine g_Acts_now fX11_155 dX11_whyNoGame_45 ?_
        have hso := (hV.2.2.2.2.2.2.2.2.2.2.2.2.2.2.2.2.2.2.1 t ht).1
        refine x_iload_n dX11_whyNoGame_48 rfl ?_
        refine aa_Acts_now dX11_whyNoGame_49 rfl (by first | exact Nat.le_of_ble_eq_true rfl | assumption | omega) ?_
        refine x_aload_n dX11_whyNoGame_50 rfl ?_
        refine g_X_told fX11_16 dX11_whyNoGame_51 ?_
        refine g_Border_sort fX11_159 dX11_whyNoGame_54 (by first | exact Nat.le_of_ble_eq_true rfl | assumption | omega) ?_
        refine x_iload_n dX11_whyNoGame_57 rfl ?_
        refine x_iald dX11_whyNoGame_58 rfl rfl (Nat.lt_of_lt_of_le (by first | assumption | omega | decide) (Nat.le_refl 2)) (by first | exact Nat.le_of_ble_eq_true rfl | assumption | omega) ?_
        rw [(hB.2.2.2.2.2.1 t ht).1]
        refine x_iload_n dX11_whyNoGame_59 rfl ?_
        refine x_cvi (c_play (d := d) (t := t) (f := N t) hV hB (Nat.lt_of_lt_of_le (show t < 4 by omega) (by decide)) (hN t ht) (hW t ht).1 (hW t ht).2 hso hq) kX11_361 dX11_whyNoGame_60 rfl (Nat.le_of_ble_eq_true rfl) rfl rfl (Nat.le_of_ble_eq_true rfl) (fun ru M2 hq2 => ?_)
        obtain ⟨rfl, I2, rfl, hR2, hS2⟩ := hq2
        refine x_if_eq 70 dX11_whyNoGame_63 (by decide) (fun h63 => ?_) (fun h63 => ?_)
        · refine x_bipush dX11_whyNoGame_70 lb_6 ?_
          refine x_iret dX11_whyNoGame_72 rfl ?_
          have e0 : wng V N (nI t) (nI q) = if 0 < (wys V (N t 0) q).length then 0 else 6 := by unfold wng; rw [qt, qq, Bool.and_self, if_pos rfl, if_pos (by omega), zN_nI (by omega), zN_nI (by omega)]
          first
            | (have e1 : wng V N (nI t) (nI q) = 0 := by (rw [e0, if_pos (of_decide_eq_true (bI_ne.mp h63))])
               refine ⟨_, rfl, by rw [e1], _, rfl, sG_scr hS2, fun z => ?_⟩
               rw [zN_nI (by omega), zN_nI (by omega)]
               exact hR2)
            | (have e1 : wng V N (nI t) (nI q) = 6 := by (rw [e0, if_neg (of_decide_eq_false (bI_eq.mp h63))])
               exact ⟨_, rfl, by rw [e1], _, rfl, sG_scr hS2, fun z => by rw [e1] at z; cases z⟩)
        · refine x_iconst dX11_whyNoGame_66 li_0 ?_
          refine x_goto 72 dX11_whyNoGame_67 (by decide) ?_
          refine x_iret dX11_whyNoGame_72 rfl ?_
          have e0 : wng V N (nI t) (nI q) = if 0 < (wys V (N t 0) q).length then 0 else 6 := by unfold wng; rw [qt, qq, Bool.and_self, if_pos rfl, if_pos (by omega), zN_nI (by omega), zN_nI (by omega)]
          first
            | (have e1 : wng V N (nI t) (nI q) = 0 := by (rw [e0, if_pos (of_decide_eq_true (bI_ne.mp h63))])
               refine ⟨_, rfl, by rw [e1], _, rfl, sG_scr hS2, fun z => ?_⟩
               rw [zN_nI (by omega), zN_nI (by omega)]
               exact hR2)
            | (have e1 : wng V N (nI t) (nI q) = 6 := by (rw [e0, if_neg (of_decide_eq_false (bI_eq.mp h63))])
               exact ⟨_, rfl, by rw [e1], _, rfl, sG_scr hS2, fun z => by rw [e1] at z; cases z⟩)
      · refine x_bipush dX11_whyNoGame_34 lb_6 ?_
        refine x_iret dX11_whyNoGame_36 rfl ?_
        have e1 : wng V N (nI t) (nI q) = 6 := by unfold wng; rw [qt, qq, Bool.and_self, if_pos rfl, if_neg (by omega)]
        exact ⟨_, rfl, by rw [e1], _, rfl, Sm.rf, fun z => by rw [e1] at z; cases z⟩
    · refine x_iconst dX11_whyNoGame_19 li_1 ?_
      refine x_iret dX11_whyNoGame_20 rfl ?_
      have e : ∀ z1 z2, (inr z1 (V 0 7 0) && inr z2 (V 0 4 0)) = false → wng V N z1 z2 = 1 := fun _ _ z => by unfold wng; rw [z]; rfl
      first
        | (have e1 := e z1 z2 (by rw [bI_eq.mp h7]; rfl); exact ⟨_, rfl, by rw [e1], _, rfl, Sm.rf, fun z => by rw [e1] at z; cases z⟩)
        | (have e1 := e (nI t) z2 (by rw [bI_eq.mp h16, Bool.and_false]); exact ⟨_, rfl, by rw [e1], _, rfl, Sm.rf, fun z => by rw [e1] at z; cases z⟩)
set_option maxRecDepth 100000 in
set_option maxHeartbeats 4000000 in
theorem x_rests_c (hS : SW V N h mk) (hX : XS V N h mk I) {z1 z2 : Int32} : Mt G vX11_rests (d + 6 + 2 + 1 + 1 + 1 + 1) (0, 0) [.ref (ad 11 0), .int (z1), .int (z2)] (MM ad nb b r I L) (qA ad nb b r I L (a_rests V N z1 z2)) := by
  have hV := hS.1
  obtain ⟨hB, hN, hH, hK⟩ := hX
  have hW := hS.2.1
  have v0 := hV.1
  have v1 := hV.2.1
  have v2 := hV.2.2.1
  have v3 := hV.2.2.2.1
  have v4 := hV.2.2.2.2.1
  have v7 := hV.2.2.2.2.2.2.2.1
  have v9 := hV.2.2.2.2.2.2.2.2.2.1
  have v10 := hV.2.2.2.2.2.2.2.2.2.2.1
  refine x_start (by decide) (Nat.le_of_ble_eq_true rfl) ?_
  refine x_aload_n dX11_rests_0 rfl ?_
  refine x_iload_n dX11_rests_1 rfl ?_
  refine x_iload_n dX11_rests_2 rfl ?_
  refine x_cvi (c_whyNoGame (d := d) (z1 := z1) (z2 := z2) hS ⟨hB, hN, hH, hK⟩) kX11_286 dX11_rests_3 rfl (Nat.le_of_ble_eq_true rfl) rfl rfl (Nat.le_of_ble_eq_true rfl) (fun ru M2 hq2 => ?_)
  obtain ⟨rfl, I2, rfl, hS2, hR2⟩ := hq2
  have hle := wng_le (V := V) (N := N) (t := z1) (z := z2)
  refine x_istore_n dX11_rests_6 (by decide) rfl ?_
  refine x_iload_n dX11_rests_7 rfl ?_
  refine x_ifN_eq 17 dX11_rests_8 (by decide) (by omega) (fun h8 => ?_) (fun h8 => ?_)
  · refine x_aload_n dX11_rests_17 rfl ?_
    refine x_aload_n dX11_rests_18 rfl ?_
    refine g_X_game fX11_84 dX11_rests_19 ?_
    refine g_Game_rests fX11_290 dX11_rests_22 ?_
    rw [(hR2 (by omega)).1]
    refine x_cvi (c_answer) kX11_127 dX11_rests_25 rfl (Nat.le_of_ble_eq_true rfl) rfl rfl (Nat.le_of_ble_eq_true rfl) (fun ru Mu hq => ?_)
    obtain ⟨rfl, rfl⟩ := hq
    refine x_iret dX11_rests_28 rfl ?_
    refine qA_ok ?_ hS2
    unfold a_rests
    rw [if_pos (by omega)]
  · refine x_aload_n dX11_rests_11 rfl ?_
    refine x_iload_n dX11_rests_12 rfl ?_
    refine x_cvi (c_refuse) kX11_102 dX11_rests_13 rfl (Nat.le_of_ble_eq_true rfl) rfl rfl (Nat.le_of_ble_eq_true rfl) (fun ru Mu hq => ?_)
    obtain ⟨rfl, rfl⟩ := hq
    refine x_iret dX11_rests_16 rfl ?_
    refine qA_no' (c := wng V N z1 z2) ?_ hS2
    unfold a_rests
    rw [if_neg (by omega)]
set_option maxRecDepth 100000 in
set_option maxHeartbeats 4000000 in
theorem x_rest_c (hS : SW V N h mk) (hX : XS V N h mk I) {z1 z2 : Int32} : Mt G vX11_rest (d + 6 + 2 + 1 + 1 + 1 + 1) (0, 0) [.ref (ad 11 0), .int (z1), .int (z2)] (MM ad nb b r I L) (qA ad nb b r I L (a_rest V N z1 z2)) := by
  have hV := hS.1
  obtain ⟨hB, hN, hH, hK⟩ := hX
  have hW := hS.2.1
  have v0 := hV.1
  have v1 := hV.2.1
  have v2 := hV.2.2.1
  have v3 := hV.2.2.2.1
  have v4 := hV.2.2.2.2.1
  have v7 := hV.2.2.2.2.2.2.2.1
  have v9 := hV.2.2.2.2.2.2.2.2.2.1
  have v10 := hV.2.2.2.2.2.2.2.2.2.2.1
  refine x_start (by decide) (Nat.le_of_ble_eq_true rfl) ?_
  refine x_aload_n dX11_rest_0 rfl ?_
  refine x_iload_n dX11_rest_1 rfl ?_
  refine x_iload_n dX11_rest_2 rfl ?_
  refine x_cvi (c_whyNoGame (d := d) (z1 := z1) (z2 := z2) hS ⟨hB, hN, hH, hK⟩) kX11_286 dX11_rest_3 rfl (Nat.le_of_ble_eq_true rfl) rfl rfl (Nat.le_of_ble_eq_true rfl) (fun ru M2 hq2 => ?_)
  obtain ⟨rfl, I2, rfl, hS2, hR2⟩ := hq2
  have hle := wng_le (V := V) (N := N) (t := z1) (z := z2)
  refine x_istore_n dX11_rest_6 (by decide) rfl ?_
  refine x_iload_n dX11_rest_7 rfl ?_
  refine x_ifN_eq 17 dX11_rest_8 (by decide) (by omega) (fun h8 => ?_) (fun h8 => ?_)
  · refine x_aload_n dX11_rest_17 rfl ?_
    refine x_aload_n dX11_rest_18 rfl ?_
    refine g_X_game fX11_84 dX11_rest_19 ?_
    refine g_Game_rests fX11_290 dX11_rest_22 ?_
    rw [(hR2 (by omega)).1]
    refine x_if_ne 33 dX11_rest_25 (by decide) (fun h25 => ?_) (fun h25 => ?_)
    · refine x_aload_n dX11_rest_33 rfl ?_
      refine g_X_game fX11_84 dX11_rest_34 ?_
      refine g_Game_firstDuty fX11_293 dX11_rest_37 ?_
      first | rw [(hR2 (by omega)).2] | skip
      refine x_cvi (c_answer) kX11_127 dX11_rest_40 rfl (Nat.le_of_ble_eq_true rfl) rfl rfl (Nat.le_of_ble_eq_true rfl) (fun ru Mu hq => ?_)
      obtain ⟨rfl, rfl⟩ := hq
      refine x_iret dX11_rest_43 rfl ?_
      refine qA_ok ?_ hS2
      unfold a_rest
      rw [if_pos (by omega)]
      first | rw [if_pos h25] | rw [if_neg h25]
    · refine x_bipush dX11_rest_28 lb_m2 ?_
      refine x_goto 40 dX11_rest_30 (by decide) ?_
      first | rw [(hR2 (by omega)).2] | skip
      refine x_cvi (c_answer) kX11_127 dX11_rest_40 rfl (Nat.le_of_ble_eq_true rfl) rfl rfl (Nat.le_of_ble_eq_true rfl) (fun ru Mu hq => ?_)
      obtain ⟨rfl, rfl⟩ := hq
      refine x_iret dX11_rest_43 rfl ?_
      refine qA_ok ?_ hS2
      unfold a_rest
      rw [if_pos (by omega)]
      first | rw [if_pos h25] | rw [if_neg h25]
  · refine x_aload_n dX11_rest_11 rfl ?_
    refine x_iload_n dX11_rest_12 rfl ?_
    refine x_cvi (c_refuse) kX11_102 dX11_rest_13 rfl (Nat.le_of_ble_eq_true rfl) rfl rfl (Nat.le_of_ble_eq_true rfl) (fun ru Mu hq => ?_)
    obtain ⟨rfl, rfl⟩ := hq
    refine x_iret dX11_rest_16 rfl ?_
    refine qA_no' (c := wng V N z1 z2) ?_ hS2
    unfold a_rest
    rw [if_neg (by omega)]
set_option maxRecDepth 100000 in
set_option maxHeartbeats 4000000 in
theorem x_winds_c (hS : SW V N h mk) (hX : XS V N h mk I) (hz0 : 0 < V 0 7 0 → 0 < V 0 0 0) {z1 z2 z3 : Int32} : Mt G vX11_winds (d + 1 + 1) (0, 0) [.ref (ad 11 0), .int (z1), .int (z2), .int (z3)] (MM ad nb b r I L) (qA ad nb b r I L (a_winds V N z1 z2 z3)) := by
  have hV := hS.1
  obtain ⟨hB, hN, hH, hK⟩ := hX
  have hW := hS.2.1
  have v0 := hV.1
  have v1 := hV.2.1
  have v2 := hV.2.2.1
  have v3 := hV.2.2.2.1
  have v4 := hV.2.2.2.2.1
  have v7 := hV.2.2.2.2.2.2.2.1
  have v9 := hV.2.2.2.2.2.2.2.2.2.1
  have v10 := hV.2.2.2.2.2.2.2.2.2.2.1
  refine x_start (by decide) (Nat.le_of_ble_eq_true rfl) ?_
  refine x_aload_n dX11_winds_0 rfl ?_
  refine x_bipush dX11_winds_1 lb_7 ?_
  refine x_iload_n dX11_winds_3 rfl ?_
  refine x_cvi (c_isOne hV (so := 7) (by omega) (by omega) (hB.1 7 (by omega))) kX11_133 dX11_winds_4 rfl (Nat.le_of_ble_eq_true rfl) rfl rfl (Nat.le_of_ble_eq_true rfl) (fun ru Mu hq => ?_)
  obtain ⟨rfl, rfl⟩ := hq
  refine x_if_ne 16 dX11_winds_7 (by decide) (fun h7 => ?_) (fun h7 => ?_)
  · have qt := bI_ne.mp h7
    obtain ⟨t, ht, rfl⟩ := inr_of qt (by omega)
    refine x_iload_n dX11_winds_16 rfl ?_
    refine x_iconst dX11_winds_17 li_0 ?_
    refine x_ldcw dX11_winds_18 (xm5 73 rfl rfl) ?_
    refine x_top (v := nI 65536) rfl ?_
    refine x_csi (c_isWithin (lo := 0) (hi := 65536)) kX11_206 dX11_winds_21 rfl rfl (Nat.le_of_ble_eq_true rfl) (fun ru Mu hq => ?_)
    obtain ⟨rfl, rfl⟩ := hq
    refine x_if_eq 37 dX11_winds_24 (by decide) (fun h24 => ?_) (fun h24 => ?_)
    · refine x_aload_n dX11_winds_37 rfl ?_
      refine x_iconst dX11_winds_38 li_2 ?_
      refine x_cvi (c_refuse) kX11_102 dX11_winds_39 rfl (Nat.le_of_ble_eq_true rfl) rfl rfl (Nat.le_of_ble_eq_true rfl) (fun ru Mu hq => ?_)
      obtain ⟨rfl, rfl⟩ := hq
      refine x_iret dX11_winds_42 rfl ?_
      refine qA_no (c := 2) ?_
      unfold a_winds
      rw [qt, if_pos rfl]
      first
        | (rw [bI_eq.mp h24]; rfl)
        | (rw [bI_eq.mp h34, Bool.and_false]; rfl)
    · have qd := bI_ne.mp h24
      obtain ⟨sd, -, hsd, rfl⟩ := wth_of qd (by omega) (by omega)
      refine x_iload_n dX11_winds_27 rfl ?_
      refine x_iconst dX11_winds_28 li_0 ?_
      refine x_bipush dX11_winds_29 lb_99 ?_
      refine x_csi (c_isWithin) kX11_206 dX11_winds_31 rfl rfl (Nat.le_of_ble_eq_true rfl) (fun ru Mu hq => ?_)
      obtain ⟨rfl, rfl⟩ := hq
      refine x_if_ne 43 dX11_winds_34 (by decide) (fun h34 => ?_) (fun h34 => ?_)
      · have qH := bI_ne.mp h34
        obtain ⟨H, -, hHb, rfl⟩ := wth_of qH (by omega) (by omega)
        refine x_aload_n dX11_winds_43 rfl ?_
        refine g_X_air fX11_34 dX11_winds_44 ?_
        refine x_aload_n dX11_winds_47 rfl ?_
        refine g_X_acts fX11_41 dX11_winds_48 ?_
        refine g_Acts_now fX11_155 dX11_winds_51 ?_
        refine x_iload_n dX11_winds_54 rfl ?_
        refine aa_Acts_now dX11_winds_55 rfl (by first | exact Nat.le_of_ble_eq_true rfl | assumption | omega) ?_
        refine g_Person_halves fX11_183 dX11_winds_56 (Nat.lt_of_lt_of_le (show t < 4 by omega) (by decide)) ?_
        refine x_iload_n dX11_winds_59 rfl ?_
        refine x_aload_n dX11_winds_60 rfl ?_
        refine g_X_air fX11_34 dX11_winds_61 ?_
        refine x_iload_n dX11_winds_64 rfl ?_
        refine x_iload_n dX11_winds_65 rfl ?_
        refine x_cvi (c_blown (d := d + 1) hV hB (seed := sd) (H := H) (by omega) hHb (hz0 (by omega))) kX11_297 dX11_winds_66 rfl (Nat.le_of_ble_eq_true rfl) rfl rfl (Nat.le_of_ble_eq_true rfl) (fun ru Mu hq => ?_)
        obtain ⟨rfl, rfl⟩ := hq
        refine x_cvv (c_take (h := 43) (j := t) (f := fun s => N t (3 + s)) (H := H) (w := blw (V 0 0 0) sd H) rfl (by decide) (Nat.lt_of_lt_of_le (show t < 4 by omega) (Nat.le_of_ble_eq_true rfl)) hV hB (fun s hs => ⟨(hN t ht).2 s hs, (hW t ht).2 s hs⟩) (by omega) (Nat.le_trans (blw_le hV.1 (hz0 (by omega)) H) (by omega))) kX11_186 dX11_winds_69 rfl (Nat.le_of_ble_eq_true rfl) rfl rfl (Nat.le_of_ble_eq_true rfl) (fun M2 hq2 => ?_)
        obtain ⟨I2, rfl, hA2, hS2⟩ := hq2
        have hB2 : XB V 0 I2 := hB.sm (fun s h1 h2 => hS2 s (by omega))
        have hg2 : ∀ s, s < 6 → wst V N t sd H s ≤ 99 := fun s hs => str_le ((hW t ht).2 s hs)
        refine x_aload_n dX11_winds_72 rfl ?_
        refine x_aload_n dX11_winds_73 rfl ?_
        refine g_X_air fX11_34 dX11_winds_74 ?_
        refine x_cvi (c_together (d := d + 1) hV hB2 hA2 hg2) kX11_300 dX11_winds_77 rfl (Nat.le_of_ble_eq_true rfl) rfl rfl (Nat.le_of_ble_eq_true rfl) (fun ru Mu hq => ?_)
        obtain ⟨rfl, rfl⟩ := hq
        refine x_cvi (c_answer) kX11_127 dX11_winds_80 rfl (Nat.le_of_ble_eq_true rfl) rfl rfl (Nat.le_of_ble_eq_true rfl) (fun ru Mu hq => ?_)
        obtain ⟨rfl, rfl⟩ := hq
        refine x_iret dX11_winds_83 rfl ?_
        refine qA_ok ?_ (hS2.wk (fun s h => by unfold scr; omega))
        unfold a_winds
        rw [qt, if_pos rfl, qd, qH, Bool.and_self, if_pos rfl, zN_nI (by omega), zN_nI (by omega), zN_nI (by omega)]
        rfl
      · refine x_aload_n dX11_winds_37 rfl ?_
        refine x_iconst dX11_winds_38 li_2 ?_
        refine x_cvi (c_refuse) kX11_102 dX11_winds_39 rfl (Nat.le_of_ble_eq_true rfl) rfl rfl (Nat.le_of_ble_eq_true rfl) (fun ru Mu hq => ?_)
        obtain ⟨rfl, rfl⟩ := hq
        refine x_iret dX11_winds_42 rfl ?_
        refine qA_no (c := 2) ?_
        unfold a_winds
        rw [qt, if_pos rfl]
        first
          | (rw [bI_eq.mp h24]; rfl)
          | (rw [bI_eq.mp h34, Bool.and_false]; rfl)
  · refine x_aload_n dX11_winds_10 rfl ?_
    refine x_iconst dX11_winds_11 li_1 ?_
    refine x_cvi (c_refuse) kX11_102 dX11_winds_12 rfl (Nat.le_of_ble_eq_true rfl) rfl rfl (Nat.le_of_ble_eq_true rfl) (fun ru Mu hq => ?_)
    obtain ⟨rfl, rfl⟩ := hq
    refine x_iret dX11_winds_15 rfl ?_
    refine qA_no (c := 1) ?_
    unfold a_winds
    rw [bI_eq.mp h7]
    rfl
set_option maxRecDepth 100000 in
set_option maxHeartbeats 4000000 in
theorem x_windDuty_c (hS : SW V N h mk) (hX : XS V N h mk I) (hz0 : 0 < V 0 7 0 → 0 < V 0 0 0) {z1 z2 z3 z4 : Int32} : Mt G vX11_windDuty (d + 1 + 1) (0, 0) [.ref (ad 11 0), .int (z1), .int (z2), .int (z3), .int (z4)] (MM ad nb b r I L) (qA ad nb b r I L (a_windDuty V N z1 z2 z3 z4)) := by
  have hV := hS.1
  obtain ⟨hB, hN, hH, hK⟩ := hX
  have hW := hS.2.1
  have v0 := hV.1
  have v1 := hV.2.1
  have v2 := hV.2.2.1
  have v3 := hV.2.2.2.1
  have v4 := hV.2.2.2.2.1
  have v7 := hV.2.2.2.2.2.2.2.1
  have v9 := hV.2.2.2.2.2.2.2.2.2.1
  have v10 := hV.2.2.2.2.2.2.2.2.2.2.1
  refine x_start (by decide) (Nat.le_of_ble_eq_true rfl) ?_
  refine x_aload_n dX11_windDuty_0 rfl ?_
  refine x_bipush dX11_windDuty_1 lb_7 ?_
  refine x_iload_n dX11_windDuty_3 rfl ?_
  refine x_cvi (c_isOne hV (so := 7) (by omega) (by omega) (hB.1 7 (by omega))) kX11_133 dX11_windDuty_4 rfl (Nat.le_of_ble_eq_true rfl) rfl rfl (Nat.le_of_ble_eq_true rfl) (fun ru Mu hq => ?_)
  obtain ⟨rfl, rfl⟩ := hq
  refine x_if_eq 19 dX11_windDuty_7 (by decide) (fun h7 => ?_) (fun h7 => ?_)
  · refine x_aload_n dX11_windDuty_19 rfl ?_
    refine x_iconst dX11_windDuty_20 li_1 ?_
    refine x_cvi (c_refuse) kX11_102 dX11_windDuty_21 rfl (Nat.le_of_ble_eq_true rfl) rfl rfl (Nat.le_of_ble_eq_true rfl) (fun ru Mu hq => ?_)
    obtain ⟨rfl, rfl⟩ := hq
    refine x_iret dX11_windDuty_24 rfl ?_
    refine qA_no (c := 1) ?_
    unfold a_windDuty
    first
      | (rw [bI_eq.mp h7]; rfl)
      | (rw [bI_eq.mp h16, Bool.and_false]; rfl)
  · have qt := bI_ne.mp h7
    obtain ⟨t, ht, rfl⟩ := inr_of qt (by omega)
    refine x_aload_n dX11_windDuty_10 rfl ?_
    refine x_iconst dX11_windDuty_11 li_4 ?_
    refine x_iload_n dX11_windDuty_12 rfl ?_
    refine x_cvi (c_isOne hV (so := 4) (by omega) (by omega) (hB.1 4 (by omega))) kX11_133 dX11_windDuty_13 rfl (Nat.le_of_ble_eq_true rfl) rfl rfl (Nat.le_of_ble_eq_true rfl) (fun ru Mu hq => ?_)
    obtain ⟨rfl, rfl⟩ := hq
    refine x_if_ne 25 dX11_windDuty_16 (by decide) (fun h16 => ?_) (fun h16 => ?_)
    · have qq := bI_ne.mp h16
      obtain ⟨q, hq, rfl⟩ := inr_of qq (by omega)
      refine x_iload_n dX11_windDuty_25 rfl ?_
      refine x_iconst dX11_windDuty_26 li_0 ?_
      refine x_ldcw dX11_windDuty_27 (xm5 73 rfl rfl) ?_
      refine x_top (v := nI 65536) rfl ?_
      refine x_csi (c_isWithin (lo := 0) (hi := 65536)) kX11_206 dX11_windDuty_30 rfl rfl (Nat.le_of_ble_eq_true rfl) (fun ru Mu hq => ?_)
      obtain ⟨rfl, rfl⟩ := hq
      refine x_if_eq 47 dX11_windDuty_33 (by decide) (fun h33 => ?_) (fun h33 => ?_)
      · refine x_aload_n dX11_windDuty_47 rfl ?_
        refine x_iconst dX11_windDuty_48 li_2 ?_
        refine x_cvi (c_refuse) kX11_102 dX11_windDuty_49 rfl (Nat.le_of_ble_eq_true rfl) rfl rfl (Nat.le_of_ble_eq_true rfl) (fun ru Mu hq => ?_)
        obtain ⟨rfl, rfl⟩ := hq
        refine x_iret dX11_windDuty_52 rfl ?_
        refine qA_no (c := 2) ?_
        unfold a_windDuty
        rw [qt, qq, Bool.and_self, if_pos rfl]
        first
          | (rw [bI_eq.mp h33]; rfl)
          | (rw [bI_eq.mp h44, Bool.and_false]; rfl)
      · have qd := bI_ne.mp h33
        obtain ⟨sd, -, hsd, rfl⟩ := wth_of qd (by omega) (by omega)
        refine x_iload dX11_windDuty_36 rfl ?_
        refine x_iconst dX11_windDuty_38 li_0 ?_
        refine x_bipush dX11_windDuty_39 lb_99 ?_
        refine x_csi (c_isWithin) kX11_206 dX11_windDuty_41 rfl rfl (Nat.le_of_ble_eq_true rfl) (fun ru Mu hq => ?_)
        obtain ⟨rfl, rfl⟩ := hq
        refine x_if_ne 53 dX11_windDuty_44 (by decide) (fun h44 => ?_) (fun h44 => ?_)
        · have qH := bI_ne.mp h44
          obtain ⟨H, -, hHb, rfl⟩ := wth_of qH (by omega) (by omega)
          refine x_aload_n dX11_windDuty_53 rfl ?_
          refine g_X_air fX11_34 dX11_windDuty_54 ?_
          refine x_aload_n dX11_windDuty_57 rfl ?_
          refine g_X_acts fX11_41 dX11_windDuty_58 ?_
          refine g_Acts_now fX11_155 dX11_windDuty_61 ?_
          refine x_iload_n dX11_windDuty_64 rfl ?_
          refine aa_Acts_now dX11_windDuty_65 rfl (by first | exact Nat.le_of_ble_eq_true rfl | assumption | omega) ?_
          refine g_Person_halves fX11_183 dX11_windDuty_66 (Nat.lt_of_lt_of_le (show t < 4 by omega) (by decide)) ?_
          refine x_iload dX11_windDuty_69 rfl ?_
          refine x_aload_n dX11_windDuty_71 rfl ?_
          refine g_X_air fX11_34 dX11_windDuty_72 ?_
          refine x_iload_n dX11_windDuty_75 rfl ?_
          refine x_iload dX11_windDuty_76 rfl ?_
          refine x_cvi (c_blown (d := d + 1) hV hB (seed := sd) (H := H) (by omega) hHb (hz0 (by omega))) kX11_297 dX11_windDuty_78 rfl (Nat.le_of_ble_eq_true rfl) rfl rfl (Nat.le_of_ble_eq_true rfl) (fun ru Mu hq => ?_)
          obtain ⟨rfl, rfl⟩ := hq
          refine x_cvv (c_take (h := 43) (j := t) (f := fun s => N t (3 + s)) (H := H) (w := blw (V 0 0 0) sd H) rfl (by decide) (Nat.lt_of_lt_of_le (show t < 4 by omega) (Nat.le_of_ble_eq_true rfl)) hV hB (fun s hs => ⟨(hN t ht).2 s hs, (hW t ht).2 s hs⟩) (by omega) (Nat.le_trans (blw_le hV.1 (hz0 (by omega)) H) (by omega))) kX11_186 dX11_windDuty_81 rfl (Nat.le_of_ble_eq_true rfl) rfl rfl (Nat.le_of_ble_eq_true rfl) (fun M2 hq2 => ?_)
          obtain ⟨I2, rfl, hA2, hS2⟩ := hq2
          have hB2 : XB V 0 I2 := hB.sm (fun s h1 h2 => hS2 s (by omega))
          have hg2 : ∀ s, s < 6 → wst V N t sd H s ≤ 99 := fun s hs => str_le ((hW t ht).2 s hs)
          have hz2 := hB2.nz hV q hq
          have hsk := skl_le hV hz2.2
          have hso := (hV.2.2.2.2.2.2.2.2.2.2.2.2.2.2.2.2.2.2.1 t ht).1
          refine x_aload_n dX11_windDuty_84 rfl ?_
          refine x_aload_n dX11_windDuty_85 rfl ?_
          refine g_X_air fX11_34 dX11_windDuty_86 ?_
          refine x_aload_n dX11_windDuty_89 rfl ?_
          refine g_X_told fX11_16 dX11_windDuty_90 ?_
          refine g_Border_sort fX11_159 dX11_windDuty_93 (by first | exact Nat.le_of_ble_eq_true rfl | assumption | omega) ?_
          refine x_iload_n dX11_windDuty_96 rfl ?_
          refine x_iald dX11_windDuty_97 rfl rfl (Nat.lt_of_lt_of_le (by first | assumption | omega | decide) (Nat.le_refl 2)) (by first | exact Nat.le_of_ble_eq_true rfl | assumption | omega) ?_
          rw [(hB2.2.2.2.2.2.1 t ht).1]
          refine x_iload_n dX11_windDuty_98 rfl ?_
          refine x_aload_n dX11_windDuty_99 rfl ?_
          refine g_X_told fX11_16 dX11_windDuty_100 ?_
          refine x_iload_n dX11_windDuty_103 rfl ?_
          refine x_aload_n dX11_windDuty_104 rfl ?_
          refine g_X_told fX11_16 dX11_windDuty_105 ?_
          refine g_Border_placeNose fX11_149 dX11_windDuty_108 (by first | exact Nat.le_of_ble_eq_true rfl | assumption | omega) ?_
          refine x_cvi (c_skillAt (h := 22) (j := 0) hV hB2 rfl (Nat.le_of_ble_eq_true rfl) (by omega) hz2.1 hz2.2) kX11_303 dX11_windDuty_111 rfl (Nat.le_of_ble_eq_true rfl) rfl rfl (Nat.le_of_ble_eq_true rfl) (fun ru Mu hq1 => ?_)
          obtain ⟨rfl, rfl⟩ := hq1
          refine x_cvi (c_toll hV hB2 hA2 hg2 hso hq hsk) kX11_307 dX11_windDuty_114 rfl (Nat.le_of_ble_eq_true rfl) rfl rfl (Nat.le_of_ble_eq_true rfl) (fun ru Mu hq1 => ?_)
          obtain ⟨rfl, rfl⟩ := hq1
          refine x_cvi (c_answer) kX11_127 dX11_windDuty_117 rfl (Nat.le_of_ble_eq_true rfl) rfl rfl (Nat.le_of_ble_eq_true rfl) (fun ru Mu hq => ?_)
          obtain ⟨rfl, rfl⟩ := hq
          refine x_iret dX11_windDuty_120 rfl ?_
          refine qA_ok ?_ (hS2.wk (fun s h => by unfold scr; omega))
          unfold a_windDuty
          rw [qt, qq, Bool.and_self, if_pos rfl, qd, qH, Bool.and_self, if_pos rfl, zN_nI (by omega), zN_nI (by omega), zN_nI (by omega), zN_nI (by omega)]
          rfl
        · refine x_aload_n dX11_windDuty_47 rfl ?_
          refine x_iconst dX11_windDuty_48 li_2 ?_
          refine x_cvi (c_refuse) kX11_102 dX11_windDuty_49 rfl (Nat.le_of_ble_eq_true rfl) rfl rfl (Nat.le_of_ble_eq_true rfl) (fun ru Mu hq => ?_)
          obtain ⟨rfl, rfl⟩ := hq
          refine x_iret dX11_windDuty_52 rfl ?_
          refine qA_no (c := 2) ?_
          unfold a_windDuty
          rw [qt, qq, Bool.and_self, if_pos rfl]
          first
            | (rw [bI_eq.mp h33]; rfl)
            | (rw [bI_eq.mp h44, Bool.and_false]; rfl)
    · refine x_aload_n dX11_windDuty_19 rfl ?_
      refine x_iconst dX11_windDuty_20 li_1 ?_
      refine x_cvi (c_refuse) kX11_102 dX11_windDuty_21 rfl (Nat.le_of_ble_eq_true rfl) rfl rfl (Nat.le_of_ble_eq_true rfl) (fun ru Mu hq => ?_)
      obtain ⟨rfl, rfl⟩ := hq
      refine x_iret dX11_windDuty_24 rfl ?_
      refine qA_no (c := 1) ?_
      unfold a_windDuty
      first
        | (rw [bI_eq.mp h7]; rfl)
        | (rw [bI_eq.mp h16, Bool.and_false]; rfl)
end Xp4
