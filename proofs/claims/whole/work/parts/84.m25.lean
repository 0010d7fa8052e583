section M25
variable {G : xG} {ad : Nat → Nat → Nat} {nb : Nat} {b r : Option Nat} {L : Nat → Nat → Nat → Int64} {V : sV} {I : Nat → Nat → Nat → Int32} {d : Nat}

variable {N : sN} {ns : List Nat} {A : List (List Nat)}
theorem toA_get {q : Nat} (h : q < V 0 4 0) : (toA V ns).getD q 0 = fJ V ns ns.length q := by
  unfold toA
  rw [List.getD_eq_getElem?_getD, List.getElem?_map, List.getElem?_range h]
  rfl
theorem fJ_le {j q c : Nat} (h : ∀ x ∈ ns, x < c) (hj : j ≤ ns.length) : fJ V ns j q ≤ c := by
  unfold fJ
  split
  · rename_i y
    exact getD_lt h (show pc V q < ns.length by omega)
  · exact Nat.zero_le _
/-- but for the postings' scratch -/
def FO (I I' : Nat → Nat → Nat → Int32) : Prop := (∀ s, s ≠ 88 → s ≠ 89 → s ≠ 91 → s ≠ 100 → s ≠ 101 → s ≠ 102 → s ≠ 13 → I' s = I s) ∧ ∀ k, k ≠ 41 → I' 13 0 k = I 13 0 k
theorem FO.tr {I1 I2 : Nat → Nat → Nat → Int32} (h1 : FO I I1) (h2 : FO I1 I2) : FO I I2 := ⟨fun s a c e f g h i => (h2.1 s a c e f g h i).trans (h1.1 s a c e f g h i), fun k hk => (h2.2 k hk).trans (h1.2 k hk)⟩
theorem FO.of {I' : Nat → Nat → Nat → Int32} {s0 : Nat} (h : ∀ q, q ≠ s0 → I' q = I q) (hs : s0 = 88 ∨ s0 = 89 ∨ s0 = 91 ∨ s0 = 100 ∨ s0 = 101 ∨ s0 = 102) : FO I I' := ⟨fun s _ _ _ _ _ _ _ => h s (by omega), fun k _ => by rw [h 13 (by omega)]⟩
theorem FO.of3 {I' : Nat → Nat → Nat → Int32} (h : ∀ s, s ≠ 88 → s ≠ 89 → s ≠ 91 → I' s = I s) : FO I I' := ⟨fun s a c e _ _ _ _ => h s a c e, fun k _ => by rw [h 13 (by decide) (by decide) (by decide)]⟩
theorem FO.mx {I' : Nat → Nat → Nat → Int32} (h : FO I I') : MX I I' := ⟨fun s a c => h.1 s (fun z => a (by unfold msc; omega)) (fun z => a (by unfold msc; omega)) (fun z => a (by unfold msc; omega)) (fun z => a (by unfold msc; omega)) (fun z => a (by unfold msc; omega)) (fun z => a (by unfold msc; omega)) c, fun k hk => h.2 k (by omega)⟩
/-- the places that have a nose -/
def PP (V : sV) (k : Nat) (I : Nat → Nat → Nat → Int32) : Prop := ∀ q, q < k → V 6 q 0 ≠ 0 → I 100 0 (pc V q) = nI q

set_option maxRecDepth 100000 in
set_option maxHeartbeats 600000 in
theorem m_isBusy (hw : ∀ i, i < ns.length → I 101 0 i = nI (ns.getD i 0)) (h6 : ns.length < 6) (hns : ∀ x ∈ ns, x < 6) {q : Nat} (hq6 : q < 6) (hwq : I 101 0 ns.length = nI q) : Mt G vX13_isBusy (d) (0, 0) [.ref (ad 13 0), .int (nI (ns.length))] (MM ad nb b r I L) (qE (bI (decide (q ∈ ns))) (MM ad nb b r I L)) := by
  have loop2 : ∀ (n : Nat) (k : Nat), ns.length - k < n → k ≤ ns.length → (∀ i, i < k → ns.getD i 0 ≠ q) → X G vX13_isBusy (d) (0, 0) 2 [(0, some (.ref (ad 13 0))), (1, some (.int (nI (ns.length)))), (2, some (.int (nI (k))))] [] (MM ad nb b r I L) (xT G (qE (bI (decide (q ∈ ns))) (MM ad nb b r I L))) := by
    intro n
    induction n with
    | zero => intro k h0; omega
    | succ n ih =>
      intro k hn hk hn
      refine x_iload_n dX13_isBusy_2 rfl ?_
      refine x_iload_n dX13_isBusy_3 rfl ?_
      refine x_icN_ge 30 dX13_isBusy_4 (by decide) (by omega) (by omega) (fun h4 => ?_) (fun h4 => ?_)
      · refine x_iconst dX13_isBusy_30 li_0 ?_
        refine x_zret dX13_isBusy_31 rfl rfl ?_
        rw [decide_eq_false (show ¬ q ∈ ns from fun z => by
          obtain ⟨i, hi, e⟩ := List.mem_iff_getElem.mp z
          exact hn i (by omega) (by rw [List.getD_eq_getElem?_getD, List.getElem?_eq_getElem hi]; exact e))]
        exact ⟨_, rfl, rfl, rfl⟩
      · have hk4 := getD_lt hns h4
        refine x_aload_n dX13_isBusy_7 rfl ?_
        refine g_M_nose fX13_66 dX13_isBusy_8 ?_
        refine x_iload_n dX13_isBusy_11 rfl ?_
        refine x_iald dX13_isBusy_12 rfl rfl (Nat.le_of_ble_eq_true rfl) (by first | exact Nat.le_of_ble_eq_true rfl | assumption | omega) ?_
        rw [hw k h4]
        refine x_aload_n dX13_isBusy_13 rfl ?_
        refine g_M_nose fX13_66 dX13_isBusy_14 ?_
        refine x_iload_n dX13_isBusy_17 rfl ?_
        refine x_iald dX13_isBusy_18 rfl rfl (Nat.le_of_ble_eq_true rfl) (by first | exact Nat.le_of_ble_eq_true rfl | assumption | omega) ?_
        rw [hwq]
        refine x_icN_ne 24 dX13_isBusy_19 (by decide) (by omega) (by omega) (fun h19 => ?_) (fun h19 => ?_)
        · refine x_iincN 1 dX13_isBusy_24 li_1 rfl (by decide) rfl ?_
          refine x_goto 2 dX13_isBusy_27 (by decide) ?_
          refine x_ls ?_ (ih (k + 1) (by omega) (by omega) (fun i hi => ?_))
          · exact ⟨rfl, rfl, rfl, trivial⟩
          · rcases (show i = k ∨ i < k by omega) with e | e
            · subst e; exact h19
            · exact hn i e
        · refine x_iconst dX13_isBusy_22 li_1 ?_
          refine x_zret dX13_isBusy_23 rfl rfl ?_
          rw [decide_eq_true (show q ∈ ns by rw [← h19, List.getD_eq_getElem?_getD, List.getElem?_eq_getElem h4]; exact List.getElem_mem h4)]
          exact ⟨_, rfl, rfl, rfl⟩
  refine x_start (by decide) (Nat.le_of_ble_eq_true rfl) ?_
  refine x_iconst dX13_isBusy_0 li_0 ?_
  refine x_istore_n dX13_isBusy_1 (by decide) rfl ?_
  refine x_ls ?_ (loop2 (ns.length + 1) 0 (by omega) (by omega) (fun i h => absurd h (Nat.not_lt_zero i)))
  exact ⟨rfl, rfl, rfl, trivial⟩
set_option maxRecDepth 100000 in
set_option maxHeartbeats 600000 in
theorem lp_mdo3 (hV : VW V) {bi : Nat} (hb : b = some bi) (hbn : bi < nb) (hW : NW V N) (hB : YB V bi I) (hN : YN V N I) (h41 : I 13 0 41 = nI ns.length) (hPP : PP V (V 0 4 0) I) (hno : ∀ i, i < ns.length → I 101 0 i = nI (ns.getD i 0)) (hns : ∀ x ∈ ns, x < V 0 3 0) (hlp : ns.length ≤ pc V (V 0 4 0))  : ∀ (n : Nat) (k : Nat) (Ia : Nat → Nat → Nat → Int32), V 0 7 0 - k < n → k ≤ V 0 7 0 → (∀ s, s ≠ 88 → s ≠ 89 → s ≠ 91 → Ia s = I s) → (∀ q, q < V 0 4 0 → Ia 89 0 q = nO (-2) ((fun p => (toA V ns).getD p 0) q)) → X G vX13_dutyOfAll (d + 5) (0, 0) 59 [(0, some (.ref (ad 13 0))), (1, some (.int (nI (wsm V N (fun p => (toA V ns).getD p 0) k)))), (2, some (.int (nI (k))))] [] (MM ad nb b r Ia L) (xT G (qI (fun rr M' => rr = nI (wsN V N ns) ∧ ∃ I', M' = MM ad nb b r I' L ∧ ∀ s, s ≠ 88 → s ≠ 89 → s ≠ 91 → I' s = I s))) := by
  have v0 := hV.1
  have v1 := hV.2.1
  have v2 := hV.2.2.1
  have v3 := hV.2.2.2.1
  have v4 := hV.2.2.2.2.1
  have v7 := hV.2.2.2.2.2.2.2.1
  have v9 := hV.2.2.2.2.2.2.2.2.2.1
  have v10 := hV.2.2.2.2.2.2.2.2.2.2.1
  have hpl := pc_le (V := V) (V 0 4 0)
  intro n
  induction n with
  | zero => intro k Ia h0; omega
  | succ n ih =>
    intro k Ia hn hk hs hp
    have hB1 := hB.sm (I' := Ia) (fun q hq => hs q (by omega) (by omega) (by omega))
    have hN1 := hN.sm (I' := Ia) (hs 85 (by decide) (by decide) (by decide))
    refine x_iload_n dX13_dutyOfAll_59 rfl ?_
    refine x_aload_n dX13_dutyOfAll_60 rfl ?_
    refine g_M_border hb fX13_397 dX13_dutyOfAll_61 ?_
    refine g_MB_travellers fX13_343 dX13_dutyOfAll_64 hbn ?_
    refine x_top (y12_7 hB1) ?_
    refine x_icN_ge 96 dX13_dutyOfAll_67 (by decide) (by omega) (by omega) (fun h67 => ?_) (fun h67 => ?_)
    · refine x_iload_n dX13_dutyOfAll_96 rfl ?_
      refine x_iret dX13_dutyOfAll_97 rfl ?_
      obtain rfl : k = V 0 7 0 := by omega
      exact ⟨_, rfl, rfl, _, rfl, hs⟩
    · refine x_iload_n dX13_dutyOfAll_70 rfl ?_
      refine x_aload_n dX13_dutyOfAll_71 rfl ?_
      refine x_iload_n dX13_dutyOfAll_72 rfl ?_
      refine x_cvi (m_canWalk (d := d + 4) (t := k) hV hb hbn hW hB1 hN1 h67) kX13_445 dX13_dutyOfAll_73 rfl (Nat.le_of_ble_eq_true rfl) rfl rfl (Nat.le_of_ble_eq_true rfl) (fun ru Mu hq => ?_)
      obtain ⟨rfl, rfl⟩ := hq
      refine x_if_eq 87 dX13_dutyOfAll_76 (by decide) (fun h76 => ?_) (fun h76 => ?_)
      · refine x_iconst dX13_dutyOfAll_87 li_0 ?_
        refine x_iaddN dX13_dutyOfAll_88 ?_
        refine x_istore_n dX13_dutyOfAll_89 (by decide) rfl ?_
        refine x_iincN 1 dX13_dutyOfAll_90 li_1 rfl (by decide) rfl ?_
        refine x_goto 59 dX13_dutyOfAll_93 (by decide) ?_
        first
          | (refine x_ls ?_ (ih (k + 1) I3 (by omega) (by omega) (fun s a c e => (w2 s a e).trans (hs s a c e)) (fun q hq => by rw [w2 89 (by decide) (by decide)]; exact hp q hq))
             exact ⟨rfl, by rw [show wsm V N (fun p => (toA V ns).getD p 0) (k + 1) = wsm V N (fun p => (toA V ns).getD p 0) k + wt V (ON N k) (fun p => (toA V ns).getD p 0) (N k 0) k (V 13 k 0) by show _ + _ = _; rw [if_pos (bI_ne.mp h76)]; rfl]; rfl, rfl, trivial⟩)
          | (refine x_ls ?_ (ih (k + 1) Ia (by omega) (by omega) hs hp)
             exact ⟨rfl, by rw [show wsm V N (fun p => (toA V ns).getD p 0) (k + 1) = wsm V N (fun p => (toA V ns).getD p 0) k + 0 by show _ + _ = _; rw [if_neg (by rw [bI_eq.mp h76]; decide)]]; rfl, rfl, trivial⟩)
      · refine x_aload_n dX13_dutyOfAll_79 rfl ?_
        refine x_iload_n dX13_dutyOfAll_80 rfl ?_
        refine x_cvi (m_walks (d := d) (t := k) hV hb hbn hW hB1 hN1 h67 (nz := (fun p => (toA V ns).getD p 0)) hp (fun q hq => by show (toA V ns).getD q 0 ≤ V 0 3 0; rw [toA_get hq]; exact fJ_le hns (Nat.le_refl _))) kX13_448 dX13_dutyOfAll_81 rfl (Nat.le_of_ble_eq_true rfl) rfl rfl (Nat.le_of_ble_eq_true rfl) (fun ru Mu hq => ?_)
        obtain ⟨rfl, I3, rfl, w1, w2⟩ := hq
        refine x_goto 88 dX13_dutyOfAll_84 (by decide) ?_
        refine x_iaddN dX13_dutyOfAll_88 ?_
        refine x_istore_n dX13_dutyOfAll_89 (by decide) rfl ?_
        refine x_iincN 1 dX13_dutyOfAll_90 li_1 rfl (by decide) rfl ?_
        refine x_goto 59 dX13_dutyOfAll_93 (by decide) ?_
        first
          | (refine x_ls ?_ (ih (k + 1) I3 (by omega) (by omega) (fun s a c e => (w2 s a e).trans (hs s a c e)) (fun q hq => by rw [w2 89 (by decide) (by decide)]; exact hp q hq))
             exact ⟨rfl, by rw [show wsm V N (fun p => (toA V ns).getD p 0) (k + 1) = wsm V N (fun p => (toA V ns).getD p 0) k + wt V (ON N k) (fun p => (toA V ns).getD p 0) (N k 0) k (V 13 k 0) by show _ + _ = _; rw [if_pos (bI_ne.mp h76)]; rfl]; rfl, rfl, trivial⟩)
          | (refine x_ls ?_ (ih (k + 1) Ia (by omega) (by omega) hs hp)
             exact ⟨rfl, by rw [show wsm V N (fun p => (toA V ns).getD p 0) (k + 1) = wsm V N (fun p => (toA V ns).getD p 0) k + 0 by show _ + _ = _; rw [if_neg (by rw [bI_eq.mp h76]; decide)]]; rfl, rfl, trivial⟩)
set_option maxRecDepth 100000 in
set_option maxHeartbeats 600000 in
theorem lp_mdo2 (hV : VW V) {bi : Nat} (hb : b = some bi) (hbn : bi < nb) (hW : NW V N) (hB : YB V bi I) (hN : YN V N I) (h41 : I 13 0 41 = nI ns.length) (hPP : PP V (V 0 4 0) I) (hno : ∀ i, i < ns.length → I 101 0 i = nI (ns.getD i 0)) (hns : ∀ x ∈ ns, x < V 0 3 0) (hlp : ns.length ≤ pc V (V 0 4 0))  : ∀ (n : Nat) (k : Nat) (Ia : Nat → Nat → Nat → Int32), ns.length - k < n → k ≤ ns.length → (∀ s, s ≠ 88 → s ≠ 89 → s ≠ 91 → Ia s = I s) → (∀ q, q < V 0 4 0 → Ia 89 0 q = nO (-2) (fJ V ns k q)) → X G vX13_dutyOfAll (d + 5) (0, 0) 26 [(0, some (.ref (ad 13 0))), (1, some (.int (nI (0)))), (2, some (.int (nI (k))))] [] (MM ad nb b r Ia L) (xT G (qI (fun rr M' => rr = nI (wsN V N ns) ∧ ∃ I', M' = MM ad nb b r I' L ∧ ∀ s, s ≠ 88 → s ≠ 89 → s ≠ 91 → I' s = I s))) := by
  have v0 := hV.1
  have v1 := hV.2.1
  have v2 := hV.2.2.1
  have v3 := hV.2.2.2.1
  have v4 := hV.2.2.2.2.1
  have v7 := hV.2.2.2.2.2.2.2.1
  have v9 := hV.2.2.2.2.2.2.2.2.2.1
  have v10 := hV.2.2.2.2.2.2.2.2.2.2.1
  have hpl := pc_le (V := V) (V 0 4 0)
  intro n
  induction n with
  | zero => intro k Ia h0; omega
  | succ n ih =>
    intro k Ia hn hk hs hp
    refine x_iload_n dX13_dutyOfAll_26 rfl ?_
    refine x_aload_n dX13_dutyOfAll_27 rfl ?_
    refine g_M_manned fX13_502 dX13_dutyOfAll_28 ?_
    rw [hs 13 (by decide) (by decide) (by decide), h41]
    refine x_icN_ge 57 dX13_dutyOfAll_31 (by decide) (by omega) (by omega) (fun h31 => ?_) (fun h31 => ?_)
    · refine x_iconst dX13_dutyOfAll_57 li_0 ?_
      refine x_istore_n dX13_dutyOfAll_58 (by decide) rfl ?_
      obtain rfl : k = ns.length := by omega
      refine x_ls ?_ (lp_mdo3 hV hb hbn hW hB hN h41 hPP hno hns hlp (V 0 7 0 + 1) 0 Ia (by omega) (by omega) hs (fun q hq => by show Ia 89 0 q = nO (-2) ((toA V ns).getD q 0); rw [toA_get hq]; exact hp q hq))
      exact ⟨rfl, rfl, rfl, trivial⟩
    · obtain ⟨q, hq4, hq6, hqk⟩ := pc_surj (V := V) (j := k) (V 0 4 0) (by omega)
      refine x_aload_n dX13_dutyOfAll_34 rfl ?_
      refine g_M_post fX13_30 dX13_dutyOfAll_35 ?_
      refine x_aload_n dX13_dutyOfAll_38 rfl ?_
      refine g_M_postPlace fX13_63 dX13_dutyOfAll_39 ?_
      refine x_iload_n dX13_dutyOfAll_42 rfl ?_
      refine x_iald dX13_dutyOfAll_43 rfl rfl (Nat.le_of_ble_eq_true rfl) (by first | exact Nat.le_of_ble_eq_true rfl | assumption | omega) ?_
      rw [show Ia 100 0 k = nI q by rw [hs 100 (by decide) (by decide) (by decide), ← hqk]; exact hPP q hq4 hq6]
      refine x_aload_n dX13_dutyOfAll_44 rfl ?_
      refine g_M_nose fX13_66 dX13_dutyOfAll_45 ?_
      refine x_iload_n dX13_dutyOfAll_48 rfl ?_
      refine x_iald dX13_dutyOfAll_49 rfl rfl (Nat.le_of_ble_eq_true rfl) (by first | exact Nat.le_of_ble_eq_true rfl | assumption | omega) ?_
      rw [show Ia 101 0 k = nI (ns.getD k 0) by rw [hs 101 (by decide) (by decide) (by decide)]; exact hno k h31]
      refine x_iast dX13_dutyOfAll_50 rfl rfl (Nat.le_of_ble_eq_true rfl) (by first | exact Nat.le_of_ble_eq_true rfl | assumption | omega) ?_
      refine x_iincN 1 dX13_dutyOfAll_51 li_1 rfl (by decide) rfl ?_
      refine x_goto 26 dX13_dutyOfAll_54 (by decide) ?_
      refine x_ls ?_ (ih (k + 1) _ (by omega) (by omega) (fun s a c e => ?_) (fun x hx => ?_))
      · exact ⟨rfl, rfl, rfl, trivial⟩
      · rw [← hs s a c e]; funext x y; rw [xu_ns c]
      · rw [xu_at]
        by_cases e0 : x = q
        · rw [if_pos e0, e0]
          unfold fJ
          rw [if_pos ⟨hq6, by omega⟩, hqk, nO_pos (by omega), Nat.add_sub_cancel]
        · rw [if_neg e0, hp x hx]
          unfold fJ
          by_cases z : V 6 x 0 ≠ 0
          · have hne : pc V x ≠ k := fun y => by
              rcases Nat.lt_trichotomy x q with l | l | l
              · have := pc_lt l z; omega
              · exact e0 l
              · have := pc_lt l hq6; omega
            by_cases y : pc V x < k
            · rw [if_pos ⟨z, y⟩, if_pos ⟨z, by omega⟩]
            · rw [if_neg (fun w => y w.2), if_neg (fun w => by have := w.2; omega)]
          · rw [if_neg (fun w => z w.1), if_neg (fun w => z w.1)]
set_option maxRecDepth 100000 in
set_option maxHeartbeats 600000 in
theorem lp_mdo1 (hV : VW V) {bi : Nat} (hb : b = some bi) (hbn : bi < nb) (hW : NW V N) (hB : YB V bi I) (hN : YN V N I) (h41 : I 13 0 41 = nI ns.length) (hPP : PP V (V 0 4 0) I) (hno : ∀ i, i < ns.length → I 101 0 i = nI (ns.getD i 0)) (hns : ∀ x ∈ ns, x < V 0 3 0) (hlp : ns.length ≤ pc V (V 0 4 0))  : ∀ (n : Nat) (k : Nat) (Ia : Nat → Nat → Nat → Int32), 6 - k < n → k ≤ 6 → (∀ s, s ≠ 88 → s ≠ 89 → s ≠ 91 → Ia s = I s) → (∀ q, q < k → Ia 89 0 q = -2) → X G vX13_dutyOfAll (d + 5) (0, 0) 4 [(0, some (.ref (ad 13 0))), (1, some (.int (nI (0)))), (2, some (.int (nI (k))))] [] (MM ad nb b r Ia L) (xT G (qI (fun rr M' => rr = nI (wsN V N ns) ∧ ∃ I', M' = MM ad nb b r I' L ∧ ∀ s, s ≠ 88 → s ≠ 89 → s ≠ 91 → I' s = I s))) := by
  have v0 := hV.1
  have v1 := hV.2.1
  have v2 := hV.2.2.1
  have v3 := hV.2.2.2.1
  have v4 := hV.2.2.2.2.1
  have v7 := hV.2.2.2.2.2.2.2.1
  have v9 := hV.2.2.2.2.2.2.2.2.2.1
  have v10 := hV.2.2.2.2.2.2.2.2.2.2.1
  have hpl := pc_le (V := V) (V 0 4 0)
  intro n
  induction n with
  | zero => intro k Ia h0; omega
  | succ n ih =>
    intro k Ia hn hk hs hp
    refine x_iload_n dX13_dutyOfAll_4 rfl ?_
    refine x_bipush dX13_dutyOfAll_5 lb_6 ?_
    refine x_icN_ge 24 dX13_dutyOfAll_7 (by decide) (by omega) (by omega) (fun h7 => ?_) (fun h7 => ?_)
    · refine x_iconst dX13_dutyOfAll_24 li_0 ?_
      refine x_istore_n dX13_dutyOfAll_25 (by decide) rfl ?_
      refine x_ls ?_ (lp_mdo2 hV hb hbn hW hB hN h41 hPP hno hns hlp (ns.length + 1) 0 Ia (by omega) (by omega) hs (fun q hq => by rw [hp q (by omega), show fJ V ns 0 q = 0 from if_neg (fun w => absurd w.2 (Nat.not_lt_zero _))]; rfl))
      exact ⟨rfl, rfl, rfl, trivial⟩
    · refine x_aload_n dX13_dutyOfAll_10 rfl ?_
      refine g_M_post fX13_30 dX13_dutyOfAll_11 ?_
      refine x_iload_n dX13_dutyOfAll_14 rfl ?_
      refine x_bipush dX13_dutyOfAll_15 lb_m2 ?_
      refine x_iast dX13_dutyOfAll_17 rfl rfl (Nat.le_of_ble_eq_true rfl) (by first | exact Nat.le_of_ble_eq_true rfl | assumption | omega) ?_
      refine x_iincN 1 dX13_dutyOfAll_18 li_1 rfl (by decide) rfl ?_
      refine x_goto 4 dX13_dutyOfAll_21 (by decide) ?_
      refine x_ls ?_ (ih (k + 1) _ (by omega) (by omega) (fun s a c e => ?_) (fun x hx => ?_))
      · exact ⟨rfl, rfl, rfl, trivial⟩
      · rw [← hs s a c e]; funext x y; rw [xu_ns c]
      · rw [xu_at]
        by_cases e0 : x = k
        · rw [if_pos e0]
        · rw [if_neg e0]; exact hp x (by omega)
set_option maxRecDepth 100000 in
set_option maxHeartbeats 600000 in
theorem m_dutyOfAll (hV : VW V) {bi : Nat} (hb : b = some bi) (hbn : bi < nb) (hW : NW V N) (hB : YB V bi I) (hN : YN V N I) (h41 : I 13 0 41 = nI ns.length) (hPP : PP V (V 0 4 0) I) (hno : ∀ i, i < ns.length → I 101 0 i = nI (ns.getD i 0)) (hns : ∀ x ∈ ns, x < V 0 3 0) (hlp : ns.length ≤ pc V (V 0 4 0)) : Mt G vX13_dutyOfAll (d + 5) (0, 0) [.ref (ad 13 0)] (MM ad nb b r I L) (qI (fun rr M' => rr = nI (wsN V N ns) ∧ ∃ I', M' = MM ad nb b r I' L ∧ ∀ s, s ≠ 88 → s ≠ 89 → s ≠ 91 → I' s = I s)) := by
  refine x_start (by decide) (Nat.le_of_ble_eq_true rfl) ?_
  refine x_iconst dX13_dutyOfAll_0 li_0 ?_
  refine x_istore_n dX13_dutyOfAll_1 (by decide) rfl ?_
  refine x_iconst dX13_dutyOfAll_2 li_0 ?_
  refine x_istore_n dX13_dutyOfAll_3 (by decide) rfl ?_
  refine x_ls ?_ (lp_mdo1 hV hb hbn hW hB hN h41 hPP hno hns hlp 7 0 I (by omega) (by omega) (fun _ _ _ _ => rfl) (fun q h => absurd h (Nat.not_lt_zero q)))
  exact ⟨rfl, rfl, rfl, trivial⟩
end M25
