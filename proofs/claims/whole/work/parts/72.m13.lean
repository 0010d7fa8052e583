section M13
variable {G : xG} {ad : Nat → Nat → Nat} {nb : Nat} {b r : Option Nat} {L : Nat → Nat → Nat → Int64} {V : sV} {I : Nat → Nat → Nat → Int32} {d : Nat}

variable {f : Nat → Nat} {so : Nat} {W : List (List Nat)} {w : List Nat}
/-- the best of a kind, as the model keeps it -/
def pk (V : sV) (f : Nat → Nat) (so : Nat) (W : List (List Nat)) (kd : Nat) : Nat := pkF (dW V f so W) (hWd V W) kd W.length
def bsz (V : sV) (f : Nat → Nat) (so : Nat) (W : List (List Nat)) (kd : Nat) : Nat := if pk V f so W kd = 0 then 0 else (W.getD (pk V f so W kd - 1) []).length
def BA (V : sV) (f : Nat → Nat) (so : Nat) (W : List (List Nat)) (kd : Nat) (I : Nat → Nat → Nat → Int32) : Prop := I 94 0 kd = nI (bsz V f so W kd) ∧ (pk V f so W kd ≠ 0 → I 95 0 kd = nI (hWd V W (pk V f so W kd - 1)) ∧ I 96 0 kd = nI (dW V f so W (pk V f so W kd - 1)) ∧ ∀ i, i < (W.getD (pk V f so W kd - 1) []).length → I 93 0 (6 * kd + i) = nI ((W.getD (pk V f so W kd - 1) []).getD i 0))
def WL (V : sV) (W : List (List Nat)) : Prop := ∀ w ∈ W, 1 ≤ w.length ∧ w.length ≤ 6 ∧ ∀ q ∈ w, q < V 0 4 0
theorem pkF_cg {D H D' H' : Nat → Nat} {kd : Nat} : ∀ n, (∀ k, k < n → D' k = D k ∧ H' k = H k) → pkF D' H' kd n = pkF D H kd n
  | 0, _ => rfl
  | n + 1, h => by
    have e := pkF_cg (kd := kd) n (fun k hk => h k (by omega))
    have hl := pkF_le (D := D) (H := H) (kind := kd) n
    unfold pkF
    rw [e, (h n (by omega)).1]
    by_cases z : pkF D H kd n = 0
    · simp [z]
    · have eb : btr D' H' kd n (pkF D H kd n - 1) = btr D H kd n (pkF D H kd n - 1) := by
        unfold btr
        rw [(h n (by omega)).1, (h n (by omega)).2, (h (pkF D H kd n - 1) (by omega)).1, (h (pkF D H kd n - 1) (by omega)).2]
      rw [eb]
theorem getD_l {k : Nat} (h : k < W.length) : (W ++ [w]).getD k [] = W.getD k [] := by rw [List.getD_eq_getElem?_getD, List.getD_eq_getElem?_getD, List.getElem?_append_left h]
theorem getD_r : (W ++ [w]).getD W.length [] = w := by rw [List.getD_eq_getElem?_getD, List.getElem?_concat_length]; rfl
theorem pkw_app {kd : Nat} : pk V f so (W ++ [w]) kd = if (kd ≠ 2 ∨ dl V f so w w.length = 0) ∧ (pk V f so W kd = 0 ∨ (if kd = 1 ∧ dl V f so w w.length ≠ dW V f so W (pk V f so W kd - 1) then decide (dl V f so w w.length < dW V f so W (pk V f so W kd - 1)) else decide (cum V w (w.length - 1) < hWd V W (pk V f so W kd - 1))) = true) then W.length + 1 else pk V f so W kd := by
  have hl := pkF_le (D := dW V f so W) (H := hWd V W) (kind := kd) W.length
  have e1 : pkF (dW V f so (W ++ [w])) (hWd V (W ++ [w])) kd W.length = pk V f so W kd := pkF_cg W.length (fun k hk => by unfold dW hWd; rw [getD_l hk]; exact ⟨rfl, rfl⟩)
  have e2 : dW V f so (W ++ [w]) W.length = dl V f so w w.length := by unfold dW; rw [getD_r]
  have e3 : hWd V (W ++ [w]) W.length = cum V w (w.length - 1) := by unfold hWd; rw [getD_r]
  show pkF (dW V f so (W ++ [w])) (hWd V (W ++ [w])) kd (W ++ [w]).length = _
  rw [List.length_append]
  show pkF (dW V f so (W ++ [w])) (hWd V (W ++ [w])) kd (W.length + 1) = _
  unfold pkF
  rw [e1, e2]
  by_cases z : pk V f so W kd = 0
  · simp [z]
  · have hz : pk V f so W kd - 1 < W.length := by have : pk V f so W kd ≤ W.length := hl; omega
    unfold btr
    rw [e2, e3, show dW V f so (W ++ [w]) (pk V f so W kd - 1) = dW V f so W (pk V f so W kd - 1) by unfold dW; rw [getD_l hz], show hWd V (W ++ [w]) (pk V f so W kd - 1) = hWd V W (pk V f so W kd - 1) by unfold hWd; rw [getD_l hz]]
theorem pkw_le {kd : Nat} : pk V f so W kd ≤ W.length := pkF_le W.length
/-- one way more that is not better -/
theorem BA.no {kd : Nat} {I' : Nat → Nat → Nat → Int32} (h : BA V f so W kd I) (he : pk V f so (W ++ [w]) kd = pk V f so W kd) (h4 : I' 94 0 kd = I 94 0 kd) (h5 : I' 95 0 kd = I 95 0 kd) (h6 : I' 96 0 kd = I 96 0 kd) (h3 : ∀ i, i < 6 → I' 93 0 (6 * kd + i) = I 93 0 (6 * kd + i)) (hL : WL V W) : BA V f so (W ++ [w]) kd I' := by
  have hl := pkw_le (V := V) (f := f) (so := so) (W := W) (kd := kd)
  unfold BA bsz
  rw [he]
  by_cases z : pk V f so W kd = 0
  · rw [if_pos z, h4, h.1]
    unfold bsz
    rw [if_pos z]
    exact ⟨rfl, fun q => absurd z q⟩
  · have hz : pk V f so W kd - 1 < W.length := by omega
    have hlen := (hL _ (List.mem_of_getElem? (W_at hz))).2.1
    obtain ⟨k1, k2, k3⟩ := h.2 z
    rw [if_neg z, h4, h.1, getD_l hz]
    unfold bsz
    rw [if_neg z]
    refine ⟨rfl, fun _ => ⟨?_, ?_, fun i hi => ?_⟩⟩
    · rw [h5, k1]; unfold hWd; rw [getD_l hz]
    · rw [h6, k2]; unfold dW; rw [getD_l hz]
    · rw [h3 i (by omega), k3 i hi]
theorem BA.yes {kd : Nat} {I' : Nat → Nat → Nat → Int32} (he : pk V f so (W ++ [w]) kd = W.length + 1) (h4 : I' 94 0 kd = nI w.length) (h5 : I' 95 0 kd = nI (cum V w (w.length - 1))) (h6 : I' 96 0 kd = nI (dl V f so w w.length)) (h3 : ∀ i, i < w.length → I' 93 0 (6 * kd + i) = nI (w.getD i 0)) : BA V f so (W ++ [w]) kd I' := by
  unfold BA bsz
  rw [he, if_neg (by omega), Nat.add_sub_cancel, getD_r]
  refine ⟨h4, fun _ => ⟨?_, ?_, h3⟩⟩
  · rw [h5]; unfold hWd; rw [getD_r]
  · rw [h6]; unfold dW; rw [getD_r]
theorem BA.sm {kd : Nat} {I' : Nat → Nat → Nat → Int32} (h : BA V f so W kd I) (h4 : I' 94 0 kd = I 94 0 kd) (h5 : I' 95 0 kd = I 95 0 kd) (h6 : I' 96 0 kd = I 96 0 kd) (h3 : ∀ i, i < 6 → I' 93 0 (6 * kd + i) = I 93 0 (6 * kd + i)) (hL : WL V W) : BA V f so W kd I' := by
  have hl := pkw_le (V := V) (f := f) (so := so) (W := W) (kd := kd)
  refine ⟨by rw [h4]; exact h.1, fun z => ?_⟩
  obtain ⟨k1, k2, k3⟩ := h.2 z
  have hz : pk V f so W kd - 1 < W.length := by omega
  have hlen := (hL _ (List.mem_of_getElem? (W_at hz))).2.1
  exact ⟨by rw [h5]; exact k1, by rw [h6]; exact k2, fun i hi => by rw [h3 i (by omega)]; exact k3 i hi⟩
theorem bsz_0 {kd : Nat} (hL : WL V W) : bsz V f so W kd = 0 ↔ pk V f so W kd = 0 := by
  have hl := pkw_le (V := V) (f := f) (so := so) (W := W) (kd := kd)
  unfold bsz
  by_cases z : pk V f so W kd = 0
  · rw [if_pos z]; exact ⟨fun _ => z, fun _ => rfl⟩
  · rw [if_neg z]
    have hz : pk V f so W kd - 1 < W.length := by omega
    have hlen := (hL _ (List.mem_of_getElem? (W_at hz))).1
    exact ⟨fun q => by omega, fun q => absurd q z⟩
theorem bsz_6 {kd : Nat} (hL : WL V W) : bsz V f so W kd ≤ 6 := by
  have hl := pkw_le (V := V) (f := f) (so := so) (W := W) (kd := kd)
  unfold bsz
  split
  · omega
  · exact (hL _ (List.mem_of_getElem? (W_at (k := pk V f so W kd - 1) (by omega)))).2.1
theorem hWd_le (hV : VW V) (hL : WL V W) {k : Nat} (hk : k < W.length) : hWd V W k ≤ 240 := by
  have := cum_le (w := W.getD k []) hV ((W.getD k []).length - 1)
  have h6 := (hL _ (List.mem_of_getElem? (W_at hk))).2.1
  unfold hWd; omega
theorem dW_le (hV : VW V) (hf : ∀ s, s < 6 → f s ≤ 198) (hL : WL V W) {k : Nat} (hk : k < W.length) : dW V f so W k ≤ 64152 := by
  have := dl_le (V := V) (sort := so) (w := W.getD k []) hV hf (W.getD k []).length
  have h6 := (hL _ (List.mem_of_getElem? (W_at hk))).2.1
  unfold dW; omega

set_option maxRecDepth 100000 in
set_option maxHeartbeats 600000 in
theorem m_takes {kd mn hh dd c : Nat} (hkd : kd < 3) (hmn : mn ≤ 6) (hc : c ≤ 1) : Mt G vX13_takes (d) (0, 0) [.ref (ad 13 0), .int (nI (kd)), .int (nI (mn)), .int (nI (hh)), .int (nI (dd)), .int (nI (c))] (MM ad nb b r I L) (qV (fun M' => ∃ I', M' = MM ad nb b r I' L ∧ (c = 0 → I' = I) ∧ (c = 1 → (I' 94 0 kd = nI mn ∧ I' 95 0 kd = nI hh ∧ I' 96 0 kd = nI dd ∧ ∀ i, i < mn → I' 93 0 (6 * kd + i) = I 92 0 i) ∧ (∀ j, j ≠ kd → I' 94 0 j = I 94 0 j ∧ I' 95 0 j = I 95 0 j ∧ I' 96 0 j = I 96 0 j) ∧ (∀ j, ¬ (6 * kd ≤ j ∧ j < 6 * kd + 6) → I' 93 0 j = I 93 0 j) ∧ ∀ s, s ≠ 93 → s ≠ 94 → s ≠ 95 → s ≠ 96 → I' s = I s))) := by
  have loop31 : ∀ (n : Nat) (k : Nat) (I1 : Nat → Nat → Nat → Int32), mn - k < n → k ≤ mn → c = 1 → (∀ i, i < k → I1 93 0 (6 * kd + i) = I 92 0 i) → (∀ j, ¬ (6 * kd ≤ j ∧ j < 6 * kd + 6) → I1 93 0 j = I 93 0 j) → (∀ s, s ≠ 93 → I1 s = (xu (xu (xu I 94 0 kd (nI mn)) 95 0 kd (nI hh)) 96 0 kd (nI dd)) s) → X G vX13_takes (d) (0, 0) 31 [(0, some (.ref (ad 13 0))), (1, some (.int (nI (kd)))), (2, some (.int (nI (mn)))), (3, some (.int (nI (hh)))), (4, some (.int (nI (dd)))), (6, some (.int (nI (k))))] [] (MM ad nb b r I1 L) (xT G (qV (fun M' => ∃ I', M' = MM ad nb b r I' L ∧ (c = 0 → I' = I) ∧ (c = 1 → (I' 94 0 kd = nI mn ∧ I' 95 0 kd = nI hh ∧ I' 96 0 kd = nI dd ∧ ∀ i, i < mn → I' 93 0 (6 * kd + i) = I 92 0 i) ∧ (∀ j, j ≠ kd → I' 94 0 j = I 94 0 j ∧ I' 95 0 j = I 95 0 j ∧ I' 96 0 j = I 96 0 j) ∧ (∀ j, ¬ (6 * kd ≤ j ∧ j < 6 * kd + 6) → I' 93 0 j = I 93 0 j) ∧ ∀ s, s ≠ 93 → s ≠ 94 → s ≠ 95 → s ≠ 96 → I' s = I s)))) := by
    intro n
    induction n with
    | zero => intro k I1 h0; omega
    | succ n ih =>
      intro k I1 hn hk hc1 h1 h2 hs
      refine x_iload dX13_takes_31 rfl ?_
      refine x_iload_n dX13_takes_33 rfl ?_
      refine x_icN_ge 62 dX13_takes_34 (by decide) (by omega) (by omega) (fun h34 => ?_) (fun h34 => ?_)
      · refine x_vret dX13_takes_62 rfl ?_
        obtain rfl : k = mn := by omega
        refine ⟨rfl, _, rfl, fun z => absurd hc1 (by omega), fun _ => ⟨⟨?_, ?_, ?_, h1⟩, fun j hj => ⟨?_, ?_, ?_⟩, h2, fun s a3 a4 a5 a6 => ?_⟩⟩
        · rw [hs 94 (by decide), xu_ns (by decide), xu_ns (by decide), xu_s]
        · rw [hs 95 (by decide), xu_ns (by decide), xu_s]
        · rw [hs 96 (by decide), xu_s]
        · rw [hs 94 (by decide), xu_ns (by decide), xu_ns (by decide), xu_nk hj]
        · rw [hs 95 (by decide), xu_ns (by decide), xu_nk hj, xu_ns (by decide)]
        · rw [hs 96 (by decide), xu_nk hj, xu_ns (by decide), xu_ns (by decide)]
        · rw [hs s a3]; funext x y; rw [xu_ns a6, xu_ns a5, xu_ns a4]
      · refine x_aload_n dX13_takes_37 rfl ?_
        refine g_M_best fX13_42 dX13_takes_38 ?_
        refine x_bipush dX13_takes_41 lb_6 ?_
        refine x_iload_n dX13_takes_43 rfl ?_
        refine x_imulN dX13_takes_44 ?_
        refine x_iload dX13_takes_45 rfl ?_
        refine x_iaddN dX13_takes_47 ?_
        refine x_aload_n dX13_takes_48 rfl ?_
        refine g_M_way fX13_39 dX13_takes_49 ?_
        refine x_iload dX13_takes_52 rfl ?_
        refine x_iald dX13_takes_54 rfl rfl (Nat.le_of_ble_eq_true rfl) (by first | exact Nat.le_of_ble_eq_true rfl | assumption | omega) ?_
        refine x_iast dX13_takes_55 rfl rfl (Nat.le_of_ble_eq_true rfl) (by first | exact Nat.le_of_ble_eq_true rfl | assumption | omega) ?_
        refine x_iincN 1 dX13_takes_56 li_1 rfl (by decide) rfl ?_
        refine x_goto 31 dX13_takes_59 (by decide) ?_
        refine x_ls ?_ (ih (k + 1) _ (by omega) (by omega) hc1 (fun i hi => ?_) (fun j hj => ?_) (fun s h1 => ?_))
        · exact ⟨rfl, rfl, rfl, rfl, rfl, rfl, trivial⟩
        · rw [xu_at]
          by_cases e0 : i = k
          · rw [if_pos (by omega), e0, hs 92 (by decide), xu_ns (by decide), xu_ns (by decide), xu_ns (by decide)]
          · rw [if_neg (by omega)]; exact h1 i (by omega)
        · rw [xu_nk (by omega)]; exact h2 j hj
        · rw [← hs s h1]; funext x y; rw [xu_ns h1]
  refine x_start (by decide) (Nat.le_of_ble_eq_true rfl) ?_
  refine x_iload dX13_takes_0 rfl ?_
  refine x_ifN_ne 6 dX13_takes_2 (by decide) (by omega) (fun h2 => ?_) (fun h2 => ?_)
  · refine x_aload_n dX13_takes_6 rfl ?_
    refine g_M_bestSize fX13_45 dX13_takes_7 ?_
    refine x_iload_n dX13_takes_10 rfl ?_
    refine x_iload_n dX13_takes_11 rfl ?_
    refine x_iast dX13_takes_12 rfl rfl (Nat.le_of_ble_eq_true rfl) (by first | exact Nat.le_of_ble_eq_true rfl | assumption | omega) ?_
    refine x_aload_n dX13_takes_13 rfl ?_
    refine g_M_bestHours fX13_48 dX13_takes_14 ?_
    refine x_iload_n dX13_takes_17 rfl ?_
    refine x_iload_n dX13_takes_18 rfl ?_
    refine x_iast dX13_takes_19 rfl rfl (Nat.le_of_ble_eq_true rfl) (by first | exact Nat.le_of_ble_eq_true rfl | assumption | omega) ?_
    refine x_aload_n dX13_takes_20 rfl ?_
    refine g_M_bestDuty fX13_51 dX13_takes_21 ?_
    refine x_iload_n dX13_takes_24 rfl ?_
    refine x_iload dX13_takes_25 rfl ?_
    refine x_iast dX13_takes_27 rfl rfl (Nat.le_of_ble_eq_true rfl) (by first | exact Nat.le_of_ble_eq_true rfl | assumption | omega) ?_
    refine x_iconst dX13_takes_28 li_0 ?_
    refine x_istore dX13_takes_29 (by decide) rfl ?_
    refine x_ls ?_ (loop31 (mn + 1) 0 _ (by omega) (by omega) (by omega) (fun i hi => absurd hi (Nat.not_lt_zero i)) (fun j _ => by rw [xu_ns (by decide), xu_ns (by decide), xu_ns (by decide)]) (fun _ _ => rfl))
    exact ⟨rfl, rfl, rfl, rfl, rfl, rfl, trivial⟩
  · refine x_vret dX13_takes_5 rfl ?_
    exact ⟨rfl, _, rfl, fun _ => rfl, fun z => absurd z (by omega)⟩
end M13
