section Trace2
variable {G : xG} {ad : Nat → Nat → Nat} {nb : Nat} {b r : Option Nat} {L : Nat → Nat → Nat → Int64} {V : sV} {I : Nat → Nat → Nat → Int32} {d : Nat}

def bmq (V : sV) (f : Nat) (w : List Nat) (p : Nat) (h : Nat → Nat) (n : Nat) : List (List Nat) := (List.range n).flatMap (fun q => if 0 < V 7 p q ∧ q ∉ w ++ [p] then bm V f (w ++ [p]) q (fun s => cmf V h p s - fd (V 2 s 0) * V 7 p q) else [])
theorem bmq_s {f p n : Nat} {w : List Nat} {h : Nat → Nat} : bmq V f w p h (n + 1) = bmq V f w p h n ++ (if 0 < V 7 p n ∧ n ∉ w ++ [p] then bm V f (w ++ [p]) n (fun s => cmf V h p s - fd (V 2 s 0) * V 7 p n) else []) := rg_succ _ n
def bm1 (V : sV) (w : List Nat) (p : Nat) (h : Nat → Nat) : List (List Nat) := if okw V (cmf V h p) (V 0 2 0) = true then [w ++ [p]] else []
theorem bm_s {f p : Nat} {w : List Nat} {h : Nat → Nat} : bm V (f + 1) w p h = bm1 V w p h ++ bmq V f w p h (V 0 4 0) := rfl
theorem cmf_le {h : Nat → Nat} {p s : Nat} (hV : VW V) (hh : h s ≤ 198) : cmf V h p s ≤ 198 := by
  have := hV.2.2.2.2.2.2.2.2.2.2.2.2.2.2.2.2.2.1 p s
  unfold cmf
  omega
def sT (s : Nat) : Prop := s = 8 ∨ s = 56 ∨ s = 57 ∨ s = 59

set_option maxRecDepth 100000 in
set_option maxHeartbeats 4000000 in
theorem c_come (hV : VW V) (h00 : 0 < V 0 0 0) : ∀ (f : Nat) (w : List Nat) (p : Nat) (h : Nat → Nat) (T : List (List Nat)) (I : Nat → Nat → Nat → Int32), XB V 0 I → w.length + (f + 1) = 4 → p < V 0 4 0 → (∀ q ∈ w, q < V 0 4 0) → TS T I → (∀ s, s < V 0 2 0 → I 59 w.length s = nI (h s) ∧ h s ≤ 198) → (∀ j, j < w.length → I 57 0 j = nI ((w ++ [p]).getD j 0)) → Mt G vX8_come (d + f + 3) (0, 0) [.ref (ad 8 0), .int (nI (w.length)), .int (nI (p)), .int (nI (sbit (w ++ [p])))] (MM ad nb b r I L) (qV (fun M' => ∃ I', M' = MM ad nb b r I' L ∧ TS (T ++ bm V (f + 1) w p h) I' ∧ (∀ j, j < w.length → I' 57 0 j = I 57 0 j ∧ I' 59 j = I 59 j) ∧ Sm sT I I')) := by
  have hp6 := hV.2.2.2.2.1
  have hs6 := hV.2.2.1
  intro f
  induction f with
  | zero =>
    intro w p h T I hB hf hp hq hT hh hpre
    have hql : ∀ q ∈ w ++ [p], q < V 0 4 0 := by
      intro q hq1
      rcases List.mem_append.mp hq1 with h | h
      · exact hq q h
      · rw [List.mem_singleton.mp h]; exact hp
    have hsb := sbit_lt (w ++ [p]) (fun q h => by have := hql q h; omega)
    have hlen : (w ++ [p]).length = w.length + 1 := by simp
    have loop3 : ∀ (n k : Nat) (I1 : Nat → Nat → Nat → Int32), 6 - k < n → k ≤ 6 → ((∀ s, s < k → s < V 0 2 0 → I1 59 w.length s = nI (cmf V h p s)) ∧ (∀ s, k ≤ s → I1 59 w.length s = I 59 w.length s) ∧ (∀ a c, ¬ (a = 59 ∧ c = w.length) → I1 a c = I a c)) → X G vX8_come (d + 0 + 3) (0, 0) 3 [(0, some (.ref (ad 8 0))), (1, some (.int (nI (w.length)))), (2, some (.int (nI (p)))), (3, some (.int (nI (sbit (w ++ [p]))))), (4, some (.int (nI (k))))] [] (MM ad nb b r I1 L) (xT G (qV (fun M' => ∃ I', M' = MM ad nb b r I' L ∧ TS (T ++ bm V (0 + 1) w p h) I' ∧ (∀ j, j < w.length → I' 57 0 j = I 57 0 j ∧ I' 59 j = I 59 j) ∧ Sm sT I I'))) := by
      intro n
      induction n with
      | zero => intro k I1 h0; omega
      | succ n ih =>
        intro k I1 hn hk0 hi
        obtain ⟨hi1, hi2, hi3⟩ := hi
        have hB1 : XB V 0 I1 := hB.sm (fun s h1 h2 => funext fun c => hi3 s c (by omega))
        refine x_iload dX8_come_3 rfl ?_
        refine x_bipush dX8_come_5 lb_6 ?_
        refine x_icN_ge 49 dX8_come_7 (by decide) (by omega) (by omega) (fun h7 => ?_) (fun h7 => ?_)
        · have e6 : k = 6 := by omega
          subst e6
          refine x_aload_n dX8_come_49 rfl ?_
          refine g_Trace_row fX8_15 dX8_come_50 ?_
          refine x_iload_n dX8_come_53 rfl ?_
          refine x_iload_n dX8_come_54 rfl ?_
          refine x_iast dX8_come_55 rfl rfl (Nat.le_of_ble_eq_true rfl) (by first | exact Nat.le_of_ble_eq_true rfl | assumption | omega) ?_
          have hBw : XB V 0 (xu I1 57 0 w.length (nI p)) := hB1.sm (fun s h1 h2 => by funext a c; exact xu_ns (by omega))
          have hTw : TS T (xu I1 57 0 w.length (nI p)) := hT.sm (by funext a c; rw [xu_ns (by decide), hi3 8 a (by omega)]) (by funext a c; rw [xu_ns (by decide), hi3 56 a (by omega)])
          have hgw : ∀ s, s < V 0 2 0 → (xu I1 57 0 w.length (nI p)) 59 w.length s = nI (cmf V h p s) ∧ cmf V h p s ≤ 198 := fun s hs => ⟨by rw [xu_ns (by decide)]; exact hi1 s (by omega) hs, cmf_le hV (hh s hs).2⟩
          have hrw : ∀ j, j < w.length + 1 → (xu I1 57 0 w.length (nI p)) 57 0 j = nI ((w ++ [p]).getD j 0) := by
            intro j hj
            rw [xu_at]
            by_cases e : j = w.length
            · rw [if_pos e, e]; simp
            · rw [if_neg e, hi3 57 0 (by omega)]; exact hpre j (by omega)
          have hkp : ∀ j, j < w.length → (xu I1 57 0 w.length (nI p)) 57 0 j = I 57 0 j ∧ (xu I1 57 0 w.length (nI p)) 59 j = I 59 j := fun j hj => ⟨by rw [xu_nk (by omega), hi3 57 0 (by omega)], by funext c; rw [xu_ns (by decide), hi3 59 j (by omega)]⟩
          have hSw : Sm sT I (xu I1 57 0 w.length (nI p)) := fun s hs => by funext c z; rw [xu_ns (fun z => hs (by unfold sT; omega)), hi3 s c (fun z => hs (by unfold sT; omega))]
          refine x_aload_n dX8_come_56 rfl ?_
          refine x_aload_n dX8_come_57 rfl ?_
          refine g_Trace_halves fX8_20 dX8_come_58 ?_
          refine x_iload_n dX8_come_61 rfl ?_
          refine aa_Trace_halves dX8_come_62 rfl (by first | exact Nat.le_of_ble_eq_true rfl | assumption | omega) ?_
          refine x_cvi (c_whiffs hV hBw h00 (j := w.length) (g := cmf V h p) (by omega) hgw) kX8_62 dX8_come_63 rfl (Nat.le_of_ble_eq_true rfl) rfl rfl (Nat.le_of_ble_eq_true rfl) (fun ru Mu hq1 => ?_)
          obtain ⟨rfl, rfl⟩ := hq1
          refine x_if_eq 77 dX8_come_66 (by decide) (fun h66 => ?_) (fun h66 => ?_)
          · have hb1 : bm1 V w p h = [] := by unfold bm1; rw [if_neg (by rw [bI_eq.mp h66]; simp)]
            have hen : TS (T ++ bm1 V w p h) (xu I1 57 0 w.length (nI p)) ∧ (∀ s, s < V 0 2 0 → (xu I1 57 0 w.length (nI p)) 59 w.length s = nI (cmf V h p s)) ∧ (∀ j, j < w.length + 1 → (xu I1 57 0 w.length (nI p)) 57 0 j = nI ((w ++ [p]).getD j 0)) ∧ (∀ j, j < w.length → (xu I1 57 0 w.length (nI p)) 57 0 j = I 57 0 j ∧ (xu I1 57 0 w.length (nI p)) 59 j = I 59 j) ∧ Sm sT I (xu I1 57 0 w.length (nI p)) := ⟨by rw [hb1, List.append_nil]; exact hTw, fun s hs => (hgw s hs).1, hrw, hkp, hSw⟩
            refine x_iload_n dX8_come_77 rfl ?_
            refine x_iconst dX8_come_78 li_1 ?_
            refine x_iaddN dX8_come_79 ?_
            refine x_iconst dX8_come_80 li_4 ?_
            refine x_icN_lt 85 dX8_come_81 (by decide) (by omega) (by omega) (fun h81 => absurd h81 (by omega)) (fun h81 => ?_)
            refine x_vret dX8_come_84 rfl ?_
            obtain ⟨n1, n2, n3, n4, n5⟩ := hen
            have hb0 : bm V (0 + 1) w p h = bm1 V w p h := by
              show bm1 V w p h ++ (List.range (V 0 4 0)).flatMap _ = _
              have : ∀ n, (List.range n).flatMap (fun q => if 0 < V 7 p q ∧ q ∉ w ++ [p] then bm V 0 (w ++ [p]) q (fun s => cmf V h p s - fd (V 2 s 0) * V 7 p q) else []) = [] := by
                intro n
                induction n with
                | zero => rfl
                | succ n ih => rw [rg_succ, ih]; simp [bm]
              rw [this, List.append_nil]
            exact ⟨rfl, _, rfl, by rw [hb0]; exact n1, n4, n5⟩
          · refine x_aload_n dX8_come_69 rfl ?_
            refine x_iload_n dX8_come_70 rfl ?_
            refine x_iconst dX8_come_71 li_1 ?_
            refine x_iaddN dX8_come_72 ?_
            refine x_iload_n dX8_come_73 rfl ?_
            rw [← hlen]
            refine x_cvv (c_tadd (d := d + 0 + 1) (T := T) (w := w ++ [p]) hTw (by omega) (by omega) (fun i hi => hrw i (by omega))) kX8_66 dX8_come_74 rfl (Nat.le_of_ble_eq_true rfl) rfl rfl (Nat.le_of_ble_eq_true rfl) (fun M2 hq2 => ?_)
            obtain ⟨I2, rfl, hT2, hS2⟩ := hq2
            have hb1 : bm1 V w p h = [w ++ [p]] := by unfold bm1; rw [if_pos (bI_ne.mp h66)]
            have hen : TS (T ++ bm1 V w p h) I2 ∧ (∀ s, s < V 0 2 0 → I2 59 w.length s = nI (cmf V h p s)) ∧ (∀ j, j < w.length + 1 → I2 57 0 j = nI ((w ++ [p]).getD j 0)) ∧ (∀ j, j < w.length → I2 57 0 j = I 57 0 j ∧ I2 59 j = I 59 j) ∧ Sm sT I I2 := ⟨by rw [hb1]; exact hT2, fun s hs => by rw [hS2 59 (by omega)]; exact (hgw s hs).1, fun j hj => by rw [hS2 57 (by omega)]; exact hrw j hj, fun j hj => by rw [hS2 57 (by omega), hS2 59 (by omega)]; exact hkp j hj, hSw.tr (hS2.wk (fun s h => by unfold sT; omega))⟩
            refine x_iload_n dX8_come_77 rfl ?_
            refine x_iconst dX8_come_78 li_1 ?_
            refine x_iaddN dX8_come_79 ?_
            refine x_iconst dX8_come_80 li_4 ?_
            refine x_icN_lt 85 dX8_come_81 (by decide) (by omega) (by omega) (fun h81 => absurd h81 (by omega)) (fun h81 => ?_)
            refine x_vret dX8_come_84 rfl ?_
            obtain ⟨n1, n2, n3, n4, n5⟩ := hen
            have hb0 : bm V (0 + 1) w p h = bm1 V w p h := by
              show bm1 V w p h ++ (List.range (V 0 4 0)).flatMap _ = _
              have : ∀ n, (List.range n).flatMap (fun q => if 0 < V 7 p q ∧ q ∉ w ++ [p] then bm V 0 (w ++ [p]) q (fun s => cmf V h p s - fd (V 2 s 0) * V 7 p q) else []) = [] := by
                intro n
                induction n with
                | zero => rfl
                | succ n ih => rw [rg_succ, ih]; simp [bm]
              rw [this, List.append_nil]
            exact ⟨rfl, _, rfl, by rw [hb0]; exact n1, n4, n5⟩
        · refine x_aload_n dX8_come_10 rfl ?_
          refine g_Trace_halves fX8_20 dX8_come_11 ?_
          refine x_iload_n dX8_come_14 rfl ?_
          refine aa_Trace_halves dX8_come_15 rfl (by first | exact Nat.le_of_ble_eq_true rfl | assumption | omega) ?_
          refine x_iload dX8_come_16 rfl ?_
          refine x_aload_n dX8_come_18 rfl ?_
          refine g_Trace_halves fX8_20 dX8_come_19 ?_
          refine x_iload_n dX8_come_22 rfl ?_
          refine aa_Trace_halves dX8_come_23 rfl (by first | exact Nat.le_of_ble_eq_true rfl | assumption | omega) ?_
          refine x_iload dX8_come_24 rfl ?_
          refine x_iald dX8_come_26 rfl rfl (Nat.lt_of_lt_of_le (by first | assumption | omega | decide) (Nat.le_refl 4)) (by first | exact Nat.le_of_ble_eq_true rfl | assumption | omega) ?_
          refine x_aload_n dX8_come_27 rfl ?_
          refine g_Trace_border fX8_23 dX8_come_28 ?_
          refine g_Border_leaves fX8_53 dX8_come_31 (by first | exact Nat.le_of_ble_eq_true rfl | assumption | omega) ?_
          refine x_iload_n dX8_come_34 rfl ?_
          refine aa_Border_leaves0 dX8_come_35 rfl (by first | exact Nat.le_of_ble_eq_true rfl | assumption | omega) ?_
          refine x_iload dX8_come_36 rfl ?_
          refine x_iald dX8_come_38 rfl rfl (Nat.lt_of_lt_of_le (by first | assumption | omega | decide) (Nat.le_refl 12)) (by first | exact Nat.le_of_ble_eq_true rfl | assumption | omega) ?_
          refine x_max dX8_come_39 (xm4 230 rfl rfl) (Nat.le_of_ble_eq_true rfl) ?_
          refine x_iast dX8_come_42 rfl rfl (Nat.lt_of_lt_of_le (by first | assumption | omega | decide) (Nat.le_refl 4)) (by first | exact Nat.le_of_ble_eq_true rfl | assumption | omega) ?_
          refine x_iincN 1 dX8_come_43 li_1 rfl (by decide) rfl ?_
          refine x_goto 3 dX8_come_46 (by decide) ?_
          refine x_ls ?_ (ih (k + 1) _ (by omega) (by omega) ⟨?_, ?_, ?_⟩)
          · exact ⟨rfl, rfl, rfl, rfl, rfl, trivial⟩
          · intro s hs hsn
            rw [xu_at]
            by_cases e : s = k
            · rw [if_pos e]
              subst e
              have hhs := hh s hsn
              have h60 := hV.2.2.2.2.2.2.2.2.2.2.2.2.2.2.2.2.2.1 p s
              have el : I1 33 p s = nI (2 * V 8 p s) := (hB1.2.2.2.2.2.2.2.2.2.1 p s (by omega) (by omega)).2
              rw [hi2 s (Nat.le_refl s), hhs.1, el, nI_max (by omega) (by omega)]
              rfl
            · rw [if_neg e]; exact hi1 s (by omega) hsn
          · intro s hs
            rw [xu_at, if_neg (by omega)]
            exact hi2 s (by omega)
          · intro a c hac
            funext z
            rw [xu_n (fun q => hac ⟨q.1, q.2.1⟩), hi3 a c hac]
    refine x_start (by decide) (Nat.le_of_ble_eq_true rfl) ?_
    refine x_iconst dX8_come_0 li_0 ?_
    refine x_istore dX8_come_1 (by decide) rfl ?_
    refine x_ls ?_ (loop3 7 0 I (by omega) (by omega) ⟨fun s hs => absurd hs (Nat.not_lt_zero s), fun _ _ => rfl, fun _ _ _ => rfl⟩)
    exact ⟨rfl, rfl, rfl, rfl, rfl, trivial⟩
  | succ f ihf =>
    intro w p h T I hB hf hp hq hT hh hpre
    have hql : ∀ q ∈ w ++ [p], q < V 0 4 0 := by
      intro q hq1
      rcases List.mem_append.mp hq1 with h | h
      · exact hq q h
      · rw [List.mem_singleton.mp h]; exact hp
    have hsb := sbit_lt (w ++ [p]) (fun q h => by have := hql q h; omega)
    have hlen : (w ++ [p]).length = w.length + 1 := by simp
    have loop88 : ∀ (n k : Nat) (I1 : Nat → Nat → Nat → Int32), V 0 4 0 - k < n → k ≤ V 0 4 0 → (TS (T ++ bm1 V w p h ++ bmq V (f + 1) w p h k) I1 ∧ (∀ s, s < V 0 2 0 → I1 59 w.length s = nI (cmf V h p s)) ∧ (∀ j, j < w.length + 1 → I1 57 0 j = nI ((w ++ [p]).getD j 0)) ∧ (∀ j, j < w.length → I1 57 0 j = I 57 0 j ∧ I1 59 j = I 59 j) ∧ Sm sT I I1) → X G vX8_come (d + (f + 1) + 3) (0, 0) 88 [(0, some (.ref (ad 8 0))), (1, some (.int (nI (w.length)))), (2, some (.int (nI (p)))), (3, some (.int (nI (sbit (w ++ [p]))))), (4, some (.int (nI (k))))] [] (MM ad nb b r I1 L) (xT G (qV (fun M' => ∃ I', M' = MM ad nb b r I' L ∧ TS (T ++ bm V (f + 1 + 1) w p h) I' ∧ (∀ j, j < w.length → I' 57 0 j = I 57 0 j ∧ I' 59 j = I 59 j) ∧ Sm sT I I'))) := by
      intro n
      induction n with
      | zero => intro k I1 h0; omega
      | succ n ih =>
        intro k I1 hn hk0 hi
        obtain ⟨hi1, hi2, hi3, hi4, hi5⟩ := hi
        have hB1 : XB V 0 I1 := hB.sm (fun s h1 h2 => hi5 s (by unfold sT; omega))
        have e4 : I1 16 0 4 = nI (V 0 4 0) := hB1.1 4 (by omega)
        refine x_iload dX8_come_88 rfl ?_
        refine x_aload_n dX8_come_90 rfl ?_
        refine g_Trace_border fX8_23 dX8_come_91 ?_
        refine g_Border_sizes fX8_44 dX8_come_94 (by first | exact Nat.le_of_ble_eq_true rfl | assumption | omega) ?_
        refine x_iconst dX8_come_97 li_4 ?_
        refine x_iald dX8_come_98 rfl rfl (Nat.lt_of_lt_of_le (by first | assumption | omega | decide) (Nat.le_refl 2)) (by first | exact Nat.le_of_ble_eq_true rfl | assumption | omega) ?_
        rw [e4]
        refine x_icN_ge 189 dX8_come_99 (by decide) (by omega) (by omega) (fun h99 => ?_) (fun h99 => ?_)
        · refine x_vret dX8_come_189 rfl ?_
          have hkn : k = V 0 4 0 := Nat.le_antisymm hk0 h99
          subst hkn
          exact ⟨rfl, _, rfl, by rw [bm_s, ← List.append_assoc]; exact hi1, hi4, hi5⟩
        · refine x_aload_n dX8_come_102 rfl ?_
          refine g_Trace_border fX8_23 dX8_come_103 ?_
          refine g_Border_hours fX8_70 dX8_come_106 (by first | exact Nat.le_of_ble_eq_true rfl | assumption | omega) ?_
          refine x_iload_n dX8_come_109 rfl ?_
          refine aa_Border_hours0 dX8_come_110 rfl (by first | exact Nat.le_of_ble_eq_true rfl | assumption | omega) ?_
          refine x_iload dX8_come_111 rfl ?_
          refine x_iald dX8_come_113 rfl rfl (Nat.lt_of_lt_of_le (by first | assumption | omega | decide) (Nat.le_refl 12)) (by first | exact Nat.le_of_ble_eq_true rfl | assumption | omega) ?_
          have eh : I1 31 p k = nI (V 7 p k) := (hB1.2.2.2.2.2.2.2.2.2.1 _ _ (by omega) (by omega)).1
          have h40 := hV.2.2.2.2.2.2.2.2.2.2.2.2.2.2.2.2.1 p k
          rw [eh]
          refine x_istore dX8_come_114 (by decide) rfl ?_
          refine x_iload dX8_come_116 rfl ?_
          refine x_ifN_le 183 dX8_come_118 (by decide) (by omega) (fun h118 => ?_) (fun h118 => ?_)
          · have hnx : (TS (T ++ bm1 V w p h ++ bmq V (f + 1) w p h (k + 1)) I1 ∧ (∀ s, s < V 0 2 0 → I1 59 w.length s = nI (cmf V h p s)) ∧ (∀ j, j < w.length + 1 → I1 57 0 j = nI ((w ++ [p]).getD j 0)) ∧ (∀ j, j < w.length → I1 57 0 j = I 57 0 j ∧ I1 59 j = I 59 j) ∧ Sm sT I I1) := by
              rw [bmq_s, if_neg (fun z => by omega), List.append_nil]
              exact ⟨hi1, hi2, hi3, hi4, hi5⟩
            refine x_iincN 1 dX8_come_183 li_1 rfl (by decide) rfl ?_
            refine x_goto 88 dX8_come_186 (by decide) ?_
            refine x_ls ?_ (ih (k + 1) _ (by omega) (by omega) hnx)
            exact ⟨rfl, rfl, rfl, rfl, rfl, trivial⟩
          · refine x_iload_n dX8_come_121 rfl ?_
            refine x_iload dX8_come_122 rfl ?_
            refine x_ishr dX8_come_124 ?_
            refine x_iconst dX8_come_125 li_1 ?_
            refine x_iand dX8_come_126 ?_
            refine x_if_ne 183 dX8_come_127 (by decide) (fun h127 => ?_) (fun h127 => ?_)
            · have hnx : (TS (T ++ bm1 V w p h ++ bmq V (f + 1) w p h (k + 1)) I1 ∧ (∀ s, s < V 0 2 0 → I1 59 w.length s = nI (cmf V h p s)) ∧ (∀ j, j < w.length + 1 → I1 57 0 j = nI ((w ++ [p]).getD j 0)) ∧ (∀ j, j < w.length → I1 57 0 j = I 57 0 j ∧ I1 59 j = I 59 j) ∧ Sm sT I I1) := by
                rw [bmq_s, if_neg (fun z => h127 ((bt_tst _ hsb k (by omega)).mpr (by cases hb : (sbit (w ++ [p])).testBit k with | false => rfl | true => exact absurd ((sbit_in k _).mp hb) z.2))), List.append_nil]
                exact ⟨hi1, hi2, hi3, hi4, hi5⟩
              refine x_iincN 1 dX8_come_183 li_1 rfl (by decide) rfl ?_
              refine x_goto 88 dX8_come_186 (by decide) ?_
              refine x_ls ?_ (ih (k + 1) _ (by omega) (by omega) hnx)
              exact ⟨rfl, rfl, rfl, rfl, rfl, trivial⟩
            · have hns : k ∉ w ++ [p] := fun z => by
                have := (bt_tst _ hsb k (by omega)).mp h127
                rw [(sbit_in k (w ++ [p])).mpr z] at this
                cases this
              have hcall := bmq_s (V := V) (f := f + 1) (p := p) (n := k) (w := w) (h := h)
              rw [if_pos ⟨h118, hns⟩] at hcall
              refine x_aload_n dX8_come_130 rfl ?_
              refine g_Trace_halves fX8_20 dX8_come_131 ?_
              refine x_iload_n dX8_come_134 rfl ?_
              refine aa_Trace_halves dX8_come_135 rfl (by first | exact Nat.le_of_ble_eq_true rfl | assumption | omega) ?_
              refine x_iconst dX8_come_136 li_0 ?_
              refine x_aload_n dX8_come_137 rfl ?_
              refine g_Trace_halves fX8_20 dX8_come_138 ?_
              refine x_iload_n dX8_come_141 rfl ?_
              refine x_iconst dX8_come_142 li_1 ?_
              refine x_iaddN dX8_come_143 ?_
              refine aa_Trace_halves dX8_come_144 rfl (by first | exact Nat.le_of_ble_eq_true rfl | assumption | omega) ?_
              refine x_iconst dX8_come_145 li_0 ?_
              refine x_bipush dX8_come_146 lb_6 ?_
              refine x_copy dX8_come_148 (xm4 239 rfl rfl) rfl rfl rfl rfl rfl (Nat.lt_of_lt_of_le (by first | assumption | omega | decide) (Nat.le_refl 4)) (Nat.lt_of_lt_of_le (by first | assumption | omega | decide) (Nat.le_refl 4)) (by first | exact Nat.le_of_ble_eq_true rfl | assumption | omega) (by first | exact Nat.le_of_ble_eq_true rfl | assumption | omega) (Nat.le_of_ble_eq_true rfl) ?_
              have hBc : XB V 0 (xur I1 59 (w.length + 1) (va_cpy (I1 59 w.length) (I1 59 (w.length + 1)) 0 0 6)) := hB1.sm (fun s h1 h2 => funext fun c => xur_ns (by omega))
              have hfc : ∀ s, s < V 0 2 0 → xur I1 59 (w.length + 1) (va_cpy (I1 59 w.length) (I1 59 (w.length + 1)) 0 0 6) 59 (w.length + 1) s = nI (cmf V h p s) ∧ cmf V h p s ≤ 198 := by
                intro s hs
                refine ⟨?_, cmf_le hV (hh s hs).2⟩
                rw [xur_s, pk_cpy_in (by omega) (by omega)]
                simpa using hi2 s hs
              refine x_aload_n dX8_come_151 rfl ?_
              refine g_Trace_air fX8_27 dX8_come_152 ?_
              refine x_aload_n dX8_come_155 rfl ?_
              refine g_Trace_halves fX8_20 dX8_come_156 ?_
              refine x_iload_n dX8_come_159 rfl ?_
              refine x_iconst dX8_come_160 li_1 ?_
              refine x_iaddN dX8_come_161 ?_
              refine aa_Trace_halves dX8_come_162 rfl (by first | exact Nat.le_of_ble_eq_true rfl | assumption | omega) ?_
              refine x_iload dX8_come_163 rfl ?_
              refine x_cvv (c_fade (h := 59) (j := w.length + 1) (f := cmf V h p) rfl (by omega) (Nat.lt_of_lt_of_le (show w.length + 1 < 4 by omega) (Nat.le_refl 4)) hV hBc hfc (by omega)) kX8_79 dX8_come_165 rfl (Nat.le_of_ble_eq_true rfl) rfl rfl (Nat.le_of_ble_eq_true rfl) (fun M2 hq2 => ?_)
              obtain ⟨I2, rfl, hF1, hF2, hF3⟩ := hq2
              have hB2 : XB V 0 I2 := hBc.sm (fun s h1 h2 => funext fun c => hF3 s c (by omega))
              have e57 : I2 57 = I1 57 := funext fun c => by rw [hF3 57 c (by omega), xur_ns (by decide)]
              have e59 : ∀ j, j ≠ w.length + 1 → I2 59 j = I1 59 j := fun j hj => by rw [hF3 59 j (by omega), xur_ni hj]
              have hT2 : TS (T ++ bm1 V w p h ++ bmq V (f + 1) w p h k) I2 := hi1.sm (funext fun c => by rw [hF3 8 c (by omega), xur_ns (by decide)]) (funext fun c => by rw [hF3 56 c (by omega), xur_ns (by decide)])
              refine x_aload_n dX8_come_168 rfl ?_
              refine x_iload_n dX8_come_169 rfl ?_
              refine x_iconst dX8_come_170 li_1 ?_
              refine x_iaddN dX8_come_171 ?_
              refine x_iload dX8_come_172 rfl ?_
              refine x_iload_n dX8_come_174 rfl ?_
              refine x_iconst dX8_come_175 li_1 ?_
              refine x_iload dX8_come_176 rfl ?_
              refine x_ishl dX8_come_178 ?_
              rw [sh1 k (by omega)]
              refine x_ior dX8_come_179 ?_
              rw [nI_or, ← sbit_app, ← hlen]
              refine x_cvv (ihf (w ++ [p]) k (fun s => cmf V h p s - fd (V 2 s 0) * V 7 p k) (T ++ bm1 V w p h ++ bmq V (f + 1) w p h k) I2 hB2 (by omega) (by omega) hql hT2 (fun s hs => ⟨by rw [hlen]; exact hF1 s hs, by have := cmf_le (p := p) hV (hh s hs).2; omega⟩) ?_) kX8_49 dX8_come_180 rfl (Nat.le_of_ble_eq_true rfl) rfl rfl (Nat.le_of_ble_eq_true rfl) (fun M3 hq3 => ?_)
              · intro j hj
                rw [hlen] at hj
                rw [e57, hi3 j hj]
                simp only [List.getD_eq_getElem?_getD]
                rw [List.getElem?_append_left (l₁ := w ++ [p]) (by omega)]
              obtain ⟨I3, rfl, hT3, hP3, hS3⟩ := hq3
              have hnx : (TS (T ++ bm1 V w p h ++ bmq V (f + 1) w p h (k + 1)) I3 ∧ (∀ s, s < V 0 2 0 → I3 59 w.length s = nI (cmf V h p s)) ∧ (∀ j, j < w.length + 1 → I3 57 0 j = nI ((w ++ [p]).getD j 0)) ∧ (∀ j, j < w.length → I3 57 0 j = I 57 0 j ∧ I3 59 j = I 59 j) ∧ Sm sT I I3) := by
                refine ⟨by rw [hcall, ← List.append_assoc]; exact hT3, fun s hs => ?_, fun j hj => ?_, fun j hj => ?_, fun s hs => ?_⟩
                · rw [(hP3 w.length (by omega)).2, e59 _ (by omega)]; exact hi2 s hs
                · rw [(hP3 j (by omega)).1, e57]; exact hi3 j hj
                · rw [(hP3 j (by omega)).1, (hP3 j (by omega)).2, e57, e59 _ (by omega)]; exact hi4 j hj
                · rw [hS3 s hs, ← hi5 s hs]; funext c; rw [hF3 s c (fun z => hs (by unfold sT; omega)), xur_ns (fun z => hs (by unfold sT; omega))]
              refine x_iincN 1 dX8_come_183 li_1 rfl (by decide) rfl ?_
              refine x_goto 88 dX8_come_186 (by decide) ?_
              refine x_ls ?_ (ih (k + 1) _ (by omega) (by omega) hnx)
              exact ⟨rfl, rfl, rfl, rfl, rfl, trivial⟩
    have loop3 : ∀ (n k : Nat) (I1 : Nat → Nat → Nat → Int32), 6 - k < n → k ≤ 6 → ((∀ s, s < k → s < V 0 2 0 → I1 59 w.length s = nI (cmf V h p s)) ∧ (∀ s, k ≤ s → I1 59 w.length s = I 59 w.length s) ∧ (∀ a c, ¬ (a = 59 ∧ c = w.length) → I1 a c = I a c)) → X G vX8_come (d + (f + 1) + 3) (0, 0) 3 [(0, some (.ref (ad 8 0))), (1, some (.int (nI (w.length)))), (2, some (.int (nI (p)))), (3, some (.int (nI (sbit (w ++ [p]))))), (4, some (.int (nI (k))))] [] (MM ad nb b r I1 L) (xT G (qV (fun M' => ∃ I', M' = MM ad nb b r I' L ∧ TS (T ++ bm V (f + 1 + 1) w p h) I' ∧ (∀ j, j < w.length → I' 57 0 j = I 57 0 j ∧ I' 59 j = I 59 j) ∧ Sm sT I I'))) := by
      intro n
      induction n with
      | zero => intro k I1 h0; omega
      | succ n ih =>
        intro k I1 hn hk0 hi
        obtain ⟨hi1, hi2, hi3⟩ := hi
        have hB1 : XB V 0 I1 := hB.sm (fun s h1 h2 => funext fun c => hi3 s c (by omega))
        refine x_iload dX8_come_3 rfl ?_
        refine x_bipush dX8_come_5 lb_6 ?_
        refine x_icN_ge 49 dX8_come_7 (by decide) (by omega) (by omega) (fun h7 => ?_) (fun h7 => ?_)
        · have e6 : k = 6 := by omega
          subst e6
          refine x_aload_n dX8_come_49 rfl ?_
          refine g_Trace_row fX8_15 dX8_come_50 ?_
          refine x_iload_n dX8_come_53 rfl ?_
          refine x_iload_n dX8_come_54 rfl ?_
          refine x_iast dX8_come_55 rfl rfl (Nat.le_of_ble_eq_true rfl) (by first | exact Nat.le_of_ble_eq_true rfl | assumption | omega) ?_
          have hBw : XB V 0 (xu I1 57 0 w.length (nI p)) := hB1.sm (fun s h1 h2 => by funext a c; exact xu_ns (by omega))
          have hTw : TS T (xu I1 57 0 w.length (nI p)) := hT.sm (by funext a c; rw [xu_ns (by decide), hi3 8 a (by omega)]) (by funext a c; rw [xu_ns (by decide), hi3 56 a (by omega)])
          have hgw : ∀ s, s < V 0 2 0 → (xu I1 57 0 w.length (nI p)) 59 w.length s = nI (cmf V h p s) ∧ cmf V h p s ≤ 198 := fun s hs => ⟨by rw [xu_ns (by decide)]; exact hi1 s (by omega) hs, cmf_le hV (hh s hs).2⟩
          have hrw : ∀ j, j < w.length + 1 → (xu I1 57 0 w.length (nI p)) 57 0 j = nI ((w ++ [p]).getD j 0) := by
            intro j hj
            rw [xu_at]
            by_cases e : j = w.length
            · rw [if_pos e, e]; simp
            · rw [if_neg e, hi3 57 0 (by omega)]; exact hpre j (by omega)
          have hkp : ∀ j, j < w.length → (xu I1 57 0 w.length (nI p)) 57 0 j = I 57 0 j ∧ (xu I1 57 0 w.length (nI p)) 59 j = I 59 j := fun j hj => ⟨by rw [xu_nk (by omega), hi3 57 0 (by omega)], by funext c; rw [xu_ns (by decide), hi3 59 j (by omega)]⟩
          have hSw : Sm sT I (xu I1 57 0 w.length (nI p)) := fun s hs => by funext c z; rw [xu_ns (fun z => hs (by unfold sT; omega)), hi3 s c (fun z => hs (by unfold sT; omega))]
          refine x_aload_n dX8_come_56 rfl ?_
          refine x_aload_n dX8_come_57 rfl ?_
          refine g_Trace_halves fX8_20 dX8_come_58 ?_
          refine x_iload_n dX8_come_61 rfl ?_
          refine aa_Trace_halves dX8_come_62 rfl (by first | exact Nat.le_of_ble_eq_true rfl | assumption | omega) ?_
          refine x_cvi (c_whiffs hV hBw h00 (j := w.length) (g := cmf V h p) (by omega) hgw) kX8_62 dX8_come_63 rfl (Nat.le_of_ble_eq_true rfl) rfl rfl (Nat.le_of_ble_eq_true rfl) (fun ru Mu hq1 => ?_)
          obtain ⟨rfl, rfl⟩ := hq1
          refine x_if_eq 77 dX8_come_66 (by decide) (fun h66 => ?_) (fun h66 => ?_)
          · have hb1 : bm1 V w p h = [] := by unfold bm1; rw [if_neg (by rw [bI_eq.mp h66]; simp)]
            have hen : TS (T ++ bm1 V w p h) (xu I1 57 0 w.length (nI p)) ∧ (∀ s, s < V 0 2 0 → (xu I1 57 0 w.length (nI p)) 59 w.length s = nI (cmf V h p s)) ∧ (∀ j, j < w.length + 1 → (xu I1 57 0 w.length (nI p)) 57 0 j = nI ((w ++ [p]).getD j 0)) ∧ (∀ j, j < w.length → (xu I1 57 0 w.length (nI p)) 57 0 j = I 57 0 j ∧ (xu I1 57 0 w.length (nI p)) 59 j = I 59 j) ∧ Sm sT I (xu I1 57 0 w.length (nI p)) := ⟨by rw [hb1, List.append_nil]; exact hTw, fun s hs => (hgw s hs).1, hrw, hkp, hSw⟩
            refine x_iload_n dX8_come_77 rfl ?_
            refine x_iconst dX8_come_78 li_1 ?_
            refine x_iaddN dX8_come_79 ?_
            refine x_iconst dX8_come_80 li_4 ?_
            refine x_icN_lt 85 dX8_come_81 (by decide) (by omega) (by omega) (fun h81 => ?_) (fun h81 => absurd h81 (by omega))
            refine x_iconst dX8_come_85 li_0 ?_
            refine x_istore dX8_come_86 (by decide) rfl ?_
            obtain ⟨n1, n2, n3, n4, n5⟩ := hen
            have hbq : bmq V (f + 1) w p h 0 = [] := rfl
            refine x_ls ?_ (loop88 (V 0 4 0 + 1) 0 _ (by omega) (by omega) ⟨by rw [hbq, List.append_nil]; exact n1, n2, n3, n4, n5⟩)
            exact ⟨rfl, rfl, rfl, rfl, rfl, trivial⟩
          · refine x_aload_n dX8_come_69 rfl ?_
            refine x_iload_n dX8_come_70 rfl ?_
            refine x_iconst dX8_come_71 li_1 ?_
            refine x_iaddN dX8_come_72 ?_
            refine x_iload_n dX8_come_73 rfl ?_
            rw [← hlen]
            refine x_cvv (c_tadd (d := d + f + 1 + 1) (T := T) (w := w ++ [p]) hTw (by omega) (by omega) (fun i hi => hrw i (by omega))) kX8_66 dX8_come_74 rfl (Nat.le_of_ble_eq_true rfl) rfl rfl (Nat.le_of_ble_eq_true rfl) (fun M2 hq2 => ?_)
            obtain ⟨I2, rfl, hT2, hS2⟩ := hq2
            have hb1 : bm1 V w p h = [w ++ [p]] := by unfold bm1; rw [if_pos (bI_ne.mp h66)]
            have hen : TS (T ++ bm1 V w p h) I2 ∧ (∀ s, s < V 0 2 0 → I2 59 w.length s = nI (cmf V h p s)) ∧ (∀ j, j < w.length + 1 → I2 57 0 j = nI ((w ++ [p]).getD j 0)) ∧ (∀ j, j < w.length → I2 57 0 j = I 57 0 j ∧ I2 59 j = I 59 j) ∧ Sm sT I I2 := ⟨by rw [hb1]; exact hT2, fun s hs => by rw [hS2 59 (by omega)]; exact (hgw s hs).1, fun j hj => by rw [hS2 57 (by omega)]; exact hrw j hj, fun j hj => by rw [hS2 57 (by omega), hS2 59 (by omega)]; exact hkp j hj, hSw.tr (hS2.wk (fun s h => by unfold sT; omega))⟩
            refine x_iload_n dX8_come_77 rfl ?_
            refine x_iconst dX8_come_78 li_1 ?_
            refine x_iaddN dX8_come_79 ?_
            refine x_iconst dX8_come_80 li_4 ?_
            refine x_icN_lt 85 dX8_come_81 (by decide) (by omega) (by omega) (fun h81 => ?_) (fun h81 => absurd h81 (by omega))
            refine x_iconst dX8_come_85 li_0 ?_
            refine x_istore dX8_come_86 (by decide) rfl ?_
            obtain ⟨n1, n2, n3, n4, n5⟩ := hen
            have hbq : bmq V (f + 1) w p h 0 = [] := rfl
            refine x_ls ?_ (loop88 (V 0 4 0 + 1) 0 _ (by omega) (by omega) ⟨by rw [hbq, List.append_nil]; exact n1, n2, n3, n4, n5⟩)
            exact ⟨rfl, rfl, rfl, rfl, rfl, trivial⟩
        · refine x_aload_n dX8_come_10 rfl ?_
          refine g_Trace_halves fX8_20 dX8_come_11 ?_
          refine x_iload_n dX8_come_14 rfl ?_
          refine aa_Trace_halves dX8_come_15 rfl (by first | exact Nat.le_of_ble_eq_true rfl | assumption | omega) ?_
          refine x_iload dX8_come_16 rfl ?_
          refine x_aload_n dX8_come_18 rfl ?_
          refine g_Trace_halves fX8_20 dX8_come_19 ?_
          refine x_iload_n dX8_come_22 rfl ?_
          refine aa_Trace_halves dX8_come_23 rfl (by first | exact Nat.le_of_ble_eq_true rfl | assumption | omega) ?_
          refine x_iload dX8_come_24 rfl ?_
          refine x_iald dX8_come_26 rfl rfl (Nat.lt_of_lt_of_le (by first | assumption | omega | decide) (Nat.le_refl 4)) (by first | exact Nat.le_of_ble_eq_true rfl | assumption | omega) ?_
          refine x_aload_n dX8_come_27 rfl ?_
          refine g_Trace_border fX8_23 dX8_come_28 ?_
          refine g_Border_leaves fX8_53 dX8_come_31 (by first | exact Nat.le_of_ble_eq_true rfl | assumption | omega) ?_
          refine x_iload_n dX8_come_34 rfl ?_
          refine aa_Border_leaves0 dX8_come_35 rfl (by first | exact Nat.le_of_ble_eq_true rfl | assumption | omega) ?_
          refine x_iload dX8_come_36 rfl ?_
          refine x_iald dX8_come_38 rfl rfl (Nat.lt_of_lt_of_le (by first | assumption | omega | decide) (Nat.le_refl 12)) (by first | exact Nat.le_of_ble_eq_true rfl | assumption | omega) ?_
          refine x_max dX8_come_39 (xm4 230 rfl rfl) (Nat.le_of_ble_eq_true rfl) ?_
          refine x_iast dX8_come_42 rfl rfl (Nat.lt_of_lt_of_le (by first | assumption | omega | decide) (Nat.le_refl 4)) (by first | exact Nat.le_of_ble_eq_true rfl | assumption | omega) ?_
          refine x_iincN 1 dX8_come_43 li_1 rfl (by decide) rfl ?_
          refine x_goto 3 dX8_come_46 (by decide) ?_
          refine x_ls ?_ (ih (k + 1) _ (by omega) (by omega) ⟨?_, ?_, ?_⟩)
          · exact ⟨rfl, rfl, rfl, rfl, rfl, trivial⟩
          · intro s hs hsn
            rw [xu_at]
            by_cases e : s = k
            · rw [if_pos e]
              subst e
              have hhs := hh s hsn
              have h60 := hV.2.2.2.2.2.2.2.2.2.2.2.2.2.2.2.2.2.1 p s
              have el : I1 33 p s = nI (2 * V 8 p s) := (hB1.2.2.2.2.2.2.2.2.2.1 p s (by omega) (by omega)).2
              rw [hi2 s (Nat.le_refl s), hhs.1, el, nI_max (by omega) (by omega)]
              rfl
            · rw [if_neg e]; exact hi1 s (by omega) hsn
          · intro s hs
            rw [xu_at, if_neg (by omega)]
            exact hi2 s (by omega)
          · intro a c hac
            funext z
            rw [xu_n (fun q => hac ⟨q.1, q.2.1⟩), hi3 a c hac]
    refine x_start (by decide) (Nat.le_of_ble_eq_true rfl) ?_
    refine x_iconst dX8_come_0 li_0 ?_
    refine x_istore dX8_come_1 (by decide) rfl ?_
    refine x_ls ?_ (loop3 7 0 I (by omega) (by omega) ⟨fun s hs => absurd hs (Nat.not_lt_zero s), fun _ _ => rfl, fun _ _ _ => rfl⟩)
    exact ⟨rfl, rfl, rfl, rfl, rfl, trivial⟩
end Trace2
