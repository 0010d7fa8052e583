section Air
variable {G : xG} {ad : Nat → Nat → Nat} {nb : Nat} {b r : Option Nat} {L : Nat → Nat → Nat → Int64} {V : sV} {I : Nat → Nat → Nat → Int32} {d : Nat}

/-- what air holds: STRENGTHS g, and half the greatest cover -/
def AirAt (V : sV) (g : Nat → Nat) (I : Nat → Nat → Nat → Int32) : Prop := (∀ s, s < V 0 2 0 → I 41 0 s = nI (g s)) ∧ I 1 0 2 = nI (cvr V g (V 0 2 0) / 2)


theorem tk_val {f : Nat → Nat} {H w k : Nat} (hk5 : V 2 k 0 < 5) (hH : H ≤ 1000) (hw : w ≤ 1000) (hf : f k ≤ 198) : (if nI 0 < nI (f k) - nI (fd (V 2 k 0) * H) - nI w then nI (f k) - nI (fd (V 2 k 0) * H) - nI w else nI 0) / nI 2 = nI (str V f H w k) := by
  have hfd := fd_le _ hk5
  have hm : fd (V 2 k 0) * H ≤ 4 * 1000 := Nat.mul_le_mul hfd hH
  rw [i32_sub_sub, nI_add, mx0 (by omega) (by omega), pk_div (by omega) (by omega) (by omega)]
  rfl

set_option maxRecDepth 100000 in
set_option maxHeartbeats 4000000 in
/-- take: STRENGTHS behind hours -/
theorem c_take {h j H w : Nat} {f : Nat → Nat} (hh : xsh h = .inl (0, 6)) (hh1 : h ≠ 41 ∧ h ≠ 1) (hj : j < CC nb h) (hV : VW V) (hB : XB V 0 I) (hf : ∀ s, s < 6 → I h j s = nI (f s) ∧ f s ≤ 198) (hH : H ≤ 1000) (hw : w ≤ 1000) : Mt G vX1_take (d + 1) (0, 0) [.ref (ad 1 0), .ref (ad h j), .int (nI H), .int (nI w)] (MM ad nb b r I L) (qV (fun M' => ∃ I', M' = MM ad nb b r I' L ∧ AirAt V (str V f H w) I' ∧ Sm (fun s => s = 41 ∨ s = 1) I I')) := by
  have loop : ∀ (n k : Nat) (I1 : Nat → Nat → Nat → Int32), V 0 2 0 - k < n → k ≤ V 0 2 0 → ((∀ s, s < k → I1 41 0 s = nI (str V f H w s)) ∧ Sm (fun s => s = 41 ∨ s = 1) I I1) → X G vX1_take (d + 1) (0, 0) 6 [(0, some (.ref (ad 1 0))), (1, some (.ref (ad h j))), (2, some (.int (nI H))), (3, some (.int (nI w))), (4, some (.int (nI (cvr V (str V f H w) k)))), (5, some (.int (nI k)))] [] (MM ad nb b r I1 L) (xT G (qV (fun M' => ∃ I', M' = MM ad nb b r I' L ∧ AirAt V (str V f H w) I' ∧ Sm (fun s => s = 41 ∨ s = 1) I I'))) := by
    intro n
    induction n with
    | zero => intro k I1 h0; omega
    | succ n ih =>
      intro k I1 hn hk0 hi
      obtain ⟨hinv, hsm⟩ := hi
      have hs6 := hV.2.2.1
      have e2 : I1 16 0 2 = nI (V 0 2 0) := by rw [hsm 16 (by omega)]; exact hB.1 2 (by omega)
      refine x_iload dX1_take_6 rfl ?_
      refine x_aload_n dX1_take_8 rfl ?_
      refine g_Air_border fX1_15 dX1_take_9 ?_
      refine g_Border_sizes fX1_19 dX1_take_12 (by first | exact Nat.le_of_ble_eq_true rfl | assumption | omega) ?_
      refine x_iconst dX1_take_15 li_2 ?_
      refine x_iald dX1_take_16 rfl rfl (by first | exact Nat.le_of_ble_eq_true rfl | assumption | omega) (by first | exact Nat.le_of_ble_eq_true rfl | assumption | omega) ?_
      rw [e2]
      refine x_icN_ge 86 dX1_take_17 (by decide) (by omega) (by omega) (fun h17 => ?_) (fun h17 => ?_)
      · have hkn : k = V 0 2 0 := Nat.le_antisymm hk0 h17
        subst hkn
        refine x_aload_n dX1_take_86 rfl ?_
        refine x_iload dX1_take_87 rfl ?_
        refine x_iconst dX1_take_89 li_2 ?_
        refine x_idivN dX1_take_90 (Nat.lt_of_le_of_lt (cvr_le _ (fun s hs => str_le (hf s (by have := hV.2.2.1; omega)).2)) (by omega)) (by omega) (by omega) ?_
        refine p_Air_veil fX1_36 dX1_take_91 ?_
        refine x_vret dX1_take_94 rfl ?_
        refine ⟨rfl, _, rfl, ⟨fun s hs => ?_, xu_s⟩, Sm.xu hsm (Or.inr rfl)⟩
        rw [xu_ns (by decide)]
        exact hinv s hs
      · refine x_aload_n dX1_take_20 rfl ?_
        refine g_Air_border fX1_15 dX1_take_21 ?_
        refine g_Border_smellKind fX1_24 dX1_take_24 (by first | exact Nat.le_of_ble_eq_true rfl | assumption | omega) ?_
        refine x_iload dX1_take_27 rfl ?_
        refine x_iald dX1_take_29 rfl rfl (by first | exact Nat.le_of_ble_eq_true rfl | assumption | omega) (by first | exact Nat.le_of_ble_eq_true rfl | assumption | omega) ?_
        have hk : k < V 0 2 0 := h17
        have hk6 : k < 6 := by have := hV.2.2.1; omega
        have ek : I1 18 0 k = nI (V 2 k 0) := by rw [hsm 18 (by omega)]; exact (hB.2.2.1 k hk).1
        have hk5 : V 2 k 0 < 5 := (hV.2.2.2.2.2.2.2.2.2.2.2.2.2.1 k hk).1
        rw [ek]
        refine x_istore dX1_take_30 (by decide) rfl ?_
        refine x_aload_n dX1_take_32 rfl ?_
        refine g_Air_strong fX1_9 dX1_take_33 ?_
        refine x_iload dX1_take_36 rfl ?_
        refine x_iconst dX1_take_38 li_0 ?_
        refine x_aload_n dX1_take_39 rfl ?_
        refine x_iload dX1_take_40 rfl ?_
        refine x_iald dX1_take_42 rfl hh hj (by first | exact Nat.le_of_ble_eq_true rfl | assumption | omega) ?_
        have ef : I1 h j k = nI (f k) := by rw [hsm h (by omega)]; exact (hf k hk6).1
        rw [ef]
        refine x_fades dX1_take_43 (xm4 59 rfl rfl) ?_
        refine x_iload dX1_take_46 rfl ?_
        refine x_fadesL dX1_take_48 rfl (by first | exact Nat.le_of_ble_eq_true rfl | assumption | omega) ?_
        rw [xFades_eq _ hk5]
        refine x_iload_n dX1_take_49 rfl ?_
        refine x_imulN dX1_take_50 ?_
        refine x_isub dX1_take_51 ?_
        refine x_iload_n dX1_take_52 rfl ?_
        refine x_isub dX1_take_53 ?_
        refine x_max dX1_take_54 (xm4 61 rfl rfl) (Nat.le_of_ble_eq_true rfl) ?_
        refine x_iconst dX1_take_57 li_2 ?_
        refine x_idiv dX1_take_58 (by decide) ?_
        refine x_top (v := nI (str V f H w k)) (tk_val hk5 hH hw (hf k hk6).2) ?_
        refine x_iast dX1_take_59 rfl rfl (by first | exact Nat.le_of_ble_eq_true rfl | assumption | omega) (by first | exact Nat.le_of_ble_eq_true rfl | assumption | omega) ?_
        have hinv1 : ∀ s, s < k + 1 → xu I1 41 0 k (nI (str V f H w k)) 41 0 s = nI (str V f H w s) := by
          intro s hs
          rw [xu_at]
          by_cases e : s = k
          · rw [if_pos e, e]
          · rw [if_neg e]; exact hinv s (by omega)
        refine x_iload dX1_take_60 rfl ?_
        refine x_iconst dX1_take_62 li_2 ?_
        refine x_icN_ne 80 dX1_take_63 (by decide) (by omega) (by omega) (fun h63 => ?_) (fun h63 => ?_)
        · have hc4 : some (Value.int (nI (cvr V (str V f H w) k))) = some (Value.int (nI (cvr V (str V f H w) (k + 1)))) := by rw [cvr, if_neg h63]
          refine x_iincN 1 dX1_take_80 li_1 rfl (by decide) rfl ?_
          refine x_goto 6 dX1_take_83 (by decide) ?_
          refine x_ls ?_ (ih (k + 1) _ (by omega) (by omega) ⟨hinv1, Sm.xu hsm (Or.inl rfl)⟩)
          exact ⟨rfl, rfl, rfl, rfl, hc4, rfl, trivial⟩
        · refine x_iload dX1_take_66 rfl ?_
          refine x_aload_n dX1_take_68 rfl ?_
          refine g_Air_strong fX1_9 dX1_take_69 ?_
          refine x_iload dX1_take_72 rfl ?_
          refine x_iald dX1_take_74 rfl rfl (by first | exact Nat.le_of_ble_eq_true rfl | assumption | omega) (by first | exact Nat.le_of_ble_eq_true rfl | assumption | omega) ?_
          rw [xu_s]
          refine x_max dX1_take_75 (xm4 61 rfl rfl) (Nat.le_of_ble_eq_true rfl) ?_
          rw [nI_max (Nat.lt_of_le_of_lt (cvr_le _ (fun s hs => str_le (hf s (by omega)).2)) (by omega)) (Nat.lt_of_le_of_lt (str_le (hf k hk6).2) (by omega))]
          have hc4 : some (Value.int (nI (max (cvr V (str V f H w) k) (str V f H w k)))) = some (Value.int (nI (cvr V (str V f H w) (k + 1)))) := by rw [cvr, if_pos h63]
          refine x_istore dX1_take_78 (by decide) rfl ?_
          refine x_iincN 1 dX1_take_80 li_1 rfl (by decide) rfl ?_
          refine x_goto 6 dX1_take_83 (by decide) ?_
          refine x_ls ?_ (ih (k + 1) _ (by omega) (by omega) ⟨hinv1, Sm.xu hsm (Or.inl rfl)⟩)
          exact ⟨rfl, rfl, rfl, rfl, hc4, rfl, trivial⟩
  refine x_start (by decide) (Nat.le_of_ble_eq_true rfl) ?_
  refine x_iconst dX1_take_0 li_0 ?_
  refine x_istore dX1_take_1 (by decide) rfl ?_
  refine x_iconst dX1_take_3 li_0 ?_
  refine x_istore dX1_take_4 (by decide) rfl ?_
  refine x_ls ?_ (loop (V 0 2 0 + 1) 0 I (by omega) (by omega) ⟨fun s hs => absurd hs (Nat.not_lt_zero s), Sm.rf⟩)
  exact ⟨rfl, rfl, rfl, rfl, rfl, rfl, trivial⟩
end Air
