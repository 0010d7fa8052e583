section Ways3
variable {G : xG} {ad : Nat → Nat → Nat} {nb : Nat} {b r : Option Nat} {L : Nat → Nat → Nat → Int64} {V : sV} {I : Nat → Nat → Nat → Int32} {d : Nat}

/-- all WAYS from p0 to a place -/
def wys (V : sV) (p0 to : Nat) : List (List Nat) := ex V to 6 [] p0
def sW (s : Nat) : Prop := s = 10 ∨ s = 48 ∨ s = 50 ∨ s = 52 ∨ s = 53 ∨ s = 54 ∨ s = 55 ∨ s = 1 ∨ s = 41
theorem sbit_1 (q : Nat) : sbit ([] ++ [q]) = 2 ^ q := by simp [sbit]

set_option maxRecDepth 100000 in
set_option maxHeartbeats 4000000 in
theorem c_list (hV : VW V) (hB : XB V 0 I) {t sort to : Nat} {f : Nat → Nat} (ht : t < 32) (hp : PR I t f) (hf0 : f 0 < V 0 4 0) (hf : ∀ s, s < 6 → f (3 + s) ≤ 198) (hso : sort < 4) (hto : to < V 0 4 0) : Mt G vX10_list (d + 6 + 2 + 1) (0, 0) [.ref (ad 10 0), .ref (ad 4 t), .int (nI (sort)), .int (nI (to))] (MM ad nb b r I L) (qV (fun M' => ∃ I', M' = MM ad nb b r I' L ∧ WS V (wys V (f 0) to) I' ∧ WD V (fun s => f (3 + s)) sort (wys V (f 0) to) I' ∧ Sm sW I I')) := by
  have hp6 := hV.2.2.2.2.1
  have e65 : (wys V (f 0) to).length ≤ 65 := ex_65 hV hto hf0
  have loop25 : ∀ (n : Nat) (k : Nat) (I1 : Nat → Nat → Nat → Int32), (wys V (f 0) to).length - k < n → k ≤ (wys V (f 0) to).length → (WS V (wys V (f 0) to) I1 ∧ (∀ z, z < k → I1 53 0 z = nI (dW V (fun s => f (3 + s)) sort (wys V (f 0) to) z)) ∧ Sm sW I I1) → X G vX10_list (d + 6 + 2 + 1) (0, 0) 25 [(0, some (.ref (ad 10 0))), (1, some (.ref (ad 4 t))), (2, some (.int (nI (sort)))), (3, some (.int (nI (to)))), (4, some (.int (nI (k))))] [] (MM ad nb b r I1 L) (xT G (qV (fun M' => ∃ I', M' = MM ad nb b r I' L ∧ WS V (wys V (f 0) to) I' ∧ WD V (fun s => f (3 + s)) sort (wys V (f 0) to) I' ∧ Sm sW I I'))) := by
    intro n
    induction n with
    | zero => intro k I1 h0; omega
    | succ n ih =>
      intro k I1 hn hk0 hi
      obtain ⟨hi1, hi2, hi3⟩ := hi
      have hB1 : XB V 0 I1 := hB.sm (fun s h1 h2 => hi3 s (by unfold sW; omega))
      refine x_iload dX10_list_25 rfl ?_
      refine x_aload_n dX10_list_27 rfl ?_
      refine g_Ways_count fX10_40 dX10_list_28 ?_
      rw [hi1.1]
      refine x_icN_ge 58 dX10_list_31 (by decide) (by omega) (by omega) (fun h31 => ?_) (fun h31 => ?_)
      · refine x_vret dX10_list_58 rfl ?_
        have hkn : k = (wys V (f 0) to).length := Nat.le_antisymm hk0 h31
        exact ⟨rfl, _, rfl, hi1, fun z hz => hi2 z (by omega), hi3⟩
      · refine x_aload_n dX10_list_34 rfl ?_
        refine g_Ways_duties fX10_23 dX10_list_35 ?_
        refine x_iload dX10_list_38 rfl ?_
        refine x_aload_n dX10_list_40 rfl ?_
        refine x_iload dX10_list_41 rfl ?_
        refine x_aload_n dX10_list_43 rfl ?_
        refine g_Person_halves fX10_53 dX10_list_44 ht ?_
        refine x_iload_n dX10_list_47 rfl ?_
        refine x_cvi (c_dutyAlong (d := d + 5) hV hB1 hi1 (W_at h31) (h := 43) (j := t) (f := fun s => f (3 + s)) rfl (by decide) (Nat.lt_of_lt_of_le ht (Nat.le_refl 32)) (fun s hs => ⟨by rw [hi3 43 (by unfold sW; omega)]; exact hp.2 s hs, hf s hs⟩) hso) kX10_56 dX10_list_48 rfl (Nat.le_of_ble_eq_true rfl) rfl rfl (Nat.le_of_ble_eq_true rfl) (fun ru M2 hq => ?_)
        obtain ⟨rfl, I2, rfl, hS2⟩ := hq
        refine x_iast dX10_list_51 rfl rfl (Nat.le_of_ble_eq_true rfl) (by first | exact Nat.le_of_ble_eq_true rfl | assumption | omega) ?_
        refine x_iincN 1 dX10_list_52 li_1 rfl (by decide) rfl ?_
        refine x_goto 25 dX10_list_55 (by decide) ?_
        refine x_ls ?_ (ih (k + 1) _ (by omega) (by omega) ⟨?_, ?_, ?_⟩)
        · exact ⟨rfl, rfl, rfl, rfl, rfl, trivial⟩
        · exact hi1.sm (fun s hs => by funext a c; rw [xu_ns (by omega), hS2 s (by omega)])
        · intro z hz
          rw [xu_at]
          by_cases e : z = k
          · rw [if_pos e, e]; rfl
          · rw [if_neg e, hS2 53 (by omega)]; exact hi2 z (by omega)
        · exact Sm.xu (hi3.tr (hS2.wk (fun s h => by unfold sW; omega))) (by unfold sW; omega)
  refine x_start (by decide) (Nat.le_of_ble_eq_true rfl) ?_
  refine x_aload_n dX10_list_0 rfl ?_
  refine x_iconst dX10_list_1 li_0 ?_
  refine p_Ways_count fX10_40 dX10_list_2 ?_
  refine x_aload_n dX10_list_5 rfl ?_
  refine x_iconst dX10_list_6 li_0 ?_
  refine x_aload_n dX10_list_7 rfl ?_
  refine g_Person_place fX10_44 dX10_list_8 ht ?_
  have ep : xu I 10 0 2 (nI 0) 4 t 0 = nI (f 0) := by rw [xu_ns (by decide)]; exact hp.1 0 (by omega)
  rw [ep]
  refine x_iconst dX10_list_11 li_0 ?_
  refine x_iload_n dX10_list_12 rfl ?_
  refine x_iconst dX10_list_13 li_1 ?_
  refine x_aload_n dX10_list_14 rfl ?_
  refine g_Person_place fX10_44 dX10_list_15 ht ?_
  rw [ep]
  refine x_ishl dX10_list_18 ?_
  rw [sh1 (f 0) (by omega), ← sbit_1 (f 0)]
  refine x_cvv (c_explore (d := d) hV hto 6 [] (f 0) 0 [] (xu I 10 0 2 (nI 0)) (hB.sm (fun s h1 h2 => by funext a c; exact xu_ns (by omega))) rfl hf0 (fun q hq => absurd hq List.not_mem_nil) rfl ⟨xu_s, by simp, fun k w hk => by simp at hk⟩ (Nat.le_trans (Nat.le_of_eq (Nat.zero_add _)) e65) (fun j hj => absurd hj (Nat.not_lt_zero j))) kX10_49 dX10_list_19 rfl (Nat.le_of_ble_eq_true rfl) rfl rfl (Nat.le_of_ble_eq_true rfl) (fun M1 hq => ?_)
  obtain ⟨I1, rfl, hW1, -, hS1⟩ := hq
  refine x_iconst dX10_list_22 li_0 ?_
  refine x_istore dX10_list_23 (by decide) rfl ?_
  refine x_ls ?_ (loop25 ((wys V (f 0) to).length + 1) 0 _ (by omega) (by omega) ⟨by rw [List.nil_append] at hW1; exact hW1, fun z hz => absurd hz (Nat.not_lt_zero z), ?_⟩)
  · exact ⟨rfl, rfl, rfl, rfl, rfl, trivial⟩
  · exact (Sm.xu Sm.rf (by unfold sW; omega)).tr (hS1.wk (fun s h => by unfold sW; omega))
end Ways3
