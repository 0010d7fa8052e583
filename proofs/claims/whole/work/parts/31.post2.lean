section Post2
variable {G : xG} {ad : Nat → Nat → Nat} {nb : Nat} {b r : Option Nat} {L : Nat → Nat → Nat → Int64} {V : sV} {I : Nat → Nat → Nat → Int32} {d : Nat}

/-- the ways to post noses, behind those of a; u: the noses used -/
def pa (V : sV) : Nat → List Nat → Nat → List (List Nat)
  | 0, a, _ => [a]
  | r + 1, a, u => if V 6 a.length 0 = 0 ∨ u = 2 ^ V 0 3 0 - 1 then pa V r (a ++ [0]) u else (List.range (V 0 3 0)).flatMap (fun k => if u.testBit k = false then pa V r (a ++ [k + 1]) (u ||| 2 ^ k) else [])
def paq (V : sV) (r : Nat) (a : List Nat) (u n : Nat) : List (List Nat) := (List.range n).flatMap (fun k => if u.testBit k = false then pa V r (a ++ [k + 1]) (u ||| 2 ^ k) else [])
theorem paq_s {r u n : Nat} {a : List Nat} : paq V r a u (n + 1) = paq V r a u n ++ (if u.testBit n = false then pa V r (a ++ [n + 1]) (u ||| 2 ^ n) else []) := rg_succ _ n
def nmr (a : List Nat) (I : Nat → Nat → Nat → Int32) : Prop := ∀ j, j < a.length → I 61 0 j = nO (-2) (a.getD j 0)
theorem nmr_app {a : List Nat} {m : Nat} {I' : Nat → Nat → Nat → Int32} (h : ∀ j, j < a.length → I' 61 0 j = nO (-2) (a.getD j 0)) (hm : I' 61 0 a.length = nO (-2) m) : nmr (a ++ [m]) I' := by
  intro j hj
  rw [List.length_append] at hj
  simp only [List.getD_eq_getElem?_getD]
  by_cases e : j = a.length
  · subst e; rw [hm]; simp
  · have hjl : j < a.length := by simp at hj; omega
    rw [List.getElem?_append_left hjl, h j hjl, List.getD_eq_getElem?_getD]
theorem PS.sm {N : sN} {A : List (List Nat)} {I I' : Nat → Nat → Nat → Int32} (h : PS V N A I) (h5 : I' 5 = I 5) (h60 : I' 60 = I 60) : PS V N A I' := by
  unfold PS AR at h ⊢
  rw [h5, h60]
  exact h
theorem app_le {a : List Nat} {m c : Nat} (h : ∀ q ∈ a, q ≤ c) (hm : m ≤ c) : ∀ q ∈ a ++ [m], q ≤ c := by
  intro q hq
  rcases List.mem_append.mp hq with h1 | h1
  · exact h q h1
  · rw [List.mem_singleton.mp h1]; exact hm

set_option maxRecDepth 100000 in
set_option maxHeartbeats 4000000 in
theorem c_post (hV : VW V) {N : sN} (hW : NW V N) : ∀ (rr : Nat) (a : List Nat) (u : Nat) (A : List (List Nat)) (I : Nat → Nat → Nat → Int32), XB V 0 I → XN V N I → a.length + rr = V 0 4 0 → u < 2 ^ V 0 3 0 → PS V N A I → nmr a I → (∀ q ∈ a, q ≤ V 0 3 0) → Mt G vX5_post (d + rr + 5) (0, 0) [.ref (ad 5 0), .int (nI (a.length)), .int (nI (u))] (MM ad nb b r I L) (qV (fun M' => ∃ I', M' = MM ad nb b r I' L ∧ PS V N (A ++ pa V rr a u) I' ∧ (∀ j, j < a.length → I' 61 0 j = I 61 0 j) ∧ Sm sP I I')) := by
  have hp6 := hV.2.2.2.2.1
  have hn4 := hV.2.2.2.1
  have h2n : 2 ^ V 0 3 0 ≤ 16 := Nat.le_trans (Nat.pow_le_pow_right (by omega) hn4) (by decide)
  have h1n : 1 ≤ 2 ^ V 0 3 0 := Nat.one_le_two_pow
  intro rr
  induction rr with
  | zero =>
    intro a u A I hB hN hr hu hA hm hal
    have e4 : I 16 0 4 = nI (V 0 4 0) := hB.1 4 (by omega)
    refine x_start (by decide) (Nat.le_of_ble_eq_true rfl) ?_
    refine x_iload_n dX5_post_0 rfl ?_
    refine x_bipush dX5_post_1 lb_6 ?_
    refine x_icN_ge 19 dX5_post_3 (by decide) (by omega) (by omega) (fun h3 => ?_) (fun h3 => ?_)
    · refine x_aload_n dX5_post_19 rfl ?_
      refine x_cvv (c_weigh (d := d) (A := A) (a := a) hV hB hN hW hA (fun q hq => hm q (by omega)) (fun q hq => Nat.le_of_lt_succ (getD_lt (fun z hz => Nat.lt_succ_of_le (hal z hz)) (by omega)))) kX5_39 dX5_post_20 rfl (Nat.le_of_ble_eq_true rfl) rfl rfl (Nat.le_of_ble_eq_true rfl) (fun M2 hq2 => ?_)
      obtain ⟨I2, rfl, hP2, h61, hS2⟩ := hq2
      refine x_vret dX5_post_23 rfl ?_
      exact ⟨rfl, _, rfl, hP2, fun j hj => by rw [h61], hS2⟩
    · refine x_iload_n dX5_post_6 rfl ?_
      refine x_aload_n dX5_post_7 rfl ?_
      refine g_Posting_border fX5_18 dX5_post_8 ?_
      refine g_Border_sizes fX5_34 dX5_post_11 (by first | exact Nat.le_of_ble_eq_true rfl | assumption | omega) ?_
      refine x_iconst dX5_post_14 li_4 ?_
      refine x_iald dX5_post_15 rfl rfl (Nat.lt_of_lt_of_le (by first | assumption | omega | decide) (Nat.le_refl 2)) (by first | exact Nat.le_of_ble_eq_true rfl | assumption | omega) ?_
      rw [e4]
      refine x_icN_lt 24 dX5_post_16 (by decide) (by omega) (by omega) (fun h16 => absurd h16 (by omega)) (fun h16 => ?_)
      refine x_aload_n dX5_post_19 rfl ?_
      refine x_cvv (c_weigh (d := d) (A := A) (a := a) hV hB hN hW hA (fun q hq => hm q (by omega)) (fun q hq => Nat.le_of_lt_succ (getD_lt (fun z hz => Nat.lt_succ_of_le (hal z hz)) (by omega)))) kX5_39 dX5_post_20 rfl (Nat.le_of_ble_eq_true rfl) rfl rfl (Nat.le_of_ble_eq_true rfl) (fun M2 hq2 => ?_)
      obtain ⟨I2, rfl, hP2, h61, hS2⟩ := hq2
      refine x_vret dX5_post_23 rfl ?_
      exact ⟨rfl, _, rfl, hP2, fun j hj => by rw [h61], hS2⟩
  | succ rr ihr =>
    intro a u A I hB hN hr hu hA hm hal
    have e4 : I 16 0 4 = nI (V 0 4 0) := hB.1 4 (by omega)
    have hap : a.length < V 0 4 0 := by omega
    have hXN : ∀ (I2 : Nat → Nat → Nat → Int32), Sm sP I I2 → XB V 0 I2 ∧ XN V N I2 := fun I2 h => ⟨hB.sm (fun s h1 h2 => h s (by unfold sP; omega)), fun t ht => (hN t ht).to (by rw [h 4 (by unfold sP; omega)]) (by rw [h 43 (by unfold sP; omega)])⟩
    have loop75 : ¬ (V 6 a.length 0 = 0 ∨ u = 2 ^ V 0 3 0 - 1) → ∀ (n k : Nat) (I1 : Nat → Nat → Nat → Int32), V 0 3 0 - k < n → k ≤ V 0 3 0 → (PS V N (A ++ paq V rr a u k) I1 ∧ (∀ j, j < a.length → I1 61 0 j = I 61 0 j) ∧ Sm sP I I1) → X G vX5_post (d + (rr + 1) + 5) (0, 0) 75 [(0, some (.ref (ad 5 0))), (1, some (.int (nI (a.length)))), (2, some (.int (nI (u)))), (3, some (.int (nI (2 ^ V 0 3 0 - 1)))), (4, some (.int (nI (k))))] [] (MM ad nb b r I1 L) (xT G (qV (fun M' => ∃ I', M' = MM ad nb b r I' L ∧ PS V N (A ++ pa V (rr + 1) a u) I' ∧ (∀ j, j < a.length → I' 61 0 j = I 61 0 j) ∧ Sm sP I I'))) := by
      intro hno n
      induction n with
      | zero => intro k I1 h0; omega
      | succ n ih =>
        intro k I1 hn hk0 hi
        obtain ⟨hi1, hi2, hi3⟩ := hi
        obtain ⟨hB1, hN1⟩ := hXN I1 hi3
        have e3 : I1 16 0 3 = nI (V 0 3 0) := hB1.1 3 (by omega)
        refine x_iload dX5_post_75 rfl ?_
        refine x_aload_n dX5_post_77 rfl ?_
        refine g_Posting_border fX5_18 dX5_post_78 ?_
        refine g_Border_sizes fX5_34 dX5_post_81 (by first | exact Nat.le_of_ble_eq_true rfl | assumption | omega) ?_
        refine x_iconst dX5_post_84 li_3 ?_
        refine x_iald dX5_post_85 rfl rfl (Nat.lt_of_lt_of_le (by first | assumption | omega | decide) (Nat.le_refl 2)) (by first | exact Nat.le_of_ble_eq_true rfl | assumption | omega) ?_
        rw [e3]
        refine x_icN_ge 125 dX5_post_86 (by decide) (by omega) (by omega) (fun h86 => ?_) (fun h86 => ?_)
        · refine x_vret dX5_post_125 rfl ?_
          have hkn : k = V 0 3 0 := Nat.le_antisymm hk0 h86
          subst hkn
          refine ⟨rfl, _, rfl, ?_, hi2, hi3⟩
          show PS V N (A ++ (if _ then _ else _)) I1
          rw [if_neg hno]
          exact hi1
        · refine x_iload_n dX5_post_89 rfl ?_
          refine x_iload dX5_post_90 rfl ?_
          refine x_ishr dX5_post_92 ?_
          refine x_iconst dX5_post_93 li_1 ?_
          refine x_iand dX5_post_94 ?_
          refine x_if_ne 119 dX5_post_95 (by decide) (fun h95 => ?_) (fun h95 => ?_)
          · have hnx : (PS V N (A ++ paq V rr a u (k + 1)) I1 ∧ (∀ j, j < a.length → I1 61 0 j = I 61 0 j) ∧ Sm sP I I1) := by
              rw [paq_s, if_neg (fun z => h95 ((bt_tst u (by omega) k (by omega)).mpr z)), List.append_nil]
              exact ⟨hi1, hi2, hi3⟩
            refine x_iincN 1 dX5_post_119 li_1 rfl (by decide) rfl ?_
            refine x_goto 75 dX5_post_122 (by decide) ?_
            refine x_ls ?_ (ih (k + 1) _ (by omega) (by omega) hnx)
            exact ⟨rfl, rfl, rfl, rfl, rfl, trivial⟩
          · have hbit : u.testBit k = false := (bt_tst u (by omega) k (by omega)).mp h95
            have hcall := paq_s (V := V) (r := rr) (a := a) (u := u) (n := k)
            rw [if_pos hbit] at hcall
            refine x_aload_n dX5_post_98 rfl ?_
            refine g_Posting_noses fX5_15 dX5_post_99 ?_
            refine x_iload_n dX5_post_102 rfl ?_
            refine x_iload dX5_post_103 rfl ?_
            refine x_iast dX5_post_105 rfl rfl (Nat.le_of_ble_eq_true rfl) (by first | exact Nat.le_of_ble_eq_true rfl | assumption | omega) ?_
            obtain ⟨hBx, hNx⟩ := hXN (xu I1 61 0 a.length (nI k)) (Sm.xu hi3 (by unfold sP; omega))
            refine x_aload_n dX5_post_106 rfl ?_
            refine x_iload_n dX5_post_107 rfl ?_
            refine x_iconst dX5_post_108 li_1 ?_
            refine x_iaddN dX5_post_109 ?_
            refine x_iload_n dX5_post_110 rfl ?_
            refine x_iconst dX5_post_111 li_1 ?_
            refine x_iload dX5_post_112 rfl ?_
            refine x_ishl dX5_post_114 ?_
            rw [sh1 k (by omega)]
            refine x_ior dX5_post_115 ?_
            rw [nI_or, show a.length + 1 = (a ++ [k + 1]).length by simp]
            refine x_cvv (ihr (a ++ [k + 1]) (u ||| 2 ^ k) (A ++ paq V rr a u k) (xu I1 61 0 a.length (nI k)) hBx hNx (by simp; omega) (Nat.or_lt_two_pow hu (Nat.pow_lt_pow_right (by omega) h86)) (hi1.sm (by funext a c; exact xu_ns (by decide)) (by funext a c; exact xu_ns (by decide))) (nmr_app (fun j hj => by rw [xu_nk (by omega), hi2 j hj]; exact hm j hj) (by rw [xu_s]; rfl)) (app_le hal (by omega))) kX5_30 dX5_post_116 rfl (Nat.le_of_ble_eq_true rfl) rfl rfl (Nat.le_of_ble_eq_true rfl) (fun M2 hq2 => ?_)
            obtain ⟨I2, rfl, hP2, hK2, hS2⟩ := hq2
            have hnx : (PS V N (A ++ paq V rr a u (k + 1)) I2 ∧ (∀ j, j < a.length → I2 61 0 j = I 61 0 j) ∧ Sm sP I I2) := by
              refine ⟨by rw [hcall, ← List.append_assoc]; exact hP2, fun j hj => ?_, (Sm.xu hi3 (by unfold sP; omega)).tr hS2⟩
              rw [hK2 j (by simp; omega), xu_nk (by omega)]
              exact hi2 j hj
            refine x_iincN 1 dX5_post_119 li_1 rfl (by decide) rfl ?_
            refine x_goto 75 dX5_post_122 (by decide) ?_
            refine x_ls ?_ (ih (k + 1) _ (by omega) (by omega) hnx)
            exact ⟨rfl, rfl, rfl, rfl, rfl, trivial⟩
    refine x_start (by decide) (Nat.le_of_ble_eq_true rfl) ?_
    refine x_iload_n dX5_post_0 rfl ?_
    refine x_bipush dX5_post_1 lb_6 ?_
    refine x_icN_ge 19 dX5_post_3 (by decide) (by omega) (by omega) (fun h3 => absurd h3 (by omega)) (fun h3 => ?_)
    refine x_iload_n dX5_post_6 rfl ?_
    refine x_aload_n dX5_post_7 rfl ?_
    refine g_Posting_border fX5_18 dX5_post_8 ?_
    refine g_Border_sizes fX5_34 dX5_post_11 (by first | exact Nat.le_of_ble_eq_true rfl | assumption | omega) ?_
    refine x_iconst dX5_post_14 li_4 ?_
    refine x_iald dX5_post_15 rfl rfl (Nat.lt_of_lt_of_le (by first | assumption | omega | decide) (Nat.le_refl 2)) (by first | exact Nat.le_of_ble_eq_true rfl | assumption | omega) ?_
    rw [e4]
    refine x_icN_lt 24 dX5_post_16 (by decide) (by omega) (by omega) (fun h16 => ?_) (fun h16 => absurd h16 (by omega))
    refine x_aload_n dX5_post_24 rfl ?_
    refine g_Posting_noses fX5_15 dX5_post_25 ?_
    refine x_iload_n dX5_post_28 rfl ?_
    refine x_bipush dX5_post_29 lb_m2 ?_
    refine x_iast dX5_post_31 rfl rfl (Nat.le_of_ble_eq_true rfl) (by first | exact Nat.le_of_ble_eq_true rfl | assumption | omega) ?_
    refine x_iconst dX5_post_32 li_1 ?_
    refine x_aload_n dX5_post_33 rfl ?_
    refine g_Posting_border fX5_18 dX5_post_34 ?_
    refine g_Border_sizes fX5_34 dX5_post_37 (by first | exact Nat.le_of_ble_eq_true rfl | assumption | omega) ?_
    refine x_iconst dX5_post_40 li_3 ?_
    refine x_iald dX5_post_41 rfl rfl (Nat.lt_of_lt_of_le (by first | assumption | omega | decide) (Nat.le_refl 2)) (by first | exact Nat.le_of_ble_eq_true rfl | assumption | omega) ?_
    have e3 : (xu I 61 0 a.length (-2)) 16 0 3 = nI (V 0 3 0) := by rw [xu_ns (by decide)]; exact hB.1 3 (by omega)
    rw [e3]
    refine x_ishl dX5_post_42 ?_
    rw [sh1 (V 0 3 0) (by omega)]
    refine x_iconst dX5_post_43 li_1 ?_
    refine x_isubN dX5_post_44 (by omega) ?_
    refine x_istore_n dX5_post_45 (by decide) rfl ?_
    refine x_aload_n dX5_post_46 rfl ?_
    refine g_Posting_border fX5_18 dX5_post_47 ?_
    refine g_Border_placeNose fX5_42 dX5_post_50 (by first | exact Nat.le_of_ble_eq_true rfl | assumption | omega) ?_
    refine x_iload_n dX5_post_53 rfl ?_
    refine x_iald dX5_post_54 rfl rfl (Nat.lt_of_lt_of_le (by first | assumption | omega | decide) (Nat.le_refl 2)) (by first | exact Nat.le_of_ble_eq_true rfl | assumption | omega) ?_
    have e22 : (xu I 61 0 a.length (-2)) 22 0 a.length = nO (-2) (V 6 a.length 0) := by rw [xu_ns (by decide)]; exact (hB.2.2.2.2.1 _ hap).2
    have hm3 := (hV.2.2.2.2.2.2.2.2.2.2.2.2.2.2.2.1 _ hap).2
    rw [e22]
    refine x_if_lt 63 dX5_post_55 (by decide) (fun h55 => ?_) (fun h55 => ?_)
    · have hyes : V 6 a.length 0 = 0 ∨ u = 2 ^ V 0 3 0 - 1 := by
        first
          | exact Or.inr h60
          | (left
             by_cases z : V 6 a.length 0 = 0
             · exact z
             · unfold nO at h55
               rw [if_neg z] at h55
               exact absurd h55 (nI_pos (by omega)))
      obtain ⟨hBx, hNx⟩ := hXN (xu I 61 0 a.length (-2)) (Sm.xu Sm.rf (by unfold sP; omega))
      refine x_aload_n dX5_post_63 rfl ?_
      refine x_iload_n dX5_post_64 rfl ?_
      refine x_iconst dX5_post_65 li_1 ?_
      refine x_iaddN dX5_post_66 ?_
      refine x_iload_n dX5_post_67 rfl ?_
      rw [show a.length + 1 = (a ++ [0]).length by simp]
      refine x_cvv (ihr (a ++ [0]) u A (xu I 61 0 a.length (-2)) hBx hNx (by simp; omega) hu (hA.sm (by funext a c; exact xu_ns (by decide)) (by funext a c; exact xu_ns (by decide))) (nmr_app (fun j hj => by rw [xu_nk (by omega)]; exact hm j hj) (by rw [xu_s]; rfl)) (app_le hal (by omega))) kX5_30 dX5_post_68 rfl (Nat.le_of_ble_eq_true rfl) rfl rfl (Nat.le_of_ble_eq_true rfl) (fun M2 hq2 => ?_)
      obtain ⟨I2, rfl, hP2, hK2, hS2⟩ := hq2
      refine x_vret dX5_post_71 rfl ?_
      refine ⟨rfl, _, rfl, ?_, fun j hj => ?_, (Sm.xu Sm.rf (by unfold sP; omega)).tr hS2⟩
      · show PS V N (A ++ (if _ then _ else _)) I2
        rw [if_pos hyes]
        exact hP2
      · rw [hK2 j (by simp; omega), xu_nk (by omega)]
    · have h6n : V 6 a.length 0 ≠ 0 := fun z => h55 (by rw [z]; decide)
      refine x_iload_n dX5_post_58 rfl ?_
      refine x_iload_n dX5_post_59 rfl ?_
      refine x_icN_ne 72 dX5_post_60 (by decide) (by omega) (by omega) (fun h60 => ?_) (fun h60 => ?_)
      · refine x_iconst dX5_post_72 li_0 ?_
        refine x_istore dX5_post_73 (by decide) rfl ?_
        have hno : ¬ (V 6 a.length 0 = 0 ∨ u = 2 ^ V 0 3 0 - 1) := fun z => by rcases z with z | z; exact h6n z; exact h60 z
        have hq0 : paq V rr a u 0 = [] := rfl
        refine x_ls ?_ (loop75 hno (V 0 3 0 + 1) 0 _ (by omega) (by omega) ⟨?_, fun j hj => xu_nk (by omega), Sm.xu Sm.rf (by unfold sP; omega)⟩)
        · exact ⟨rfl, rfl, rfl, rfl, rfl, trivial⟩
        · rw [hq0, List.append_nil]; exact hA.sm (by funext a c; exact xu_ns (by decide)) (by funext a c; exact xu_ns (by decide))
      · have hyes : V 6 a.length 0 = 0 ∨ u = 2 ^ V 0 3 0 - 1 := by
          first
            | exact Or.inr h60
            | (left
               by_cases z : V 6 a.length 0 = 0
               · exact z
               · unfold nO at h55
                 rw [if_neg z] at h55
                 exact absurd h55 (nI_pos (by omega)))
        obtain ⟨hBx, hNx⟩ := hXN (xu I 61 0 a.length (-2)) (Sm.xu Sm.rf (by unfold sP; omega))
        refine x_aload_n dX5_post_63 rfl ?_
        refine x_iload_n dX5_post_64 rfl ?_
        refine x_iconst dX5_post_65 li_1 ?_
        refine x_iaddN dX5_post_66 ?_
        refine x_iload_n dX5_post_67 rfl ?_
        rw [show a.length + 1 = (a ++ [0]).length by simp]
        refine x_cvv (ihr (a ++ [0]) u A (xu I 61 0 a.length (-2)) hBx hNx (by simp; omega) hu (hA.sm (by funext a c; exact xu_ns (by decide)) (by funext a c; exact xu_ns (by decide))) (nmr_app (fun j hj => by rw [xu_nk (by omega)]; exact hm j hj) (by rw [xu_s]; rfl)) (app_le hal (by omega))) kX5_30 dX5_post_68 rfl (Nat.le_of_ble_eq_true rfl) rfl rfl (Nat.le_of_ble_eq_true rfl) (fun M2 hq2 => ?_)
        obtain ⟨I2, rfl, hP2, hK2, hS2⟩ := hq2
        refine x_vret dX5_post_71 rfl ?_
        refine ⟨rfl, _, rfl, ?_, fun j hj => ?_, (Sm.xu Sm.rf (by unfold sP; omega)).tr hS2⟩
        · show PS V N (A ++ (if _ then _ else _)) I2
          rw [if_pos hyes]
          exact hP2
        · rw [hK2 j (by simp; omega), xu_nk (by omega)]
/-- all postings of noses -/
def psa (V : sV) : List (List Nat) := pa V (V 0 4 0) [] 0
set_option maxRecDepth 100000 in
set_option maxHeartbeats 4000000 in
theorem c_psearch (hV : VW V) (hB : XB V 0 I) {N : sN} (hN : XN V N I) (hW : NW V N) : Mt G vX5_search (d + V 0 4 0 + 5 + 1) (0, 0) [.ref (ad 5 0)] (MM ad nb b r I L) (qV (fun M' => ∃ I', M' = MM ad nb b r I' L ∧ PS V N (psa V) I' ∧ Sm sP I I')) := by
  have hn4 := hV.2.2.2.1
  have hx : XB V 0 (xu I 5 0 2 (-1)) ∧ XN V N (xu I 5 0 2 (-1)) := ⟨hB.sm (fun s h1 h2 => by funext a c; exact xu_ns (by omega)), fun t ht => (hN t ht).to (funext fun z => xu_ns (by decide)) (funext fun z => xu_ns (by decide))⟩
  refine x_start (by decide) (Nat.le_of_ble_eq_true rfl) ?_
  refine x_aload_n dX5_search_0 rfl ?_
  refine x_iconst dX5_search_1 li_m1 ?_
  refine p_Posting_most fX5_26 dX5_search_2 ?_
  refine x_aload_n dX5_search_5 rfl ?_
  refine x_iconst dX5_search_6 li_0 ?_
  refine x_iconst dX5_search_7 li_0 ?_
  refine x_cvv (c_post (d := d) hV hW (V 0 4 0) [] 0 [] (xu I 5 0 2 (-1)) hx.1 hx.2 (by simp) (Nat.two_pow_pos _) ⟨xu_s, fun h => absurd h (Nat.lt_irrefl 0)⟩ (fun j hj => absurd hj (Nat.not_lt_zero j)) (fun q hq => absurd hq List.not_mem_nil)) kX5_30 dX5_search_8 rfl (Nat.le_of_ble_eq_true rfl) rfl rfl (Nat.le_of_ble_eq_true rfl) (fun M2 hq2 => ?_)
  obtain ⟨I2, rfl, hP2, -, hS2⟩ := hq2
  refine x_vret dX5_search_11 rfl ?_
  exact ⟨rfl, _, rfl, hP2, (Sm.xu Sm.rf (by unfold sP; omega)).tr hS2⟩
end Post2
