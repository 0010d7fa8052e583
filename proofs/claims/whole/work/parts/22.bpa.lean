section Bpa
variable {G : xG} {ad : Nat → Nat → Nat} {nb : Nat} {b r : Option Nat} {L : Nat → Nat → Nat → Int64} {V : sV} {I : Nat → Nat → Nat → Int32} {d : Nat}
set_option maxRecDepth 100000 in
set_option maxHeartbeats 4000000 in
theorem c_stands {bd : Nat} (hbd : bd < 2) (hs : I 16 bd 0 = nI (V 0 0 0)) (h5 : V 0 0 0 ≤ 5) : Mt G vX2_stands (d) (0, 0) [.ref (ad 2 bd)] (MM ad nb b r I L) (qE (bI (decide (0 < V 0 0 0))) (MM ad nb b r I L)) := by
  refine x_start (by decide) (Nat.le_of_ble_eq_true rfl) ?_
  refine x_aload_n dX2_stands_0 rfl ?_
  refine g_Border_sizes fX2_9 dX2_stands_1 (by first | exact Nat.le_of_ble_eq_true rfl | assumption | omega) ?_
  refine x_iconst dX2_stands_4 li_0 ?_
  refine x_iald dX2_stands_5 rfl rfl (Nat.lt_of_lt_of_le (by first | assumption | omega | decide) (Nat.le_refl 2)) (by first | exact Nat.le_of_ble_eq_true rfl | assumption | omega) ?_
  rw [hs]
  refine x_ifN_le 13 dX2_stands_6 (by decide) (by omega) (fun h6 => ?_) (fun h6 => ?_)
  · refine x_iconst dX2_stands_13 li_0 ?_
    refine x_zret dX2_stands_14 rfl rfl ?_
    refine ⟨_, rfl, ?_, rfl⟩
    first | exact bI_1 (decide_eq_true h6) | exact bI_0 (fun z => by have := of_decide_eq_true z; omega)
  · refine x_iconst dX2_stands_9 li_1 ?_
    refine x_goto 14 dX2_stands_10 (by decide) ?_
    refine x_zret dX2_stands_14 rfl rfl ?_
    refine ⟨_, rfl, ?_, rfl⟩
    first | exact bI_1 (decide_eq_true h6) | exact bI_0 (fun z => by have := of_decide_eq_true z; omega)
def pth (V : sV) (p : Nat) : Nat → Nat
  | 0 => 0
  | n + 1 => pth V p n + (if 0 < V 7 p n then 1 else 0)
set_option maxRecDepth 100000 in
set_option maxHeartbeats 4000000 in
theorem c_pathsOf (hV : VW V) (hB : XB V 0 I) {p : Nat} (hp : p < 6) : Mt G vX2_pathsOf (d) (0, 0) [.ref (ad 2 0), .int (nI (p))] (MM ad nb b r I L) (qE (nI (pth V p (V 0 4 0))) (MM ad nb b r I L)) := by
  have hp6 := hV.2.2.2.2.1
  have e4 : I 16 0 4 = nI (V 0 4 0) := hB.1 4 (by omega)
  have loop4 : ∀ (n : Nat) (k : Nat), V 0 4 0 - k < n → k ≤ V 0 4 0 → X G vX2_pathsOf (d) (0, 0) 4 [(0, some (.ref (ad 2 0))), (1, some (.int (nI (p)))), (2, some (.int (nI (pth V p k)))), (3, some (.int (nI (k))))] [] (MM ad nb b r I L) (xT G (qE (nI (pth V p (V 0 4 0))) (MM ad nb b r I L))) := by
    intro n
    induction n with
    | zero => intro k h0; omega
    | succ n ih =>
      intro k hn hk0
      refine x_iload_n dX2_pathsOf_4 rfl ?_
      refine x_aload_n dX2_pathsOf_5 rfl ?_
      refine g_Border_sizes fX2_9 dX2_pathsOf_6 (by first | exact Nat.le_of_ble_eq_true rfl | assumption | omega) ?_
      refine x_iconst dX2_pathsOf_9 li_4 ?_
      refine x_iald dX2_pathsOf_10 rfl rfl (Nat.lt_of_lt_of_le (by first | assumption | omega | decide) (Nat.le_refl 2)) (by first | exact Nat.le_of_ble_eq_true rfl | assumption | omega) ?_
      rw [e4]
      refine x_icN_ge 34 dX2_pathsOf_11 (by decide) (by omega) (by omega) (fun h11 => ?_) (fun h11 => ?_)
      · refine x_iload_n dX2_pathsOf_34 rfl ?_
        refine x_iret dX2_pathsOf_35 rfl ?_
        exact ⟨_, rfl, by rw [Nat.le_antisymm hk0 h11], rfl⟩
      · refine x_aload_n dX2_pathsOf_14 rfl ?_
        refine g_Border_hours fX2_35 dX2_pathsOf_15 (by first | exact Nat.le_of_ble_eq_true rfl | assumption | omega) ?_
        refine x_iload_n dX2_pathsOf_18 rfl ?_
        refine aa_Border_hours0 dX2_pathsOf_19 rfl (by first | exact Nat.le_of_ble_eq_true rfl | assumption | omega) ?_
        refine x_iload_n dX2_pathsOf_20 rfl ?_
        refine x_iald dX2_pathsOf_21 rfl rfl (Nat.lt_of_lt_of_le (by first | assumption | omega | decide) (Nat.le_refl 12)) (by first | exact Nat.le_of_ble_eq_true rfl | assumption | omega) ?_
        have eh : I 31 p k = nI (V 7 p k) := (hB.2.2.2.2.2.2.2.2.2.1 p k hp (by omega)).1
        have h40 := hV.2.2.2.2.2.2.2.2.2.2.2.2.2.2.2.2.1 p k
        rw [eh]
        refine x_ifN_le 28 dX2_pathsOf_22 (by decide) (by omega) (fun h22 => ?_) (fun h22 => ?_)
        · have hsm : some (Value.int (nI (pth V p k))) = some (Value.int (nI (pth V p (k + 1)))) := by rw [pth, if_neg (by omega)]; rfl
          refine x_iincN 1 dX2_pathsOf_28 li_1 rfl (by decide) rfl ?_
          refine x_goto 4 dX2_pathsOf_31 (by decide) ?_
          refine x_ls ?_ (ih (k + 1) (by omega) (by omega))
          exact ⟨rfl, rfl, hsm, rfl, trivial⟩
        · have hsm : some (Value.int (nI (pth V p k + 1))) = some (Value.int (nI (pth V p (k + 1)))) := by rw [pth, if_pos h22]
          refine x_iincN 1 dX2_pathsOf_25 li_1 rfl (by decide) rfl ?_
          refine x_iincN 1 dX2_pathsOf_28 li_1 rfl (by decide) rfl ?_
          refine x_goto 4 dX2_pathsOf_31 (by decide) ?_
          refine x_ls ?_ (ih (k + 1) (by omega) (by omega))
          exact ⟨rfl, rfl, hsm, rfl, trivial⟩
  refine x_start (by decide) (Nat.le_of_ble_eq_true rfl) ?_
  refine x_iconst dX2_pathsOf_0 li_0 ?_
  refine x_istore_n dX2_pathsOf_1 (by decide) rfl ?_
  refine x_iconst dX2_pathsOf_2 li_0 ?_
  refine x_istore_n dX2_pathsOf_3 (by decide) rfl ?_
  refine x_ls ?_ (loop4 (V 0 4 0 + 1) 0 (by omega) (by omega))
  exact ⟨rfl, rfl, rfl, rfl, trivial⟩
/-- the skill of the nose that a row of noses gives a place; 0 without one -/
def skl (V : sV) (m : Nat) : Nat := if m = 0 then 0 else V 4 (m - 1) 0
set_option maxRecDepth 100000 in
set_option maxHeartbeats 4000000 in
theorem c_skillAt (hV : VW V) (hB : XB V 0 I) {h j p m : Nat} (hh : xsh h = .inl (0, 6)) (hj : j < CC nb h) (hp : p < 6) (hm : I h j p = nO (-2) m) (hm4 : m ≤ V 0 3 0) : Mt G vX2_skillAt (d) (0, 0) [.ref (ad 2 0), .int (nI (p)), .ref (ad h j)] (MM ad nb b r I L) (qE (nI (skl V m)) (MM ad nb b r I L)) := by
  have hn4 := hV.2.2.2.1
  refine x_start (by decide) (Nat.le_of_ble_eq_true rfl) ?_
  refine x_aload_n dX2_skillAt_0 rfl ?_
  refine x_iload_n dX2_skillAt_1 rfl ?_
  refine x_iald dX2_skillAt_2 rfl hh hj (by first | exact Nat.le_of_ble_eq_true rfl | assumption | omega) ?_
  rw [hm]
  refine x_istore_n dX2_skillAt_3 (by decide) rfl ?_
  refine x_iload_n dX2_skillAt_4 rfl ?_
  have hm0 : m = 0 ∨ ∃ k, m = k + 1 := by cases m with | zero => exact Or.inl rfl | succ k => exact Or.inr ⟨k, rfl⟩
  refine x_if_lt 22 dX2_skillAt_5 (by decide) (fun h5 => ?_) (fun h5 => ?_)
  · refine x_iconst dX2_skillAt_22 li_0 ?_
    refine x_iret dX2_skillAt_23 rfl ?_
    refine ⟨_, rfl, ?_, rfl⟩
    first
      | rfl
      | (rcases hm0 with rfl | ⟨k, rfl⟩
         · rfl
         · exact absurd h5 (nI_pos (by omega)))
      | (exfalso; omega)
  · have hmk : ∃ k, m = k + 1 := by
      rcases hm0 with rfl | h
      · exact absurd h5 (by decide)
      · exact h
    obtain ⟨k, rfl⟩ := hmk
    have eN : nO (-2) (k + 1) = nI k := rfl
    rw [eN]
    refine x_iload_n dX2_skillAt_8 rfl ?_
    refine x_iconst dX2_skillAt_9 li_4 ?_
    refine x_icN_ge 22 dX2_skillAt_10 (by decide) (by omega) (by omega) (fun h10 => ?_) (fun h10 => ?_)
    · refine x_iconst dX2_skillAt_22 li_0 ?_
      refine x_iret dX2_skillAt_23 rfl ?_
      refine ⟨_, rfl, ?_, rfl⟩
      first
        | rfl
        | (rcases hm0 with rfl | ⟨k, rfl⟩
           · rfl
           · exact absurd h5 (nI_pos (by omega)))
        | (exfalso; omega)
    · refine x_aload_n dX2_skillAt_13 rfl ?_
      refine g_Border_noseSkill fX2_24 dX2_skillAt_14 (by first | exact Nat.le_of_ble_eq_true rfl | assumption | omega) ?_
      refine x_iload_n dX2_skillAt_17 rfl ?_
      refine x_iald dX2_skillAt_18 rfl rfl (Nat.lt_of_lt_of_le (by first | assumption | omega | decide) (Nat.le_refl 2)) (by first | exact Nat.le_of_ble_eq_true rfl | assumption | omega) ?_
      have ek : I 20 0 k = nI (V 4 k 0) := hB.2.2.2.1 k (by omega)
      rw [ek]
      refine x_goto 23 dX2_skillAt_19 (by decide) ?_
      refine x_iret dX2_skillAt_23 rfl ?_
      refine ⟨_, rfl, ?_, rfl⟩
      first
        | rfl
        | (rcases hm0 with rfl | ⟨k, rfl⟩
           · rfl
           · exact absurd h5 (nI_pos (by omega)))
        | (exfalso; omega)
/-- person i holds f: place, paid, hours, halves -/
def PR (I : Nat → Nat → Nat → Int32) (i : Nat) (f : Nat → Nat) : Prop := (∀ k, k < 3 → I 4 i k = nI (f k)) ∧ ∀ s, s < 6 → I 43 i s = nI (f (3 + s))
/-- person i is as person j was -/
def pcp (I : Nat → Nat → Nat → Int32) (i j : Nat) : Nat → Nat → Nat → Int32 := fun a c k => if a = 4 ∧ c = i ∧ k < 3 then I 4 j k else if a = 43 ∧ c = i ∧ k < 6 then I 43 j k else I a c k
theorem pcp_n {i j a c : Nat} (h : ¬ ((a = 4 ∨ a = 43) ∧ c = i)) : pcp I i j a c = I a c := by
  funext k
  unfold pcp
  rw [if_neg (fun q => h ⟨Or.inl q.1, q.2.1⟩), if_neg (fun q => h ⟨Or.inr q.1, q.2.1⟩)]
theorem pcp_PR {i j : Nat} {f : Nat → Nat} (h : PR I j f) : PR (pcp I i j) i f := by
  refine ⟨fun k hk => ?_, fun s hs => ?_⟩
  · unfold pcp; rw [if_pos ⟨rfl, rfl, hk⟩]; exact h.1 k hk
  · unfold pcp; rw [if_neg (by omega), if_pos ⟨rfl, rfl, hs⟩]; exact h.2 s hs
theorem pcp_PRn {i j k : Nat} {f : Nat → Nat} (h : PR I k f) (hk : k ≠ i) : PR (pcp I i j) k f := by
  have e4 : pcp I i j 4 k = I 4 k := pcp_n (fun q => hk q.2)
  have e43 : pcp I i j 43 k = I 43 k := pcp_n (fun q => hk q.2)
  refine ⟨fun z hz => ?_, fun s hs => ?_⟩
  · rw [e4]; exact h.1 z hz
  · rw [e43]; exact h.2 s hs
theorem pcp_eq {i j : Nat} (hij : i ≠ j) : xur (xu (xu (xu I 4 i 0 (I 4 j 0)) 4 i 1 (I 4 j 1)) 4 i 2 (I 4 j 2)) 43 i (va_cpy (I 43 j) (I 43 i) 0 0 6) = pcp I i j := by
  funext a c k
  unfold pcp
  by_cases h43 : a = 43 ∧ c = i
  · obtain ⟨rfl, rfl⟩ := h43
    rw [xur_s, if_neg (by omega)]
    by_cases hk : k < 6
    · rw [if_pos ⟨rfl, rfl, hk⟩, pk_cpy_in (by omega) (by omega)]
      simp
    · rw [if_neg (by omega), pk_cpy_out (by omega)]
  · rw [xur_n h43]
    by_cases h4 : a = 4 ∧ c = i ∧ k < 3
    · obtain ⟨rfl, rfl, hk⟩ := h4
      rw [if_pos ⟨rfl, rfl, hk⟩]
      rcases (show k = 0 ∨ k = 1 ∨ k = 2 by omega) with rfl | rfl | rfl
      · rw [xu_nk (by decide), xu_nk (by decide), xu_s]
      · rw [xu_nk (by decide), xu_s]
      · rw [xu_s]
    · rw [if_neg h4, if_neg (fun q => h43 ⟨q.1, q.2.1⟩), xu_n (by omega), xu_n (by omega), xu_n (by omega)]

set_option maxRecDepth 100000 in
set_option maxHeartbeats 4000000 in
theorem c_pcopy {i j : Nat} (hi : i < 32) (hj : j < 32) (hij : i ≠ j) : Mt G vX4_copy (d + 1) (0, 0) [.ref (ad 4 i), .ref (ad 4 j)] (MM ad nb b r I L) (qV (fun M' => M' = MM ad nb b r (pcp I i j) L)) := by
  refine x_start (by decide) (Nat.le_of_ble_eq_true rfl) ?_
  refine x_aload_n dX4_copy_0 rfl ?_
  refine x_aload_n dX4_copy_1 rfl ?_
  refine g_Person_place fX4_15 dX4_copy_2 (by first | exact Nat.le_of_ble_eq_true rfl | assumption | omega) ?_
  refine p_Person_place fX4_15 dX4_copy_5 (by first | exact Nat.le_of_ble_eq_true rfl | assumption | omega) ?_
  refine x_aload_n dX4_copy_8 rfl ?_
  refine x_aload_n dX4_copy_9 rfl ?_
  refine g_Person_paid fX4_19 dX4_copy_10 (by first | exact Nat.le_of_ble_eq_true rfl | assumption | omega) ?_
  rw [xu_ni (Ne.symm hij)]
  refine p_Person_paid fX4_19 dX4_copy_13 (by first | exact Nat.le_of_ble_eq_true rfl | assumption | omega) ?_
  refine x_aload_n dX4_copy_16 rfl ?_
  refine x_aload_n dX4_copy_17 rfl ?_
  refine g_Person_hours fX4_22 dX4_copy_18 (by first | exact Nat.le_of_ble_eq_true rfl | assumption | omega) ?_
  rw [xu_ni (Ne.symm hij), xu_ni (Ne.symm hij)]
  refine p_Person_hours fX4_22 dX4_copy_21 (by first | exact Nat.le_of_ble_eq_true rfl | assumption | omega) ?_
  refine x_aload_n dX4_copy_24 rfl ?_
  refine g_Person_halves fX4_9 dX4_copy_25 (by first | exact Nat.le_of_ble_eq_true rfl | assumption | omega) ?_
  refine x_iconst dX4_copy_28 li_0 ?_
  refine x_aload_n dX4_copy_29 rfl ?_
  refine g_Person_halves fX4_9 dX4_copy_30 (by first | exact Nat.le_of_ble_eq_true rfl | assumption | omega) ?_
  refine x_iconst dX4_copy_33 li_0 ?_
  refine x_bipush dX4_copy_34 lb_6 ?_
  refine x_copy dX4_copy_36 (xm5 99 rfl rfl) rfl rfl rfl rfl rfl (Nat.lt_of_lt_of_le (by first | assumption | omega | decide) (Nat.le_refl 32)) (Nat.lt_of_lt_of_le (by first | assumption | omega | decide) (Nat.le_refl 32)) (by first | exact Nat.le_of_ble_eq_true rfl | assumption | omega) (by first | exact Nat.le_of_ble_eq_true rfl | assumption | omega) (Nat.le_of_ble_eq_true rfl) ?_
  have e1 : ∀ z, xu (xu (xu I 4 i 0 (I 4 j 0)) 4 i 1 (I 4 j 1)) 4 i 2 (I 4 j 2) 43 z = I 43 z := fun z => funext fun q => by rw [xu_ns (by decide), xu_ns (by decide), xu_ns (by decide)]
  rw [e1, e1, pcp_eq hij]
  refine x_vret dX4_copy_39 rfl ?_
  exact ⟨rfl, rfl⟩
def anyOn (f : Nat → Nat) : Nat → Bool
  | 0 => false
  | n + 1 => anyOn f n || decide (0 < f (3 + n))
set_option maxRecDepth 100000 in
set_option maxHeartbeats 4000000 in
theorem c_hasOn {i : Nat} {f : Nat → Nat} (hi : i < 32) (hp : PR I i f) (hf : ∀ s, s < 6 → f (3 + s) ≤ 198) : Mt G vX4_hasSomethingOn (d) (0, 0) [.ref (ad 4 i)] (MM ad nb b r I L) (qE (bI (anyOn f 6)) (MM ad nb b r I L)) := by
  have loop2 : ∀ (n : Nat) (k : Nat), 6 - k < n → k ≤ 6 → anyOn f k = false → X G vX4_hasSomethingOn (d) (0, 0) 2 [(0, some (.ref (ad 4 i))), (1, some (.int (nI (k))))] [] (MM ad nb b r I L) (xT G (qE (bI (anyOn f 6)) (MM ad nb b r I L))) := by
    intro n
    induction n with
    | zero => intro k h0; omega
    | succ n ih =>
      intro k hn hk0 hno
      refine x_iload_n dX4_hasSomethingOn_2 rfl ?_
      refine x_bipush dX4_hasSomethingOn_3 lb_6 ?_
      refine x_icN_ge 25 dX4_hasSomethingOn_5 (by decide) (by omega) (by omega) (fun h5 => ?_) (fun h5 => ?_)
      · refine x_iconst dX4_hasSomethingOn_25 li_0 ?_
        refine x_zret dX4_hasSomethingOn_26 rfl rfl ?_
        have e6 : k = 6 := by omega
        subst e6
        exact ⟨_, rfl, bI_0 (by rw [hno]; simp), rfl⟩
      · refine x_aload_n dX4_hasSomethingOn_8 rfl ?_
        refine g_Person_halves fX4_9 dX4_hasSomethingOn_9 (by first | exact Nat.le_of_ble_eq_true rfl | assumption | omega) ?_
        refine x_iload_n dX4_hasSomethingOn_12 rfl ?_
        refine x_iald dX4_hasSomethingOn_13 rfl rfl (Nat.lt_of_lt_of_le (by first | assumption | omega | decide) (Nat.le_refl 32)) (by first | exact Nat.le_of_ble_eq_true rfl | assumption | omega) ?_
        have hf1 := hf k (by omega)
        rw [hp.2 k (by omega)]
        refine x_ifN_le 19 dX4_hasSomethingOn_14 (by decide) (by omega) (fun h14 => ?_) (fun h14 => ?_)
        · refine x_iincN 1 dX4_hasSomethingOn_19 li_1 rfl (by decide) rfl ?_
          refine x_goto 2 dX4_hasSomethingOn_22 (by decide) ?_
          refine x_ls ?_ (ih (k + 1) (by omega) (by omega) (by rw [anyOn, hno, h14]; rfl))
          exact ⟨rfl, rfl, trivial⟩
        · refine x_iconst dX4_hasSomethingOn_17 li_1 ?_
          refine x_zret dX4_hasSomethingOn_18 rfl rfl ?_
          refine ⟨_, rfl, bI_1 ?_, rfl⟩
          have key : ∀ m, k < m → anyOn f m = true := by
            intro m
            induction m with
            | zero => omega
            | succ m ihm =>
              intro hm
              unfold anyOn
              by_cases e : k = m
              · subst e; simp [h14]
              · rw [ihm (by omega)]; rfl
          exact key 6 (by omega)
  refine x_start (by decide) (Nat.le_of_ble_eq_true rfl) ?_
  refine x_iconst dX4_hasSomethingOn_0 li_0 ?_
  refine x_istore_n dX4_hasSomethingOn_1 (by decide) rfl ?_
  refine x_ls ?_ (loop2 7 0 (by omega) (by omega) rfl)
  exact ⟨rfl, rfl, trivial⟩
end Bpa
