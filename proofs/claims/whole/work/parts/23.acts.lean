section Acts
variable {G : xG} {ad : Nat → Nat → Nat} {nb : Nat} {b r : Option Nat} {L : Nat → Nat → Nat → Int64} {V : sV} {I : Nat → Nat → Nat → Int32} {d : Nat}

abbrev sN : Type := Nat → Nat → Nat
abbrev sH : Type := List (Nat × (Nat → Nat))
def XN (V : sV) (N : sN) (I : Nat → Nat → Nat → Int32) : Prop := ∀ t, t < V 0 7 0 → PR I t (N t)
def NW (V : sV) (N : sN) : Prop := ∀ t, t < V 0 7 0 → N t 0 < V 0 4 0 ∧ ∀ s, s < 6 → N t (3 + s) ≤ 198
def XH (V : sV) (h : sH) (I : Nat → Nat → Nat → Int32) : Prop := ∃ nx, nx < 16 ∧ I 0 0 6 = nI nx ∧ I 0 0 2 = nI h.length ∧ h.length ≤ 16 ∧ ∀ (i : Nat) (q : Nat × (Nat → Nat)), h[i]? = some q → q.1 < V 0 7 0 ∧ I 42 0 ((nx + 15 - i) % 16) = nI q.1 ∧ PR I ((nx + 15 - i) % 16 + 4) q.2
def XK (V : sV) (mk : List sN) (I : Nat → Nat → Nat → Int32) : Prop := I 0 0 3 = nI mk.length ∧ mk.length ≤ 3 ∧ ∀ (m : Nat) (q : sN), mk[m]? = some q → ∀ t, t < V 0 7 0 → PR I (m * 4 + t + 20) (q t)
theorem PR.to {I I' : Nat → Nat → Nat → Int32} {i : Nat} {f : Nat → Nat} (h : PR I i f) (h4 : I' 4 i = I 4 i) (h43 : I' 43 i = I 43 i) : PR I' i f := by
  unfold PR at h ⊢
  rw [h4, h43]
  exact h
def N0 (V : sV) : sN := fun t k => if k = 0 then V 11 t 0 else if k < 3 then 0 else 2 * V 12 t (k - 3)

set_option maxRecDepth 100000 in
set_option maxHeartbeats 4000000 in
theorem c_keep (hV : VW V) {t : Nat} {f : Nat → Nat} {h : sH} (ht : t < V 0 7 0) (hp : PR I t f) (hH : XH V h I) : Mt G vX0_keep (d + 2) (0, 0) [.ref (ad 0 0), .int (nI (t))] (MM ad nb b r I L) (qV (fun M' => ∃ I', M' = MM ad nb b r I' L ∧ XH V (((t, f) :: h).take 16) I' ∧ (∀ a c, ¬ (a = 0 ∨ a = 42 ∨ ((a = 4 ∨ a = 43) ∧ 4 ≤ c ∧ c < 20)) → I' a c = I a c) ∧ I' 0 0 3 = I 0 0 3)) := by
  have ht4 := hV.2.2.2.2.2.2.2.1
  obtain ⟨nx, hnx, e6, e2, hl, hh⟩ := hH
  refine x_start (by decide) (Nat.le_of_ble_eq_true rfl) ?_
  refine x_aload_n dX0_keep_0 rfl ?_
  refine g_Acts_before fX0_19 dX0_keep_1 ?_
  refine x_aload_n dX0_keep_4 rfl ?_
  refine g_Acts_next fX0_70 dX0_keep_5 ?_
  rw [e6]
  refine aa_Acts_before dX0_keep_8 rfl (by first | exact Nat.le_of_ble_eq_true rfl | assumption | omega) ?_
  refine x_aload_n dX0_keep_9 rfl ?_
  refine g_Acts_now fX0_15 dX0_keep_10 ?_
  refine x_iload_n dX0_keep_13 rfl ?_
  refine aa_Acts_now dX0_keep_14 rfl (by first | exact Nat.le_of_ble_eq_true rfl | assumption | omega) ?_
  refine x_cvv (c_pcopy (i := nx + 4) (j := t) (by omega) (by omega) (by omega)) kX0_73 dX0_keep_15 rfl (Nat.lt_of_lt_of_le (by omega) (Nat.le_refl 32)) rfl rfl (Nat.le_of_ble_eq_true rfl) (fun Mu hq => ?_)
  subst hq
  refine x_aload_n dX0_keep_18 rfl ?_
  refine g_Acts_whose fX0_22 dX0_keep_19 ?_
  refine x_aload_n dX0_keep_22 rfl ?_
  refine g_Acts_next fX0_70 dX0_keep_23 ?_
  have q6 : pcp I (nx + 4) t 0 0 6 = nI nx := by rw [pcp_n (by omega)]; exact e6
  rw [q6]
  refine x_iload_n dX0_keep_26 rfl ?_
  refine x_iast dX0_keep_27 rfl rfl (Nat.le_of_ble_eq_true rfl) (by first | exact Nat.le_of_ble_eq_true rfl | assumption | omega) ?_
  refine x_aload_n dX0_keep_28 rfl ?_
  refine x_aload_n dX0_keep_29 rfl ?_
  refine g_Acts_next fX0_70 dX0_keep_30 ?_
  have q6b : xu (pcp I (nx + 4) t) 42 0 nx (nI t) 0 0 6 = nI nx := by rw [xu_ns (by decide)]; exact q6
  rw [q6b]
  refine x_iconst dX0_keep_33 li_1 ?_
  refine x_iaddN dX0_keep_34 ?_
  refine x_bipush dX0_keep_35 lb_16 ?_
  refine x_iremN dX0_keep_37 (by omega) (by omega) (by omega) ?_
  refine p_Acts_next fX0_70 dX0_keep_38 ?_
  refine x_aload_n dX0_keep_41 rfl ?_
  refine x_aload_n dX0_keep_42 rfl ?_
  refine g_Acts_kept fX0_36 dX0_keep_43 ?_
  have q2 : xu (xu (pcp I (nx + 4) t) 42 0 nx (nI t)) 0 0 6 (nI ((nx + 1) % 16)) 0 0 2 = nI h.length := by rw [xu_nk (by decide), xu_ns (by decide), pcp_n (by omega)]; exact e2
  rw [q2]
  refine x_iconst dX0_keep_46 li_1 ?_
  refine x_iaddN dX0_keep_47 ?_
  refine x_bipush dX0_keep_48 lb_16 ?_
  refine x_min dX0_keep_50 (xm5 100 rfl rfl) (Nat.le_of_ble_eq_true rfl) ?_
  rw [nI_min (by omega) (by omega)]
  refine p_Acts_kept fX0_36 dX0_keep_53 ?_
  refine x_vret dX0_keep_56 rfl ?_
  refine ⟨rfl, _, rfl, ⟨(nx + 1) % 16, by omega, by rw [xu_nk (by decide), xu_s], ?_, ?_, ?_⟩, ?_, ?_⟩
  · rw [xu_s]; congr 1; simp; omega
  · simp; omega
  · intro i q hq
    rw [List.getElem?_take] at hq
    by_cases hi16 : i < 16
    · rw [if_pos hi16] at hq
      cases i with
      | zero =>
        cases hq
        have ei : ((nx + 1) % 16 + 15 - 0) % 16 = nx := by omega
        rw [ei]
        refine ⟨ht, by rw [xu_ns (by decide), xu_ns (by decide), xu_s], ?_⟩
        exact (pcp_PR (i := nx + 4) hp).to (funext fun z => by rw [xu_ns (by decide), xu_ns (by decide), xu_ns (by decide)]) (funext fun z => by rw [xu_ns (by decide), xu_ns (by decide), xu_ns (by decide)])
      | succ i =>
        rw [List.getElem?_cons_succ] at hq
        obtain ⟨g1, g2, g3⟩ := hh i q hq
        have ei : ((nx + 1) % 16 + 15 - (i + 1)) % 16 = (nx + 15 - i) % 16 := by omega
        have hne : (nx + 15 - i) % 16 ≠ nx := by omega
        rw [ei]
        refine ⟨g1, by rw [xu_ns (by decide), xu_ns (by decide), xu_nk hne, pcp_n (by omega)]; exact g2, ?_⟩
        exact (pcp_PRn (i := nx + 4) (j := t) g3 (by omega)).to (funext fun z => by rw [xu_ns (by decide), xu_ns (by decide), xu_ns (by decide)]) (funext fun z => by rw [xu_ns (by decide), xu_ns (by decide), xu_ns (by decide)])
    · rw [if_neg hi16] at hq; cases hq
  · intro a c hac
    funext z
    rw [xu_ns (by omega), xu_ns (by omega), xu_ns (by omega), pcp_n (by omega)]
  · rw [xu_nk (by decide), xu_nk (by decide), xu_ns (by decide), pcp_n (by omega)]
set_option maxRecDepth 100000 in
set_option maxHeartbeats 4000000 in
theorem c_takeBack0 (hH : XH V [] I) : Mt G vX0_takeBack (d + 1) (0, 0) [.ref (ad 0 0)] (MM ad nb b r I L) (qE (nI 0) (MM ad nb b r I L)) := by
  obtain ⟨nx, hnx, e6, e2, hl, hh⟩ := hH
  refine x_start (by decide) (Nat.le_of_ble_eq_true rfl) ?_
  refine x_aload_n dX0_takeBack_0 rfl ?_
  refine g_Acts_kept fX0_36 dX0_takeBack_1 ?_
  rw [e2]
  refine x_top (v := nI 0) rfl ?_
  refine x_ifN_ne 9 dX0_takeBack_4 (by decide) (by omega) (fun h4 => absurd h4 (by omega)) (fun h4 => ?_)
  refine x_iconst dX0_takeBack_7 li_0 ?_
  refine x_zret dX0_takeBack_8 rfl rfl ?_
  exact ⟨_, rfl, rfl, rfl⟩
set_option maxRecDepth 100000 in
set_option maxHeartbeats 4000000 in
theorem c_takeBack1 (hV : VW V) {t : Nat} {f : Nat → Nat} {h : sH} {N : sN} (hN : XN V N I) (hH : XH V ((t, f) :: h) I) : Mt G vX0_takeBack (d + 1 + 1) (0, 0) [.ref (ad 0 0)] (MM ad nb b r I L) (qI (fun rr M' => rr = nI 1 ∧ ∃ I', M' = MM ad nb b r I' L ∧ XH V h I' ∧ XN V (fun u => if u = t then f else N u) I' ∧ (∀ a c, ¬ (a = 0 ∨ ((a = 4 ∨ a = 43) ∧ c < 4)) → I' a c = I a c) ∧ I' 0 0 3 = I 0 0 3)) := by
  have ht4 := hV.2.2.2.2.2.2.2.1
  obtain ⟨nx, hnx, e6, e2, hl, hh⟩ := hH
  obtain ⟨g1, g2, g3⟩ := hh 0 (t, f) rfl
  have hl1 : h.length + 1 ≤ 16 := hl
  have e2b : I 0 0 2 = nI (h.length + 1) := e2
  have ei : (nx + 15 - 0) % 16 = (nx + 15) % 16 := rfl
  rw [ei] at g2 g3
  refine x_start (by decide) (Nat.le_of_ble_eq_true rfl) ?_
  refine x_aload_n dX0_takeBack_0 rfl ?_
  refine g_Acts_kept fX0_36 dX0_takeBack_1 ?_
  rw [e2b]
  refine x_ifN_ne 9 dX0_takeBack_4 (by decide) (by omega) (fun h4 => ?_) (fun h4 => absurd h4 (by omega))
  refine x_aload_n dX0_takeBack_9 rfl ?_
  refine x_aload_n dX0_takeBack_10 rfl ?_
  refine g_Acts_next fX0_70 dX0_takeBack_11 ?_
  rw [e6]
  refine x_bipush dX0_takeBack_14 lb_16 ?_
  refine x_iaddN dX0_takeBack_16 ?_
  refine x_iconst dX0_takeBack_17 li_1 ?_
  refine x_isubN dX0_takeBack_18 (by omega) ?_
  refine x_bipush dX0_takeBack_19 lb_16 ?_
  refine x_iremN dX0_takeBack_21 (by omega) (by omega) (by omega) ?_
  have en : (nx + 16 - 1) % 16 = (nx + 15) % 16 := by omega
  rw [en]
  refine p_Acts_next fX0_70 dX0_takeBack_22 ?_
  refine x_aload_n dX0_takeBack_25 rfl ?_
  refine g_Acts_now fX0_15 dX0_takeBack_26 ?_
  refine x_aload_n dX0_takeBack_29 rfl ?_
  refine g_Acts_whose fX0_22 dX0_takeBack_30 ?_
  refine x_aload_n dX0_takeBack_33 rfl ?_
  refine g_Acts_next fX0_70 dX0_takeBack_34 ?_
  have q6 : xu I 0 0 6 (nI ((nx + 15) % 16)) 0 0 6 = nI ((nx + 15) % 16) := xu_s
  rw [q6]
  refine x_iald dX0_takeBack_37 rfl rfl (Nat.le_of_ble_eq_true rfl) (by first | exact Nat.le_of_ble_eq_true rfl | assumption | omega) ?_
  have q42 : xu I 0 0 6 (nI ((nx + 15) % 16)) 42 0 ((nx + 15) % 16) = nI t := by rw [xu_ns (by decide)]; exact g2
  rw [q42]
  refine aa_Acts_now dX0_takeBack_38 rfl (by first | exact Nat.le_of_ble_eq_true rfl | assumption | omega) ?_
  refine x_aload_n dX0_takeBack_39 rfl ?_
  refine g_Acts_before fX0_19 dX0_takeBack_40 ?_
  refine x_aload_n dX0_takeBack_43 rfl ?_
  refine g_Acts_next fX0_70 dX0_takeBack_44 ?_
  rw [q6]
  refine aa_Acts_before dX0_takeBack_47 rfl (by first | exact Nat.le_of_ble_eq_true rfl | assumption | omega) ?_
  refine x_cvv (c_pcopy (i := t) (j := (nx + 15) % 16 + 4) (by omega) (by omega) (by omega)) kX0_73 dX0_takeBack_48 rfl (Nat.lt_of_lt_of_le (by omega) (Nat.le_refl 32)) rfl rfl (Nat.le_of_ble_eq_true rfl) (fun Mu hq => ?_)
  subst hq
  refine x_aload_n dX0_takeBack_51 rfl ?_
  refine x_dup dX0_takeBack_52 rfl ?_
  refine g_Acts_kept fX0_36 dX0_takeBack_53 ?_
  have q2 : pcp (xu I 0 0 6 (nI ((nx + 15) % 16))) t ((nx + 15) % 16 + 4) 0 0 2 = nI (h.length + 1) := by rw [pcp_n (by omega), xu_nk (by decide)]; exact e2b
  rw [q2]
  refine x_iconst dX0_takeBack_56 li_1 ?_
  refine x_isubN dX0_takeBack_57 (by omega) ?_
  refine p_Acts_kept fX0_36 dX0_takeBack_58 ?_
  refine x_iconst dX0_takeBack_61 li_1 ?_
  refine x_zret dX0_takeBack_62 rfl rfl ?_
  refine ⟨_, rfl, rfl, _, rfl, ⟨(nx + 15) % 16, by omega, ?_, ?_, by omega, ?_⟩, ?_, ?_, ?_⟩
  · rw [xu_nk (by decide), pcp_n (by omega), xu_s]
  · rw [xu_s]; congr 1
  · intro i q hq
    have hi : i < h.length := (List.getElem?_eq_some_iff.mp hq).1
    obtain ⟨k1, k2, k3⟩ := hh (i + 1) q (by rw [List.getElem?_cons_succ]; exact hq)
    have ej : (nx + 15 - (i + 1)) % 16 = ((nx + 15) % 16 + 15 - i) % 16 := by omega
    rw [ej] at k2 k3
    refine ⟨k1, by rw [xu_ns (by decide), pcp_n (by omega), xu_ns (by decide)]; exact k2, ?_⟩
    have k4 : PR (xu I 0 0 6 (nI ((nx + 15) % 16))) (((nx + 15) % 16 + 15 - i) % 16 + 4) q.2 := k3.to (funext fun z => xu_ns (by decide)) (funext fun z => xu_ns (by decide))
    exact (pcp_PRn (i := t) (j := (nx + 15) % 16 + 4) k4 (by omega)).to (funext fun z => xu_ns (by decide)) (funext fun z => xu_ns (by decide))
  · intro u hu
    by_cases e : u = t
    · subst e
      have k4 : PR (xu I 0 0 6 (nI ((nx + 15) % 16))) ((nx + 15) % 16 + 4) f := g3.to (funext fun z => xu_ns (by decide)) (funext fun z => xu_ns (by decide))
      show PR _ u (if u = u then f else N u)
      rw [if_pos rfl]
      exact (pcp_PR (i := u) k4).to (funext fun z => xu_ns (by decide)) (funext fun z => xu_ns (by decide))
    · show PR _ u (if u = t then f else N u)
      rw [if_neg e]
      have k4 : PR (xu I 0 0 6 (nI ((nx + 15) % 16))) u (N u) := (hN u hu).to (funext fun z => xu_ns (by decide)) (funext fun z => xu_ns (by decide))
      exact (pcp_PRn (i := t) (j := (nx + 15) % 16 + 4) k4 e).to (funext fun z => xu_ns (by decide)) (funext fun z => xu_ns (by decide))
  · intro a c hac
    funext z
    rw [xu_ns (by omega), pcp_n (by omega), xu_ns (by omega)]
  · rw [xu_nk (by decide), pcp_n (by omega), xu_nk (by decide)]
set_option maxRecDepth 100000 in
set_option maxHeartbeats 4000000 in
theorem c_setMark0 {mk : List sN} (hK : XK V mk I) (h3 : mk.length = 3) : Mt G vX0_setMark (d + 1) (0, 0) [.ref (ad 0 0)] (MM ad nb b r I L) (qE (-1) (MM ad nb b r I L)) := by
  have e3 := hK.1
  rw [h3] at e3
  refine x_start (by decide) (Nat.le_of_ble_eq_true rfl) ?_
  refine x_aload_n dX0_setMark_0 rfl ?_
  refine g_Acts_marks fX0_40 dX0_setMark_1 ?_
  rw [e3]
  refine x_iconst dX0_setMark_4 li_3 ?_
  refine x_icN_lt 10 dX0_setMark_5 (by decide) (by omega) (by omega) (fun h5 => absurd h5 (by omega)) (fun h5 => ?_)
  refine x_iconst dX0_setMark_8 li_m1 ?_
  refine x_iret dX0_setMark_9 rfl ?_
  exact ⟨_, rfl, rfl, rfl⟩
set_option maxRecDepth 100000 in
set_option maxHeartbeats 4000000 in
theorem c_setMark1 (hV : VW V) {mk : List sN} {N : sN} (hK : XK V mk I) (hN : XN V N I) (h3 : mk.length < 3) : Mt G vX0_setMark (d + 1 + 1) (0, 0) [.ref (ad 0 0)] (MM ad nb b r I L) (qI (fun rr M' => rr = nI mk.length ∧ ∃ I', M' = MM ad nb b r I' L ∧ XK V (mk ++ [N]) I' ∧ (∀ a c, ¬ (a = 0 ∨ ((a = 4 ∨ a = 43) ∧ 20 ≤ c)) → I' a c = I a c) ∧ (∀ k, k ≠ 3 → I' 0 0 k = I 0 0 k))) := by
  have ht4 := hV.2.2.2.2.2.2.2.1
  obtain ⟨e3, hl, hh⟩ := hK
  have loop12 : ∀ (n : Nat) (k : Nat) (I1 : Nat → Nat → Nat → Int32), 4 - k < n → k ≤ 4 → (∀ m q, mk[m]? = some q → ∀ t, t < V 0 7 0 → PR I1 (m * 4 + t + 20) (q t)) ∧ (∀ t, t < k → t < V 0 7 0 → PR I1 (mk.length * 4 + t + 20) (N t)) ∧ (∀ a c, ¬ ((a = 4 ∨ a = 43) ∧ 20 ≤ c) → I1 a c = I a c) → X G vX0_setMark (d + 1 + 1) (0, 0) 12 [(0, some (.ref (ad 0 0))), (1, some (.int (nI (k))))] [] (MM ad nb b r I1 L) (xT G (qI (fun rr M' => rr = nI mk.length ∧ ∃ I', M' = MM ad nb b r I' L ∧ XK V (mk ++ [N]) I' ∧ (∀ a c, ¬ (a = 0 ∨ ((a = 4 ∨ a = 43) ∧ 20 ≤ c)) → I' a c = I a c) ∧ (∀ k, k ≠ 3 → I' 0 0 k = I 0 0 k)))) := by
    intro n
    induction n with
    | zero => intro k I1 h0; omega
    | succ n ih =>
      intro k I1 hn hk0 hi
      obtain ⟨hi1, hi2, hi3⟩ := hi
      have e31 : I1 0 0 3 = nI mk.length := by rw [hi3 0 0 (by omega)]; exact e3
      refine x_iload_n dX0_setMark_12 rfl ?_
      refine x_iconst dX0_setMark_13 li_4 ?_
      refine x_icN_ge 45 dX0_setMark_14 (by decide) (by omega) (by omega) (fun h14 => ?_) (fun h14 => ?_)
      · refine x_aload_n dX0_setMark_45 rfl ?_
        refine x_dup dX0_setMark_46 rfl ?_
        refine g_Acts_marks fX0_40 dX0_setMark_47 ?_
        rw [e31]
        refine x_iconst dX0_setMark_50 li_1 ?_
        refine x_iaddN dX0_setMark_51 ?_
        refine p_Acts_marks fX0_40 dX0_setMark_52 ?_
        refine x_aload_n dX0_setMark_55 rfl ?_
        refine g_Acts_marks fX0_40 dX0_setMark_56 ?_
        rw [xu_s]
        refine x_iconst dX0_setMark_59 li_1 ?_
        refine x_isubN dX0_setMark_60 (by omega) ?_
        refine x_iret dX0_setMark_61 rfl ?_
        have e4 : k = 4 := by omega
        subst e4
        refine ⟨_, rfl, by rw [show mk.length + 1 - 1 = mk.length by omega], _, rfl, ⟨by rw [xu_s]; congr 1; simp, by simp; omega, ?_⟩, ?_, ?_⟩
        · intro m q hm t ht
          have hx : ∀ i f, PR I1 i f → PR (xu I1 0 0 3 (nI (mk.length + 1))) i f := fun i f z => z.to (funext fun z => xu_ns (by decide)) (funext fun z => xu_ns (by decide))
          by_cases hlt : m < mk.length
          · rw [List.getElem?_append_left hlt] at hm
            exact hx _ _ (hi1 m q hm t ht)
          · rw [List.getElem?_append_right (by omega)] at hm
            have hz : m - mk.length < 1 := (List.getElem?_eq_some_iff.mp hm).1
            have em : m = mk.length := by omega
            subst em
            rw [Nat.sub_self] at hm
            cases hm
            exact hx _ _ (hi2 t (by omega) ht)
        · intro a c hac
          funext z
          rw [xu_ns (by omega), hi3 a c (by omega)]
        · intro z hz
          rw [xu_nk hz, hi3 0 0 (by omega)]
      · refine x_aload_n dX0_setMark_17 rfl ?_
        refine g_Acts_marked fX0_26 dX0_setMark_18 ?_
        refine x_aload_n dX0_setMark_21 rfl ?_
        refine g_Acts_marks fX0_40 dX0_setMark_22 ?_
        rw [e31]
        refine x_iconst dX0_setMark_25 li_4 ?_
        refine x_imulN dX0_setMark_26 ?_
        refine x_iload_n dX0_setMark_27 rfl ?_
        refine x_iaddN dX0_setMark_28 ?_
        refine aa_Acts_marked dX0_setMark_29 rfl (by first | exact Nat.le_of_ble_eq_true rfl | assumption | omega) ?_
        refine x_aload_n dX0_setMark_30 rfl ?_
        refine g_Acts_now fX0_15 dX0_setMark_31 ?_
        refine x_iload_n dX0_setMark_34 rfl ?_
        refine aa_Acts_now dX0_setMark_35 rfl (by first | exact Nat.le_of_ble_eq_true rfl | assumption | omega) ?_
        refine x_cvv (c_pcopy (i := mk.length * 4 + k + 20) (j := k) (by omega) (by omega) (by omega)) kX0_73 dX0_setMark_36 rfl (Nat.lt_of_lt_of_le (by omega) (Nat.le_refl 32)) rfl rfl (Nat.le_of_ble_eq_true rfl) (fun Mu hq => ?_)
        subst hq
        refine x_iincN 1 dX0_setMark_39 li_1 rfl (by decide) rfl ?_
        refine x_goto 12 dX0_setMark_42 (by decide) ?_
        refine x_ls ?_ (ih (k + 1) _ (by omega) (by omega) ⟨?_, ?_, ?_⟩)
        · exact ⟨rfl, rfl, trivial⟩
        · intro m q hm t ht
          have := (List.getElem?_eq_some_iff.mp hm).1
          exact pcp_PRn (hi1 m q hm t ht) (by omega)
        · intro t htk ht
          by_cases e : t = k
          · subst e
            have k4 : PR I1 t (N t) := (hN t ht).to (hi3 4 t (by omega)) (hi3 43 t (by omega))
            exact pcp_PR k4
          · exact pcp_PRn (hi2 t (by omega) ht) (by omega)
        · intro a c hac
          rw [pcp_n (by omega)]
          exact hi3 a c hac
  refine x_start (by decide) (Nat.le_of_ble_eq_true rfl) ?_
  refine x_aload_n dX0_setMark_0 rfl ?_
  refine g_Acts_marks fX0_40 dX0_setMark_1 ?_
  rw [e3]
  refine x_iconst dX0_setMark_4 li_3 ?_
  refine x_icN_lt 10 dX0_setMark_5 (by decide) (by omega) (by omega) (fun h5 => ?_) (fun h5 => absurd h5 (by omega))
  refine x_iconst dX0_setMark_10 li_0 ?_
  refine x_istore_n dX0_setMark_11 (by decide) rfl ?_
  refine x_ls ?_ (loop12 5 0 I (by omega) (by omega) ⟨hh, fun t ht => absurd ht (Nat.not_lt_zero t), fun _ _ _ => rfl⟩)
  exact ⟨rfl, rfl, trivial⟩
set_option maxRecDepth 100000 in
set_option maxHeartbeats 4000000 in
theorem c_returnTo0 {mk : List sN} {z : Int32} (hK : XK V mk I) (hz : z < 0 ∨ nI mk.length ≤ z) : Mt G vX0_returnTo (d + 1) (0, 0) [.ref (ad 0 0), .int (z)] (MM ad nb b r I L) (qE (nI 0) (MM ad nb b r I L)) := by
  refine x_start (by decide) (Nat.le_of_ble_eq_true rfl) ?_
  refine x_iload_n dX0_returnTo_0 rfl ?_
  refine x_if_lt 12 dX0_returnTo_1 (by decide) (fun h1 => ?_) (fun h1 => ?_)
  · refine x_iconst dX0_returnTo_12 li_0 ?_
    refine x_zret dX0_returnTo_13 rfl rfl ?_
    exact ⟨_, rfl, rfl, rfl⟩
  · refine x_iload_n dX0_returnTo_4 rfl ?_
    refine x_aload_n dX0_returnTo_5 rfl ?_
    refine g_Acts_marks fX0_40 dX0_returnTo_6 ?_
    rw [hK.1]
    refine x_ic_lt 14 dX0_returnTo_9 (by decide) (fun h9 => absurd h9 (fun q => by rcases hz with a | a; exact h1 a; exact absurd q (Int32.not_lt.mpr a))) (fun h9 => ?_)
    refine x_iconst dX0_returnTo_12 li_0 ?_
    refine x_zret dX0_returnTo_13 rfl rfl ?_
    exact ⟨_, rfl, rfl, rfl⟩
set_option maxRecDepth 100000 in
set_option maxHeartbeats 4000000 in
theorem c_returnTo1 (hV : VW V) {mk : List sN} {m : Nat} {q : sN} (hK : XK V mk I) (hH : ∃ h, XH V h I) (hm : mk[m]? = some q) : Mt G vX0_returnTo (d + 1 + 1) (0, 0) [.ref (ad 0 0), .int (nI (m))] (MM ad nb b r I L) (qI (fun rr M' => rr = nI 1 ∧ ∃ I', M' = MM ad nb b r I' L ∧ XN V q I' ∧ XH V [] I' ∧ (∀ a c, ¬ (a = 0 ∨ ((a = 4 ∨ a = 43) ∧ c < 4)) → I' a c = I a c) ∧ (∀ k, k ≠ 2 → I' 0 0 k = I 0 0 k))) := by
  have ht4 := hV.2.2.2.2.2.2.2.1
  obtain ⟨e3, hl, hh⟩ := hK
  have hml := (List.getElem?_eq_some_iff.mp hm).1
  obtain ⟨h, nx, hnx, e6, -⟩ := hH
  have loop16 : ∀ (n : Nat) (k : Nat) (I1 : Nat → Nat → Nat → Int32), 4 - k < n → k ≤ 4 → (∀ t, t < k → t < V 0 7 0 → PR I1 t (q t)) ∧ (∀ a c, ¬ ((a = 4 ∨ a = 43) ∧ c < 4) → I1 a c = I a c) → X G vX0_returnTo (d + 1 + 1) (0, 0) 16 [(0, some (.ref (ad 0 0))), (1, some (.int (nI (m)))), (2, some (.int (nI (k))))] [] (MM ad nb b r I1 L) (xT G (qI (fun rr M' => rr = nI 1 ∧ ∃ I', M' = MM ad nb b r I' L ∧ XN V q I' ∧ XH V [] I' ∧ (∀ a c, ¬ (a = 0 ∨ ((a = 4 ∨ a = 43) ∧ c < 4)) → I' a c = I a c) ∧ (∀ k, k ≠ 2 → I' 0 0 k = I 0 0 k)))) := by
    intro n
    induction n with
    | zero => intro k I1 h0; omega
    | succ n ih =>
      intro k I1 hn hk0 hi
      obtain ⟨hi1, hi3⟩ := hi
      refine x_iload_n dX0_returnTo_16 rfl ?_
      refine x_iconst dX0_returnTo_17 li_4 ?_
      refine x_icN_ge 46 dX0_returnTo_18 (by decide) (by omega) (by omega) (fun h18 => ?_) (fun h18 => ?_)
      · refine x_aload_n dX0_returnTo_46 rfl ?_
        refine x_iconst dX0_returnTo_47 li_0 ?_
        refine p_Acts_kept fX0_36 dX0_returnTo_48 ?_
        refine x_iconst dX0_returnTo_51 li_1 ?_
        refine x_zret dX0_returnTo_52 rfl rfl ?_
        have e4 : k = 4 := by omega
        subst e4
        refine ⟨_, rfl, rfl, _, rfl, ?_, ⟨nx, hnx, ?_, xu_s, by simp, fun i q hq => by simp at hq⟩, ?_, ?_⟩
        · intro t ht
          exact (hi1 t (by omega) ht).to (funext fun z => xu_ns (by decide)) (funext fun z => xu_ns (by decide))
        · rw [xu_nk (by decide), hi3 0 0 (by omega)]; exact e6
        · intro a c hac
          funext z
          rw [xu_ns (by omega), hi3 a c (by omega)]
        · intro z hz
          rw [xu_nk hz, hi3 0 0 (by omega)]
      · refine x_aload_n dX0_returnTo_21 rfl ?_
        refine g_Acts_now fX0_15 dX0_returnTo_22 ?_
        refine x_iload_n dX0_returnTo_25 rfl ?_
        refine aa_Acts_now dX0_returnTo_26 rfl (by first | exact Nat.le_of_ble_eq_true rfl | assumption | omega) ?_
        refine x_aload_n dX0_returnTo_27 rfl ?_
        refine g_Acts_marked fX0_26 dX0_returnTo_28 ?_
        refine x_iload_n dX0_returnTo_31 rfl ?_
        refine x_iconst dX0_returnTo_32 li_4 ?_
        refine x_imulN dX0_returnTo_33 ?_
        refine x_iload_n dX0_returnTo_34 rfl ?_
        refine x_iaddN dX0_returnTo_35 ?_
        refine aa_Acts_marked dX0_returnTo_36 rfl (by first | exact Nat.le_of_ble_eq_true rfl | assumption | omega) ?_
        refine x_cvv (c_pcopy (i := k) (j := m * 4 + k + 20) (by omega) (by omega) (by omega)) kX0_73 dX0_returnTo_37 rfl (Nat.lt_of_lt_of_le (by omega) (Nat.le_refl 32)) rfl rfl (Nat.le_of_ble_eq_true rfl) (fun Mu hq => ?_)
        subst hq
        refine x_iincN 1 dX0_returnTo_40 li_1 rfl (by decide) rfl ?_
        refine x_goto 16 dX0_returnTo_43 (by decide) ?_
        refine x_ls ?_ (ih (k + 1) _ (by omega) (by omega) ⟨?_, ?_⟩)
        · exact ⟨rfl, rfl, rfl, trivial⟩
        · intro t htk ht
          by_cases e : t = k
          · subst e
            have k4 : PR I1 (m * 4 + t + 20) (q t) := (hh m q hm t ht).to (hi3 4 _ (by omega)) (hi3 43 _ (by omega))
            exact pcp_PR k4
          · exact pcp_PRn (hi1 t (by omega) ht) e
        · intro a c hac
          rw [pcp_n (by omega)]
          exact hi3 a c hac
  refine x_start (by decide) (Nat.le_of_ble_eq_true rfl) ?_
  refine x_iload_n dX0_returnTo_0 rfl ?_
  refine x_ifN_lt 12 dX0_returnTo_1 (by decide) (by omega) (fun h1 => ?_)
  refine x_iload_n dX0_returnTo_4 rfl ?_
  refine x_aload_n dX0_returnTo_5 rfl ?_
  refine g_Acts_marks fX0_40 dX0_returnTo_6 ?_
  rw [e3]
  refine x_icN_lt 14 dX0_returnTo_9 (by decide) (by omega) (by omega) (fun h9 => ?_) (fun h9 => absurd h9 (by omega))
  refine x_iconst dX0_returnTo_14 li_0 ?_
  refine x_istore_n dX0_returnTo_15 (by decide) rfl ?_
  refine x_ls ?_ (loop16 5 0 I (by omega) (by omega) ⟨fun t ht => absurd ht (Nat.not_lt_zero t), fun _ _ _ => rfl⟩)
  exact ⟨rfl, rfl, rfl, trivial⟩

theorem bg_PR {I1 : Nat → Nat → Nat → Int32} {k : Nat} (hB : XB V 0 I1) (hk : k < V 0 7 0) (hk4 : k < 4) : PR (xur (xu (xu (xu I1 4 k 0 (I1 25 0 k)) 4 k 1 (nI 0)) 4 k 2 (nI 0)) 43 k (va_cpy (I1 35 k) (I1 43 k) 0 0 6)) k (N0 V k) := by
  refine ⟨fun z hz => ?_, fun s hs => ?_⟩
  · rw [xur_ns (by decide)]
    rcases (show z = 0 ∨ z = 1 ∨ z = 2 by omega) with rfl | rfl | rfl
    · rw [xu_nk (by decide), xu_nk (by decide), xu_s]; exact (hB.2.2.2.2.2.1 k hk).2.2
    · rw [xu_nk (by decide), xu_s]; rfl
    · rw [xu_s]; rfl
  · rw [xur_s, pk_cpy_in (by omega) (by omega)]
    have := hB.2.2.2.2.2.2.2.2.2.2.1 k s hk4 hs
    rw [show k + 4 * 0 = k from rfl] at this
    simp only [Nat.zero_add, Nat.sub_zero]
    rw [this]
    unfold N0
    rw [if_neg (by omega), if_neg (by omega), show 3 + s - 3 = s by omega]

set_option maxRecDepth 100000 in
set_option maxHeartbeats 4000000 in
theorem c_begin (hV : VW V) (hB : XB V 0 I) (hx : ∃ nx, nx < 16 ∧ I 0 0 6 = nI nx) : Mt G vX0_begin (d + 1) (0, 0) [.ref (ad 0 0)] (MM ad nb b r I L) (qV (fun M' => ∃ I', M' = MM ad nb b r I' L ∧ XN V (N0 V) I' ∧ XH V [] I' ∧ XK V [] I' ∧ (∀ a c, ¬ (a = 0 ∨ ((a = 4 ∨ a = 43) ∧ c < 4)) → I' a c = I a c))) := by
  have ht4 := hV.2.2.2.2.2.2.2.1
  obtain ⟨nx, hnx, e6⟩ := hx
  have loop12 : ∀ (n : Nat) (k : Nat) (I1 : Nat → Nat → Nat → Int32), 4 - k < n → k ≤ 4 → (∀ t, t < k → t < V 0 7 0 → PR I1 t (N0 V t)) ∧ (∀ a c, ¬ (a = 0 ∨ ((a = 4 ∨ a = 43) ∧ c < 4)) → I1 a c = I a c) ∧ I1 0 0 2 = nI 0 ∧ I1 0 0 3 = nI 0 ∧ I1 0 0 6 = I 0 0 6 → X G vX0_begin (d + 1) (0, 0) 12 [(0, some (.ref (ad 0 0))), (1, some (.int (nI (k))))] [] (MM ad nb b r I1 L) (xT G (qV (fun M' => ∃ I', M' = MM ad nb b r I' L ∧ XN V (N0 V) I' ∧ XH V [] I' ∧ XK V [] I' ∧ (∀ a c, ¬ (a = 0 ∨ ((a = 4 ∨ a = 43) ∧ c < 4)) → I' a c = I a c)))) := by
    intro n
    induction n with
    | zero => intro k I1 h0; omega
    | succ n ih =>
      intro k I1 hn hk0 hi
      obtain ⟨hi1, hi3, hi4, hi5, hi6⟩ := hi
      have hB1 : XB V 0 I1 := hB.sm (fun s h1 h2 => funext fun c => hi3 s c (by omega))
      refine x_iload_n dX0_begin_12 rfl ?_
      refine x_iconst dX0_begin_13 li_4 ?_
      refine x_icN_ge 86 dX0_begin_14 (by decide) (by omega) (by omega) (fun h14 => ?_) (fun h14 => ?_)
      · refine x_vret dX0_begin_86 rfl ?_
        have e4 : k = 4 := by omega
        subst e4
        refine ⟨rfl, _, rfl, fun t ht => hi1 t (by omega) ht, ⟨nx, hnx, hi6.trans e6, hi4, by simp, fun i q hq => by simp at hq⟩, ⟨hi5, by simp, fun m q hm => by simp at hm⟩, hi3⟩
      · refine x_aload_n dX0_begin_17 rfl ?_
        refine g_Acts_now fX0_15 dX0_begin_18 ?_
        refine x_iload_n dX0_begin_21 rfl ?_
        refine aa_Acts_now dX0_begin_22 rfl (by first | exact Nat.le_of_ble_eq_true rfl | assumption | omega) ?_
        refine x_aload_n dX0_begin_23 rfl ?_
        refine g_Acts_border fX0_29 dX0_begin_24 ?_
        refine g_Border_start fX0_43 dX0_begin_27 (by first | exact Nat.le_of_ble_eq_true rfl | assumption | omega) ?_
        refine x_iload_n dX0_begin_30 rfl ?_
        refine x_iald dX0_begin_31 rfl rfl (Nat.lt_of_lt_of_le (by first | assumption | omega | decide) (Nat.le_refl 2)) (by first | exact Nat.le_of_ble_eq_true rfl | assumption | omega) ?_
        refine p_Person_place fX0_48 dX0_begin_32 (by first | exact Nat.le_of_ble_eq_true rfl | assumption | omega) ?_
        refine x_aload_n dX0_begin_35 rfl ?_
        refine g_Acts_now fX0_15 dX0_begin_36 ?_
        refine x_iload_n dX0_begin_39 rfl ?_
        refine aa_Acts_now dX0_begin_40 rfl (by first | exact Nat.le_of_ble_eq_true rfl | assumption | omega) ?_
        refine x_iconst dX0_begin_41 li_0 ?_
        refine p_Person_paid fX0_51 dX0_begin_42 (by first | exact Nat.le_of_ble_eq_true rfl | assumption | omega) ?_
        refine x_aload_n dX0_begin_45 rfl ?_
        refine g_Acts_now fX0_15 dX0_begin_46 ?_
        refine x_iload_n dX0_begin_49 rfl ?_
        refine aa_Acts_now dX0_begin_50 rfl (by first | exact Nat.le_of_ble_eq_true rfl | assumption | omega) ?_
        refine x_iconst dX0_begin_51 li_0 ?_
        refine p_Person_hours fX0_54 dX0_begin_52 (by first | exact Nat.le_of_ble_eq_true rfl | assumption | omega) ?_
        refine x_aload_n dX0_begin_55 rfl ?_
        refine g_Acts_border fX0_29 dX0_begin_56 ?_
        refine g_Border_on fX0_57 dX0_begin_59 (by first | exact Nat.le_of_ble_eq_true rfl | assumption | omega) ?_
        refine x_iload_n dX0_begin_62 rfl ?_
        refine aa_Border_on0 dX0_begin_63 rfl (by first | exact Nat.le_of_ble_eq_true rfl | assumption | omega) ?_
        refine x_iconst dX0_begin_64 li_0 ?_
        refine x_aload_n dX0_begin_65 rfl ?_
        refine g_Acts_now fX0_15 dX0_begin_66 ?_
        refine x_iload_n dX0_begin_69 rfl ?_
        refine aa_Acts_now dX0_begin_70 rfl (by first | exact Nat.le_of_ble_eq_true rfl | assumption | omega) ?_
        refine g_Person_halves fX0_61 dX0_begin_71 (by first | exact Nat.le_of_ble_eq_true rfl | assumption | omega) ?_
        refine x_iconst dX0_begin_74 li_0 ?_
        refine x_bipush dX0_begin_75 lb_6 ?_
        refine x_copy dX0_begin_77 (xm4 6 rfl rfl) rfl rfl rfl rfl rfl (Nat.lt_of_lt_of_le (by first | assumption | omega | decide) (Nat.le_refl 8)) (Nat.lt_of_lt_of_le (by first | assumption | omega | decide) (Nat.le_refl 32)) (by first | exact Nat.le_of_ble_eq_true rfl | assumption | omega) (by first | exact Nat.le_of_ble_eq_true rfl | assumption | omega) (Nat.le_of_ble_eq_true rfl) ?_
        have e35 : ∀ z, xu (xu (xu I1 4 k 0 (I1 25 0 k)) 4 k 1 (nI 0)) 4 k 2 (nI 0) 35 z = I1 35 z := fun z => funext fun q => by rw [xu_ns (by decide), xu_ns (by decide), xu_ns (by decide)]
        have e43 : ∀ z, xu (xu (xu I1 4 k 0 (I1 25 0 k)) 4 k 1 (nI 0)) 4 k 2 (nI 0) 43 z = I1 43 z := fun z => funext fun q => by rw [xu_ns (by decide), xu_ns (by decide), xu_ns (by decide)]
        rw [e35, e43]
        refine x_iincN 1 dX0_begin_80 li_1 rfl (by decide) rfl ?_
        refine x_goto 12 dX0_begin_83 (by decide) ?_
        refine x_ls ?_ (ih (k + 1) _ (by omega) (by omega) ⟨?_, ?_, ?_, ?_, ?_⟩)
        · exact ⟨rfl, rfl, trivial⟩
        · intro t htk ht
          by_cases e : t = k
          · subst e; exact bg_PR hB1 ht (by omega)
          · exact (hi1 t (by omega) ht).to (by rw [xur_ns (by decide)]; funext z; rw [xu_ni e, xu_ni e, xu_ni e]) (by rw [xur_ni e]; funext z; rw [xu_ns (by decide), xu_ns (by decide), xu_ns (by decide)])
        · intro a c hac
          rw [xur_n (by omega)]
          funext z
          rw [xu_n (by omega), xu_n (by omega), xu_n (by omega), hi3 a c hac]
        · rw [xur_ns (by decide), xu_ns (by decide), xu_ns (by decide), xu_ns (by decide)]; exact hi4
        · rw [xur_ns (by decide), xu_ns (by decide), xu_ns (by decide), xu_ns (by decide)]; exact hi5
        · rw [xur_ns (by decide), xu_ns (by decide), xu_ns (by decide), xu_ns (by decide)]; exact hi6
  refine x_start (by decide) (Nat.le_of_ble_eq_true rfl) ?_
  refine x_aload_n dX0_begin_0 rfl ?_
  refine x_iconst dX0_begin_1 li_0 ?_
  refine p_Acts_kept fX0_36 dX0_begin_2 ?_
  refine x_aload_n dX0_begin_5 rfl ?_
  refine x_iconst dX0_begin_6 li_0 ?_
  refine p_Acts_marks fX0_40 dX0_begin_7 ?_
  refine x_iconst dX0_begin_10 li_0 ?_
  refine x_istore_n dX0_begin_11 (by decide) rfl ?_
  refine x_ls ?_ (loop12 5 0 _ (by omega) (by omega) ⟨fun t ht => absurd ht (Nat.not_lt_zero t), ?_, ?_, ?_, ?_⟩)
  · exact ⟨rfl, rfl, trivial⟩
  · intro a c hac; funext z; rw [xu_ns (by omega), xu_ns (by omega)]
  · rw [xu_nk (by decide), xu_s]
  · rw [xu_s]
  · rw [xu_nk (by decide), xu_nk (by decide)]
end Acts
