section Tel3
variable {G : xG} {ad : Nat → Nat → Nat} {nb : Nat} {b r : Option Nat} {L : Nat → Nat → Nat → Int64} {V : sV} {I : Nat → Nat → Nat → Int32} {d : Nat}

def pNew (V : sV) (T : Nat → Nat) (e : Nat) (nm : List (Nat × Nat × Nat)) (so a : Nat) : pR := if isN T e a = true then (if nmA T e nm a < nm.length then .inl (3, tA T e a) else .inr (V 0 so 0)) else .inl (1, tA T e a)
def F4 (I I' : Nat → Nat → Nat → Int32) : Prop := ∀ s, s ≠ 6 → s ≠ 7 → s ≠ 39 → s ≠ 40 → I' s = I s
def qN (T : Nat → Nat) (e a so : Nat) (nm : List (Nat × Nat × Nat)) (ad : Nat → Nat → Nat) (nb : Nat) (b r : Option Nat) (I : Nat → Nat → Nat → Int32) (L : Nat → Nat → Nat → Int64) (q : pR) : Option Value → xM → Prop := qI (fun rr M' => match q with
  | .inl f => rr = nI 0 ∧ ∃ I' L', M' = MM ad nb b r I' L' ∧ I' 6 0 1 = nI f.1 ∧ I' 6 0 2 = nI f.2 ∧ FP I I' ∧ FL L L'
  | .inr num => rr = nI 1 ∧ ∃ I' L', M' = MM ad nb b r I' L' ∧ TK T e (nx T e a) I' L' ∧ I' 6 0 8 = nI num ∧ I' 6 0 9 = nI (tA T e a) ∧ XNm T e (nm ++ [(a, so, num)]) I' L' ∧ I' 6 0 1 = I 6 0 1 ∧ I' 6 0 2 = I 6 0 2 ∧ F4 I I' ∧ FL L L')
theorem qN_no {T : Nat → Nat} {e a so : Nat} {nm : List (Nat × Nat × Nat)} {f at' : Nat} {q : pR} (h : q = .inl (f, at')) : qN T e a so nm ad nb b r I L q (some (.int (nI 0))) (MM ad nb b r (xu (xu I 6 0 1 (nI f)) 6 0 2 (nI at')) L) := by
  subst h
  refine ⟨_, rfl, rfl, _, _, rfl, ?_, xu_s, fun a c hac => ?_, fun _ _ _ => rfl⟩
  · rw [xu_nk (by decide), xu_s]
  · funext x; rw [xu_ns (by omega), xu_ns (by omega)]

set_option maxRecDepth 100000 in
set_option maxHeartbeats 4000000 in
theorem c_newName {T : Nat → Nat} {e : Nat} (hE : e ≤ 1100) (hT : ∀ i, i < e → I 14 0 i = nI (T i)) (hT2 : ∀ i, T i < 256) {a : Nat} (ha : a ≤ e) (hK : TK T e a I L) (hB : XB V 1 I) {nm : List (Nat × Nat × Nat)} (hN : XNm T e nm I L) {so : Nat} (hso : so < 12) (hn24 : nm.length < 24) (hs6 : V 0 so 0 ≤ 6) : Mt G vX6_newName (d + 1 + 1 + 1 + 1 + 1) (0, 0) [.ref (ad 6 0), .int (nI (so))] (MM ad nb b r I L) (qN T e a so nm ad nb b r I L (pNew V T e nm so a)) := by
  have hkd := kd_le (T := T) (e := e) (a := a)
  obtain ⟨w1, w2⟩ := wiN_eq (k := 0) (v := vl T e a) (by omega)
  have n1 := hN.1
  have es : I 16 1 so = nI (V 0 so 0) := hB.1 so hso
  refine x_start (by decide) (Nat.le_of_ble_eq_true rfl) ?_
  refine x_aload_n dX6_newName_0 rfl ?_
  refine g_Teller_tokens fX6_34 dX6_newName_1 ?_
  refine g_Tokens_kind fX6_59 dX6_newName_4 ?_
  refine x_top (v := nI (kd T e a)) hK.2.2.2.1 ?_
  refine x_iconst dX6_newName_7 li_1 ?_
  refine x_icN_ne 24 dX6_newName_8 (by decide) (by omega) (by omega) (fun h8 => ?_) (fun h8 => ?_)
  · refine x_aload_n dX6_newName_24 rfl ?_
    refine x_iconst dX6_newName_25 li_1 ?_
    refine x_aload_n dX6_newName_26 rfl ?_
    refine g_Teller_tokens fX6_34 dX6_newName_27 ?_
    refine g_Tokens_at fX6_65 dX6_newName_30 ?_
    rw [hK.2.1]
    refine x_cvi (c_wrong) kX6_68 dX6_newName_33 rfl (Nat.le_of_ble_eq_true rfl) rfl rfl (Nat.le_of_ble_eq_true rfl) (fun ru Mu hq => ?_)
    obtain ⟨rfl, rfl⟩ := hq
    refine x_zret dX6_newName_36 rfl rfl ?_
    refine qN_no ?_
    have hn : isN T e a = false := by
      unfold isN
      first
        | (rw [decide_eq_false h8]; rfl)
        | (rw [show decide (wiN 0 (vl T e a) = 0) = false from decide_eq_false (fun z => h21 (by rw [if_pos h8, w1, z]; rfl)), Bool.and_false])
    unfold pNew
    rw [hn]
    rfl
  · refine x_aload_n dX6_newName_11 rfl ?_
    refine g_Teller_tokens fX6_34 dX6_newName_12 ?_
    refine x_ldcS (n := 0) dX6_newName_15 rfl ?_
    refine x_cvi (c_wordIn (d := d) (i := 0) (by omega) (kn := kd T e a) (v := vl T e a) hK.2.2.2.1 hkd hK.2.2.2.2) kX6_77 dX6_newName_17 rfl (Nat.le_of_ble_eq_true rfl) rfl rfl (Nat.le_of_ble_eq_true rfl) (fun ru Mu hq => ?_)
    obtain ⟨rfl, rfl⟩ := hq
    refine x_iconst dX6_newName_20 li_m1 ?_
    refine x_ic_eq 37 dX6_newName_21 (by decide) (fun h21 => ?_) (fun h21 => ?_)
    · have hn : isN T e a = true := by
        unfold isN
        rw [decide_eq_true h8, Bool.true_and]
        refine decide_eq_true (Classical.byContradiction fun z => ?_)
        rw [if_pos h8, w1, nO_pos z] at h21
        exact nI_ne_m1 (by omega) h21
      refine x_aload_n dX6_newName_37 rfl ?_
      refine x_cvi (c_nameAt (d := d + 1 + 1 + 1 + 1) hK hN) kX6_222 dX6_newName_38 rfl (Nat.le_of_ble_eq_true rfl) rfl rfl (Nat.le_of_ble_eq_true rfl) (fun ru Mu hq => ?_)
      obtain ⟨rfl, rfl⟩ := hq
      refine x_iconst dX6_newName_41 li_m1 ?_
      refine x_ic_eq 58 dX6_newName_42 (by decide) (fun h42 => ?_) (fun h42 => ?_)
      · refine x_aload_n dX6_newName_58 rfl ?_
        refine g_Teller_named fX6_41 dX6_newName_59 ?_
        rw [n1]
        refine x_bipush dX6_newName_62 lb_24 ?_
        refine x_icN_lt 80 dX6_newName_64 (by decide) (by omega) (by omega) (fun h64 => ?_) (fun h64 => absurd hn24 (by omega))
        refine x_aload_n dX6_newName_80 rfl ?_
        refine g_Teller_names fX6_18 dX6_newName_81 ?_
        refine x_aload_n dX6_newName_84 rfl ?_
        refine g_Teller_named fX6_41 dX6_newName_85 ?_
        rw [n1]
        refine x_aload_n dX6_newName_88 rfl ?_
        refine g_Teller_tokens fX6_34 dX6_newName_89 ?_
        refine g_Tokens_value fX6_218 dX6_newName_92 ?_
        rw [hK.2.2.2.2]
        refine x_last dX6_newName_95 rfl rfl (Nat.le_of_ble_eq_true rfl) (by first | exact Nat.le_of_ble_eq_true rfl | assumption | omega) ?_
        refine x_aload_n dX6_newName_96 rfl ?_
        refine g_Teller_nameSorts fX6_22 dX6_newName_97 ?_
        refine x_aload_n dX6_newName_100 rfl ?_
        refine g_Teller_named fX6_41 dX6_newName_101 ?_
        rw [n1]
        refine x_iload_n dX6_newName_104 rfl ?_
        refine x_iast dX6_newName_105 rfl rfl (Nat.le_of_ble_eq_true rfl) (by first | exact Nat.le_of_ble_eq_true rfl | assumption | omega) ?_
        refine x_aload_n dX6_newName_106 rfl ?_
        refine g_Teller_nameNumbers fX6_26 dX6_newName_107 ?_
        refine x_aload_n dX6_newName_110 rfl ?_
        refine g_Teller_named fX6_41 dX6_newName_111 ?_
        rw [xu_ns (by decide), n1]
        refine x_aload_n dX6_newName_114 rfl ?_
        refine g_Teller_draft fX6_12 dX6_newName_115 ?_
        refine g_Border_sizes fX6_72 dX6_newName_118 (by first | exact Nat.le_of_ble_eq_true rfl | assumption | omega) ?_
        refine x_iload_n dX6_newName_121 rfl ?_
        refine x_iald dX6_newName_122 rfl rfl (Nat.lt_of_lt_of_le (by first | assumption | omega | decide) (Nat.le_refl 2)) (by first | exact Nat.le_of_ble_eq_true rfl | assumption | omega) ?_
        rw [xu_ns (by decide), es]
        refine x_iast dX6_newName_123 rfl rfl (Nat.le_of_ble_eq_true rfl) (by first | exact Nat.le_of_ble_eq_true rfl | assumption | omega) ?_
        refine x_aload_n dX6_newName_124 rfl ?_
        refine x_dup dX6_newName_125 rfl ?_
        refine g_Teller_named fX6_41 dX6_newName_126 ?_
        rw [xu_ns (by decide), xu_ns (by decide), n1]
        refine x_iconst dX6_newName_129 li_1 ?_
        refine x_iaddN dX6_newName_130 ?_
        refine p_Teller_named fX6_41 dX6_newName_131 ?_
        refine x_aload_n dX6_newName_134 rfl ?_
        refine x_aload_n dX6_newName_135 rfl ?_
        refine g_Teller_draft fX6_12 dX6_newName_136 ?_
        refine g_Border_sizes fX6_72 dX6_newName_139 (by first | exact Nat.le_of_ble_eq_true rfl | assumption | omega) ?_
        refine x_iload_n dX6_newName_142 rfl ?_
        refine x_iald dX6_newName_143 rfl rfl (Nat.lt_of_lt_of_le (by first | assumption | omega | decide) (Nat.le_refl 2)) (by first | exact Nat.le_of_ble_eq_true rfl | assumption | omega) ?_
        rw [xu_ns (by decide), xu_ns (by decide), xu_ns (by decide), es]
        have hK3 : TK T e a (xu (xu (xu I 39 0 nm.length (nI so)) 40 0 nm.length (nI (V 0 so 0))) 6 0 7 (nI (nm.length + 1))) (xu L 38 0 nm.length (vl T e a)) := by
          have f7 : ∀ k, (xu (xu (xu I 39 0 nm.length (nI so)) 40 0 nm.length (nI (V 0 so 0))) 6 0 7 (nI (nm.length + 1))) 7 0 k = I 7 0 k := fun k => by rw [xu_ns (by decide), xu_ns (by decide), xu_ns (by decide)]
          have g7 : (xu L 38 0 nm.length (vl T e a)) 7 0 5 = L 7 0 5 := xu_ns (by decide)
          unfold TK TKF at hK ⊢
          rw [f7, f7, f7, f7, g7]
          exact hK
        refine x_cvi (c_ttake (I := (xu (xu (xu I 39 0 nm.length (nI so)) 40 0 nm.length (nI (V 0 so 0))) 6 0 7 (nI (nm.length + 1)))) (L := (xu L 38 0 nm.length (vl T e a))) (d := d + 3) (num := V 0 so 0) hE (fun i hi => by rw [xu_ns (by decide), xu_ns (by decide), xu_ns (by decide)]; exact hT i hi) hT2 ha hK3) kX6_215 dX6_newName_144 rfl (Nat.le_of_ble_eq_true rfl) rfl rfl (Nat.le_of_ble_eq_true rfl) (fun ru Mu hq => ?_)
        obtain ⟨rfl, I2, L2, rfl, k1, k2, k3, k4, k5, k6⟩ := hq
        refine x_zret dX6_newName_147 rfl rfl ?_
        have hq : pNew V T e nm so a = .inr (V 0 so 0) := by
          unfold pNew
          rw [if_pos hn, if_neg]
          intro q
          rw [if_pos q] at h42
          exact nI_ne_m1 (by omega) h42
        rw [hq]
        refine ⟨_, rfl, rfl, _, _, rfl, k1, k2, k3, ⟨?_, by rw [List.length_append]; exact hn24, fun i q hi => ?_⟩, ?_, ?_, fun s h6 h7 h39 h40 => ?_, fun s h7 h38 => ?_⟩
        · rw [k4 7 (by decide) (by decide), xu_s, List.length_append]; rfl
        · rw [k5 39 (by decide) (by decide), k5 40 (by decide) (by decide), k6 38 (by decide)]
          rw [xu_ns (a := 39) (by decide), xu_ns (a := 39) (by decide), xu_ns (a := 40) (by decide), xu_at, xu_at, xu_at]
          by_cases e0 : i = nm.length
          · subst e0
            rw [List.getElem?_concat_length] at hi
            cases hi
            rw [if_pos rfl, if_pos rfl, if_pos rfl]
            exact ⟨h8, hso, hs6, rfl, rfl, rfl⟩
          · rw [if_neg e0, if_neg e0, if_neg e0]
            have hlt : i < nm.length := by have h9 := (List.getElem?_eq_some_iff.mp hi).1; rw [List.length_append, List.length_singleton] at h9; omega
            rw [List.getElem?_append_left hlt] at hi
            have h9 := hN.2.2 i q hi
            rw [xu_ns (by decide)]
            exact h9
        · rw [k4 1 (by decide) (by decide), xu_nk (by decide), xu_ns (by decide), xu_ns (by decide)]
        · rw [k4 2 (by decide) (by decide), xu_nk (by decide), xu_ns (by decide), xu_ns (by decide)]
        · rw [k5 s h6 h7]; funext x y; rw [xu_ns h6, xu_ns h40, xu_ns h39]
        · rw [k6 s h7]; funext x y; rw [xu_ns h38]
      · refine x_aload_n dX6_newName_45 rfl ?_
        refine x_iconst dX6_newName_46 li_3 ?_
        refine x_aload_n dX6_newName_47 rfl ?_
        refine g_Teller_tokens fX6_34 dX6_newName_48 ?_
        refine g_Tokens_at fX6_65 dX6_newName_51 ?_
        rw [hK.2.1]
        refine x_cvi (c_wrong) kX6_68 dX6_newName_54 rfl (Nat.le_of_ble_eq_true rfl) rfl rfl (Nat.le_of_ble_eq_true rfl) (fun ru Mu hq => ?_)
        obtain ⟨rfl, rfl⟩ := hq
        refine x_zret dX6_newName_57 rfl rfl ?_
        refine qN_no ?_
        unfold pNew
        rw [if_pos hn, if_pos]
        exact Classical.byContradiction fun q => h42 (if_neg q)
    · refine x_aload_n dX6_newName_24 rfl ?_
      refine x_iconst dX6_newName_25 li_1 ?_
      refine x_aload_n dX6_newName_26 rfl ?_
      refine g_Teller_tokens fX6_34 dX6_newName_27 ?_
      refine g_Tokens_at fX6_65 dX6_newName_30 ?_
      rw [hK.2.1]
      refine x_cvi (c_wrong) kX6_68 dX6_newName_33 rfl (Nat.le_of_ble_eq_true rfl) rfl rfl (Nat.le_of_ble_eq_true rfl) (fun ru Mu hq => ?_)
      obtain ⟨rfl, rfl⟩ := hq
      refine x_zret dX6_newName_36 rfl rfl ?_
      refine qN_no ?_
      have hn : isN T e a = false := by
        unfold isN
        first
          | (rw [decide_eq_false h8]; rfl)
          | (rw [show decide (wiN 0 (vl T e a) = 0) = false from decide_eq_false (fun z => h21 (by rw [if_pos h8, w1, z]; rfl)), Bool.and_false])
      unfold pNew
      rw [hn]
      rfl
set_option maxRecDepth 100000 in
set_option maxHeartbeats 4000000 in
theorem c_count (hB : XB V 1 I) {so : Nat} (hso : so < 12) : Mt G vX6_count (d) (0, 0) [.ref (ad 6 0), .int (nI (so))] (MM ad nb b r I L) (qE (nI 1) (MM ad nb b r (xu I 16 1 so (nI (V 0 so 0 + 1))) L)) := by
  refine x_start (by decide) (Nat.le_of_ble_eq_true rfl) ?_
  refine x_aload_n dX6_count_0 rfl ?_
  refine g_Teller_draft fX6_12 dX6_count_1 ?_
  refine g_Border_sizes fX6_72 dX6_count_4 (by first | exact Nat.le_of_ble_eq_true rfl | assumption | omega) ?_
  refine x_iload_n dX6_count_7 rfl ?_
  refine x_dup2 dX6_count_8 rfl rfl ?_
  refine x_iald dX6_count_9 rfl rfl (Nat.lt_of_lt_of_le (by first | assumption | omega | decide) (Nat.le_refl 2)) (by first | exact Nat.le_of_ble_eq_true rfl | assumption | omega) ?_
  rw [hB.1 so hso]
  refine x_iconst dX6_count_10 li_1 ?_
  refine x_iaddN dX6_count_11 ?_
  refine x_iast dX6_count_12 rfl rfl (Nat.lt_of_lt_of_le (by first | assumption | omega | decide) (Nat.le_refl 2)) (by first | exact Nat.le_of_ble_eq_true rfl | assumption | omega) ?_
  refine x_iconst dX6_count_13 li_1 ?_
  refine x_zret dX6_count_14 rfl rfl ?_
  exact ⟨_, rfl, rfl, rfl⟩
end Tel3
