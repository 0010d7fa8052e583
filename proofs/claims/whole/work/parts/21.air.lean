section Air2
variable {G : xG} {ad : Nat → Nat → Nat} {nb : Nat} {b r : Option Nat} {L : Nat → Nat → Nat → Int64} {V : sV} {I : Nat → Nat → Nat → Int32} {d : Nat}

def qE (v : Int32) (M : xM) : Option Value → xM → Prop := qI (fun r M' => r = v ∧ M' = M)
def bI (c : Bool) : Int32 := if c = true then nI 1 else nI 0
theorem bI_1 {c : Bool} (h : c = true) : nI 1 = bI c := by unfold bI; rw [if_pos h]
theorem bI_0 {c : Bool} (h : ¬ c = true) : nI 0 = bI c := by unfold bI; rw [if_neg h]
theorem bI_ne {c : Bool} : ¬ bI c = 0 ↔ c = true := by cases c <;> decide
theorem bI_eq {c : Bool} : bI c = 0 ↔ c = false := by cases c <;> decide
theorem nI_or (a c : Nat) : nI a ||| nI c = nI (a ||| c) := by
  apply Int32.toBitVec_inj.mp
  simp only [nI, Int32.toBitVec_or, Int32.toBitVec_ofNat', BitVec.ofNat_or]
theorem sh1 : ∀ s, s < 31 → nI 1 <<< (nI s &&& 31) = nI (2 ^ s) := by decide +kernel

set_option maxRecDepth 100000 in
set_option maxHeartbeats 4000000 in
theorem c_uncovered (hV : VW V) (hB : XB V 0 I) {g : Nat → Nat} (hA : AirAt V g I) (hg : ∀ s, s < 6 → g s ≤ 99) {s : Nat} (hs : s < V 0 2 0) : Mt G vX1_uncovered (d) (0, 0) [.ref (ad 1 0), .int (nI (s))] (MM ad nb b r I L) (qE (nI (unc V g s)) (MM ad nb b r I L)) := by
  have hs6 := hV.2.2.1
  have ek : I 18 0 s = nI (V 2 s 0) := (hB.2.2.1 s hs).1
  have hk5 : V 2 s 0 < 5 := (hV.2.2.2.2.2.2.2.2.2.2.2.2.2.1 s hs).1
  have eg : I 41 0 s = nI (g s) := hA.1 s hs
  have hgs := hg s (by omega)
  have hc : cvr V g (V 0 2 0) ≤ 99 := cvr_le _ (fun s hs => hg s (by omega))
  refine x_start (by decide) (Nat.le_of_ble_eq_true rfl) ?_
  refine x_aload_n dX1_uncovered_0 rfl ?_
  refine g_Air_border fX1_15 dX1_uncovered_1 ?_
  refine g_Border_smellKind fX1_24 dX1_uncovered_4 (by first | exact Nat.le_of_ble_eq_true rfl | assumption | omega) ?_
  refine x_iload_n dX1_uncovered_7 rfl ?_
  refine x_iald dX1_uncovered_8 rfl rfl (Nat.lt_of_lt_of_le (by first | assumption | omega | decide) (Nat.le_refl 2)) (by first | exact Nat.le_of_ble_eq_true rfl | assumption | omega) ?_
  rw [ek]
  refine x_iconst dX1_uncovered_9 li_2 ?_
  refine x_icN_ne 20 dX1_uncovered_10 (by decide) (by omega) (by omega) (fun h10 => ?_) (fun h10 => ?_)
  · refine x_aload_n dX1_uncovered_20 rfl ?_
    refine g_Air_strong fX1_9 dX1_uncovered_21 ?_
    refine x_iload_n dX1_uncovered_24 rfl ?_
    refine x_iald dX1_uncovered_25 rfl rfl (Nat.le_of_ble_eq_true rfl) (by first | exact Nat.le_of_ble_eq_true rfl | assumption | omega) ?_
    rw [eg]
    refine x_aload_n dX1_uncovered_26 rfl ?_
    refine g_Air_veil fX1_36 dX1_uncovered_27 ?_
    rw [hA.2]
    refine x_icN_le 47 dX1_uncovered_30 (by decide) (by omega) (by omega) (fun h30 => ?_) (fun h30 => ?_)
    · refine x_iconst dX1_uncovered_47 li_0 ?_
      refine x_iret dX1_uncovered_48 rfl ?_
      refine ⟨_, rfl, ?_, rfl⟩
      unfold unc
      rw [if_neg h10]
      try rw [show g s - cvr V g (V 0 2 0) / 2 = 0 by omega]
    · refine x_aload_n dX1_uncovered_33 rfl ?_
      refine g_Air_strong fX1_9 dX1_uncovered_34 ?_
      refine x_iload_n dX1_uncovered_37 rfl ?_
      refine x_iald dX1_uncovered_38 rfl rfl (Nat.le_of_ble_eq_true rfl) (by first | exact Nat.le_of_ble_eq_true rfl | assumption | omega) ?_
      rw [eg]
      refine x_aload_n dX1_uncovered_39 rfl ?_
      refine g_Air_veil fX1_36 dX1_uncovered_40 ?_
      rw [hA.2]
      refine x_isubN dX1_uncovered_43 (Nat.le_of_lt h30) ?_
      refine x_goto 48 dX1_uncovered_44 (by decide) ?_
      refine x_iret dX1_uncovered_48 rfl ?_
      refine ⟨_, rfl, ?_, rfl⟩
      unfold unc
      rw [if_neg h10]
      try rw [show g s - cvr V g (V 0 2 0) / 2 = 0 by omega]
  · refine x_aload_n dX1_uncovered_13 rfl ?_
    refine g_Air_strong fX1_9 dX1_uncovered_14 ?_
    refine x_iload_n dX1_uncovered_17 rfl ?_
    refine x_iald dX1_uncovered_18 rfl rfl (Nat.le_of_ble_eq_true rfl) (by first | exact Nat.le_of_ble_eq_true rfl | assumption | omega) ?_
    rw [eg]
    refine x_iret dX1_uncovered_19 rfl ?_
    exact ⟨_, rfl, by unfold unc; rw [if_pos h10], rfl⟩
set_option maxRecDepth 100000 in
set_option maxHeartbeats 4000000 in
theorem c_isDutiable (hV : VW V) (hB : XB V 0 I) {s land : Nat} (hs : s < V 0 2 0) (hl : land < 4) : Mt G vX1_isDutiable (d) (0, 0) [.ref (ad 1 0), .int (nI (s)), .int (nI (land))] (MM ad nb b r I L) (qE (bI (dtb V s land)) (MM ad nb b r I L)) := by
  have hs6 := hV.2.2.1
  have hl4 := hV.2.1
  have ek : I 18 0 s = nI (V 2 s 0) := (hB.2.2.1 s hs).1
  have el : I 19 0 s = nI (V 3 s 0) := (hB.2.2.1 s hs).2
  obtain ⟨hk5, hl5⟩ := hV.2.2.2.2.2.2.2.2.2.2.2.2.2.1 s hs
  refine x_start (by decide) (Nat.le_of_ble_eq_true rfl) ?_
  refine x_aload_n dX1_isDutiable_0 rfl ?_
  refine g_Air_border fX1_15 dX1_isDutiable_1 ?_
  refine g_Border_smellKind fX1_24 dX1_isDutiable_4 (by first | exact Nat.le_of_ble_eq_true rfl | assumption | omega) ?_
  refine x_iload_n dX1_isDutiable_7 rfl ?_
  refine x_iald dX1_isDutiable_8 rfl rfl (Nat.lt_of_lt_of_le (by first | assumption | omega | decide) (Nat.le_refl 2)) (by first | exact Nat.le_of_ble_eq_true rfl | assumption | omega) ?_
  rw [ek]
  refine x_istore_n dX1_isDutiable_9 (by decide) rfl ?_
  refine x_iload_n dX1_isDutiable_10 rfl ?_
  refine x_iconst dX1_isDutiable_11 li_3 ?_
  refine x_icN_eq 37 dX1_isDutiable_12 (by decide) (by omega) (by omega) (fun h12 => ?_) (fun h12 => ?_)
  · refine x_iconst dX1_isDutiable_37 li_0 ?_
    refine x_zret dX1_isDutiable_38 rfl rfl ?_
    refine ⟨_, rfl, ?_, rfl⟩
    first | (refine bI_1 ?_; simp [dtb, *]; done) | (refine bI_0 ?_; simp [dtb, *]; done)
  · refine x_iload_n dX1_isDutiable_15 rfl ?_
    refine x_iconst dX1_isDutiable_16 li_4 ?_
    refine x_icN_eq 37 dX1_isDutiable_17 (by decide) (by omega) (by omega) (fun h17 => ?_) (fun h17 => ?_)
    · refine x_iconst dX1_isDutiable_37 li_0 ?_
      refine x_zret dX1_isDutiable_38 rfl rfl ?_
      refine ⟨_, rfl, ?_, rfl⟩
      first | (refine bI_1 ?_; simp [dtb, *]; done) | (refine bI_0 ?_; simp [dtb, *]; done)
    · refine x_aload_n dX1_isDutiable_20 rfl ?_
      refine g_Air_border fX1_15 dX1_isDutiable_21 ?_
      refine g_Border_smellLand fX1_54 dX1_isDutiable_24 (by first | exact Nat.le_of_ble_eq_true rfl | assumption | omega) ?_
      refine x_iload_n dX1_isDutiable_27 rfl ?_
      refine x_iald dX1_isDutiable_28 rfl rfl (Nat.lt_of_lt_of_le (by first | assumption | omega | decide) (Nat.le_refl 2)) (by first | exact Nat.le_of_ble_eq_true rfl | assumption | omega) ?_
      rw [el]
      refine x_iload_n dX1_isDutiable_29 rfl ?_
      refine x_icN_eq 37 dX1_isDutiable_30 (by decide) (by omega) (by omega) (fun h30 => ?_) (fun h30 => ?_)
      · refine x_iconst dX1_isDutiable_37 li_0 ?_
        refine x_zret dX1_isDutiable_38 rfl rfl ?_
        refine ⟨_, rfl, ?_, rfl⟩
        first | (refine bI_1 ?_; simp [dtb, *]; done) | (refine bI_0 ?_; simp [dtb, *]; done)
      · refine x_iconst dX1_isDutiable_33 li_1 ?_
        refine x_goto 38 dX1_isDutiable_34 (by decide) ?_
        refine x_zret dX1_isDutiable_38 rfl rfl ?_
        refine ⟨_, rfl, ?_, rfl⟩
        first | (refine bI_1 ?_; simp [dtb, *]; done) | (refine bI_0 ?_; simp [dtb, *]; done)
def smb (V : sV) (g : Nat → Nat) (skill : Nat) : Nat → Nat
  | 0 => 0
  | n + 1 => if skill ≤ unc V g n then smb V g skill n ||| 2 ^ n else smb V g skill n
theorem unc_le {g : Nat → Nat} {s : Nat} (h : g s ≤ 99) : unc V g s ≤ 99 := by unfold unc; split <;> omega
set_option maxRecDepth 100000 in
set_option maxHeartbeats 4000000 in
theorem c_smeltBy (hV : VW V) (hB : XB V 0 I) {g : Nat → Nat} (hA : AirAt V g I) (hg : ∀ s, s < 6 → g s ≤ 99) {skill : Nat} (hsk : skill ≤ 60) : Mt G vX1_smeltBy (d + 1) (0, 0) [.ref (ad 1 0), .int (nI (skill))] (MM ad nb b r I L) (qE (nI (smb V g skill (V 0 2 0))) (MM ad nb b r I L)) := by
  have hs6 := hV.2.2.1
  have e2 : I 16 0 2 = nI (V 0 2 0) := hB.1 2 (by omega)
  have loop4 : ∀ (n : Nat) (k : Nat), V 0 2 0 - k < n → k ≤ V 0 2 0 → X G vX1_smeltBy (d + 1) (0, 0) 4 [(0, some (.ref (ad 1 0))), (1, some (.int (nI (skill)))), (2, some (.int (nI (smb V g skill k)))), (3, some (.int (nI (k))))] [] (MM ad nb b r I L) (xT G (qE (nI (smb V g skill (V 0 2 0))) (MM ad nb b r I L))) := by
    intro n
    induction n with
    | zero => intro k h0; omega
    | succ n ih =>
      intro k hn hk0
      refine x_iload_n dX1_smeltBy_4 rfl ?_
      refine x_aload_n dX1_smeltBy_5 rfl ?_
      refine g_Air_border fX1_15 dX1_smeltBy_6 ?_
      refine g_Border_sizes fX1_19 dX1_smeltBy_9 (by first | exact Nat.le_of_ble_eq_true rfl | assumption | omega) ?_
      refine x_iconst dX1_smeltBy_12 li_2 ?_
      refine x_iald dX1_smeltBy_13 rfl rfl (Nat.lt_of_lt_of_le (by first | assumption | omega | decide) (Nat.le_refl 2)) (by first | exact Nat.le_of_ble_eq_true rfl | assumption | omega) ?_
      rw [e2]
      refine x_icN_ge 38 dX1_smeltBy_14 (by decide) (by omega) (by omega) (fun h14 => ?_) (fun h14 => ?_)
      · refine x_iload_n dX1_smeltBy_38 rfl ?_
        refine x_iret dX1_smeltBy_39 rfl ?_
        exact ⟨_, rfl, by rw [Nat.le_antisymm hk0 h14], rfl⟩
      · refine x_aload_n dX1_smeltBy_17 rfl ?_
        refine x_iload_n dX1_smeltBy_18 rfl ?_
        refine x_cvi (c_uncovered hV hB hA hg h14) kX1_40 dX1_smeltBy_19 rfl (Nat.le_of_ble_eq_true rfl) rfl rfl (Nat.le_of_ble_eq_true rfl) (fun ru Mu hq => ?_)
        obtain ⟨rfl, rfl⟩ := hq
        have hu := unc_le (V := V) (hg k (by omega))
        refine x_iload_n dX1_smeltBy_22 rfl ?_
        refine x_icN_lt 32 dX1_smeltBy_23 (by decide) (by omega) (by omega) (fun h23 => ?_) (fun h23 => ?_)
        · have hsm : some (Value.int (nI (smb V g skill k))) = some (Value.int (nI (smb V g skill (k + 1)))) := by rw [smb, if_neg (by omega)]
          refine x_iincN 1 dX1_smeltBy_32 li_1 rfl (by decide) rfl ?_
          refine x_goto 4 dX1_smeltBy_35 (by decide) ?_
          refine x_ls ?_ (ih (k + 1) (by omega) (by omega))
          exact ⟨rfl, rfl, hsm, rfl, trivial⟩
        · refine x_iload_n dX1_smeltBy_26 rfl ?_
          refine x_iconst dX1_smeltBy_27 li_1 ?_
          refine x_iload_n dX1_smeltBy_28 rfl ?_
          refine x_ishl dX1_smeltBy_29 ?_
          rw [sh1 k (by omega)]
          refine x_ior dX1_smeltBy_30 ?_
          rw [nI_or]
          have hsm : some (Value.int (nI (smb V g skill k ||| 2 ^ k))) = some (Value.int (nI (smb V g skill (k + 1)))) := by rw [smb, if_pos h23]
          refine x_istore_n dX1_smeltBy_31 (by decide) rfl ?_
          refine x_iincN 1 dX1_smeltBy_32 li_1 rfl (by decide) rfl ?_
          refine x_goto 4 dX1_smeltBy_35 (by decide) ?_
          refine x_ls ?_ (ih (k + 1) (by omega) (by omega))
          exact ⟨rfl, rfl, hsm, rfl, trivial⟩
  refine x_start (by decide) (Nat.le_of_ble_eq_true rfl) ?_
  refine x_iconst dX1_smeltBy_0 li_0 ?_
  refine x_istore_n dX1_smeltBy_1 (by decide) rfl ?_
  refine x_iconst dX1_smeltBy_2 li_0 ?_
  refine x_istore_n dX1_smeltBy_3 (by decide) rfl ?_
  refine x_ls ?_ (loop4 (V 0 2 0 + 1) 0 (by omega) (by omega))
  exact ⟨rfl, rfl, rfl, rfl, trivial⟩
theorem tls_le {g : Nat → Nat} {land skill : Nat} (hV : VW V) (hg : ∀ s, s < 6 → g s ≤ 99) : ∀ n, n ≤ V 0 2 0 → tls V g land skill n ≤ 891 * n
  | 0, _ => by simp [tls]
  | n + 1, h => by
    have h1 := tls_le (land := land) (skill := skill) hV hg n (by omega)
    have h6 := hV.2.2.1
    have h2 := unc_le (V := V) (hg n (by omega))
    have h3 := (hV.2.2.2.2.2.2.2.2.2.2.2.2.2.1 n (by omega)).2
    have h4 := hV.2.2.2.2.2.2.2.2.2.2.2.2.1 _ h3
    have h5 : unc V g n * V 1 (V 3 n 0) 0 ≤ 99 * 9 := Nat.mul_le_mul h2 h4
    unfold tls
    split <;> omega
set_option maxRecDepth 100000 in
set_option maxHeartbeats 4000000 in
theorem c_toll (hV : VW V) (hB : XB V 0 I) {g : Nat → Nat} (hA : AirAt V g I) (hg : ∀ s, s < 6 → g s ≤ 99) {sort p skill : Nat} (hso : sort < 4) (hp : p < V 0 4 0) (hsk : skill ≤ 60) : Mt G vX1_toll (d + 1) (0, 0) [.ref (ad 1 0), .int (nI (sort)), .int (nI (p)), .int (nI (skill))] (MM ad nb b r I L) (qE (nI (if skill = 0 then 0 else tol V g sort p skill)) (MM ad nb b r I L)) := by
  have hs6 := hV.2.2.1
  have hp6 := hV.2.2.2.2.1
  have hl4 := hV.2.1
  have e2 : I 16 0 2 = nI (V 0 2 0) := hB.1 2 (by omega)
  have ep : I 21 0 p = nI (V 5 p 0) := (hB.2.2.2.2.1 p hp).1
  have hpl := (hV.2.2.2.2.2.2.2.2.2.2.2.2.2.2.2.1 p hp).1
  have loop17 : ∀ (n : Nat) (k : Nat), V 0 2 0 - k < n → k ≤ V 0 2 0 → 0 < skill → sort ≠ 3 → X G vX1_toll (d + 1) (0, 0) 17 [(0, some (.ref (ad 1 0))), (1, some (.int (nI (sort)))), (2, some (.int (nI (p)))), (3, some (.int (nI (skill)))), (4, some (.int (nI (tls V g (V 5 p 0) skill k)))), (5, some (.int (nI (k))))] [] (MM ad nb b r I L) (xT G (qE (nI (if skill = 0 then 0 else tol V g sort p skill)) (MM ad nb b r I L))) := by
    intro n
    induction n with
    | zero => intro k h0; omega
    | succ n ih =>
      intro k hn hk0 hsk0 hs3
      refine x_iload dX1_toll_17 rfl ?_
      refine x_aload_n dX1_toll_19 rfl ?_
      refine g_Air_border fX1_15 dX1_toll_20 ?_
      refine g_Border_sizes fX1_19 dX1_toll_23 (by first | exact Nat.le_of_ble_eq_true rfl | assumption | omega) ?_
      refine x_iconst dX1_toll_26 li_2 ?_
      refine x_iald dX1_toll_27 rfl rfl (Nat.lt_of_lt_of_le (by first | assumption | omega | decide) (Nat.le_refl 2)) (by first | exact Nat.le_of_ble_eq_true rfl | assumption | omega) ?_
      rw [e2]
      refine x_icN_ge 95 dX1_toll_28 (by decide) (by omega) (by omega) (fun h28 => ?_) (fun h28 => ?_)
      · have hkn : k = V 0 2 0 := Nat.le_antisymm hk0 h28
        have ht := tls_le (land := V 5 p 0) (skill := skill) hV hg k hk0
        subst hkn
        refine x_iload_n dX1_toll_95 rfl ?_
        refine x_iconst dX1_toll_96 li_1 ?_
        refine x_icN_ne 107 dX1_toll_97 (by decide) (by omega) (by omega) (fun h97 => ?_) (fun h97 => ?_)
        · refine x_iload_n dX1_toll_107 rfl ?_
          refine x_iconst dX1_toll_108 li_2 ?_
          refine x_icN_ne 119 dX1_toll_109 (by decide) (by omega) (by omega) (fun h109 => ?_) (fun h109 => ?_)
          · refine x_iload dX1_toll_119 rfl ?_
            refine x_iret dX1_toll_121 rfl ?_
            refine ⟨_, rfl, ?_, rfl⟩
            rw [if_neg (by omega)]
            unfold tol
            rw [if_neg hs3]
            first | rw [if_pos h97] | (rw [if_neg h97]; first | rw [if_pos h109] | rw [if_neg h109])
          · refine x_iload dX1_toll_112 rfl ?_
            refine x_iconst dX1_toll_114 li_2 ?_
            refine x_idivN dX1_toll_115 (by omega) (by omega) (by omega) ?_
            refine x_goto 121 dX1_toll_116 (by decide) ?_
            refine x_iret dX1_toll_121 rfl ?_
            refine ⟨_, rfl, ?_, rfl⟩
            rw [if_neg (by omega)]
            unfold tol
            rw [if_neg hs3]
            first | rw [if_pos h97] | (rw [if_neg h97]; first | rw [if_pos h109] | rw [if_neg h109])
        · refine x_iconst dX1_toll_100 li_2 ?_
          refine x_iload dX1_toll_101 rfl ?_
          refine x_imulN dX1_toll_103 ?_
          refine x_goto 121 dX1_toll_104 (by decide) ?_
          refine x_iret dX1_toll_121 rfl ?_
          refine ⟨_, rfl, ?_, rfl⟩
          rw [if_neg (by omega)]
          unfold tol
          rw [if_neg hs3]
          first | rw [if_pos h97] | (rw [if_neg h97]; first | rw [if_pos h109] | rw [if_neg h109])
      · refine x_aload_n dX1_toll_31 rfl ?_
        refine x_iload dX1_toll_32 rfl ?_
        refine x_cvi (c_uncovered hV hB hA hg h28) kX1_40 dX1_toll_34 rfl (Nat.le_of_ble_eq_true rfl) rfl rfl (Nat.le_of_ble_eq_true rfl) (fun ru Mu hq => ?_)
        obtain ⟨rfl, rfl⟩ := hq
        have hu := unc_le (V := V) (hg k (by omega))
        refine x_istore dX1_toll_37 (by decide) rfl ?_
        refine x_iload dX1_toll_39 rfl ?_
        refine x_iload_n dX1_toll_41 rfl ?_
        refine x_icN_lt 89 dX1_toll_42 (by decide) (by omega) (by omega) (fun h42 => ?_) (fun h42 => ?_)
        · have hsm : some (Value.int (nI (tls V g (V 5 p 0) skill k))) = some (Value.int (nI (tls V g (V 5 p 0) skill (k + 1)))) := by rw [tls, if_neg (fun z => by omega)]; rfl
          refine x_iincN 1 dX1_toll_89 li_1 rfl (by decide) rfl ?_
          refine x_goto 17 dX1_toll_92 (by decide) ?_
          refine x_ls ?_ (ih (k + 1) (by omega) (by omega) hsk0 hs3)
          exact ⟨rfl, rfl, rfl, rfl, hsm, rfl, trivial⟩
        · refine x_aload_n dX1_toll_45 rfl ?_
          refine x_iload dX1_toll_46 rfl ?_
          refine x_aload_n dX1_toll_48 rfl ?_
          refine g_Air_border fX1_15 dX1_toll_49 ?_
          refine g_Border_placeLand fX1_44 dX1_toll_52 (by first | exact Nat.le_of_ble_eq_true rfl | assumption | omega) ?_
          refine x_iload_n dX1_toll_55 rfl ?_
          refine x_iald dX1_toll_56 rfl rfl (Nat.lt_of_lt_of_le (by first | assumption | omega | decide) (Nat.le_refl 2)) (by first | exact Nat.le_of_ble_eq_true rfl | assumption | omega) ?_
          rw [ep]
          refine x_cvi (c_isDutiable hV hB h28 (by omega)) kX1_47 dX1_toll_57 rfl (Nat.le_of_ble_eq_true rfl) rfl rfl (Nat.le_of_ble_eq_true rfl) (fun rd Md hq => ?_)
          obtain ⟨rfl, rfl⟩ := hq
          refine x_if_eq 89 dX1_toll_60 (by decide) (fun h60 => ?_) (fun h60 => ?_)
          · have hsm : some (Value.int (nI (tls V g (V 5 p 0) skill k))) = some (Value.int (nI (tls V g (V 5 p 0) skill (k + 1)))) := by rw [tls, if_neg (fun z => by rw [bI_eq.mp h60] at z; cases z.2)]; rfl
            refine x_iincN 1 dX1_toll_89 li_1 rfl (by decide) rfl ?_
            refine x_goto 17 dX1_toll_92 (by decide) ?_
            refine x_ls ?_ (ih (k + 1) (by omega) (by omega) hsk0 hs3)
            exact ⟨rfl, rfl, rfl, rfl, hsm, rfl, trivial⟩
          · refine x_iload dX1_toll_63 rfl ?_
            refine x_iload dX1_toll_65 rfl ?_
            refine x_aload_n dX1_toll_67 rfl ?_
            refine g_Air_border fX1_15 dX1_toll_68 ?_
            refine g_Border_landDuty fX1_51 dX1_toll_71 (by first | exact Nat.le_of_ble_eq_true rfl | assumption | omega) ?_
            refine x_aload_n dX1_toll_74 rfl ?_
            refine g_Air_border fX1_15 dX1_toll_75 ?_
            refine g_Border_smellLand fX1_54 dX1_toll_78 (by first | exact Nat.le_of_ble_eq_true rfl | assumption | omega) ?_
            refine x_iload dX1_toll_81 rfl ?_
            refine x_iald dX1_toll_83 rfl rfl (Nat.lt_of_lt_of_le (by first | assumption | omega | decide) (Nat.le_refl 2)) (by first | exact Nat.le_of_ble_eq_true rfl | assumption | omega) ?_
            have el : I 19 0 k = nI (V 3 k 0) := (hB.2.2.1 k h28).2
            have hl5 := (hV.2.2.2.2.2.2.2.2.2.2.2.2.2.1 k h28).2
            rw [el]
            refine x_iald dX1_toll_84 rfl rfl (Nat.lt_of_lt_of_le (by first | assumption | omega | decide) (Nat.le_refl 2)) (by first | exact Nat.le_of_ble_eq_true rfl | assumption | omega) ?_
            have ed : I 17 0 (V 3 k 0) = nI (V 1 (V 3 k 0) 0) := hB.2.1 _ hl5
            rw [ed]
            refine x_imulN dX1_toll_85 ?_
            refine x_iaddN dX1_toll_86 ?_
            have hsm : some (Value.int (nI (tls V g (V 5 p 0) skill k + unc V g k * V 1 (V 3 k 0) 0))) = some (Value.int (nI (tls V g (V 5 p 0) skill (k + 1)))) := by rw [tls, if_pos ⟨h42, bI_ne.mp h60⟩]
            refine x_istore dX1_toll_87 (by decide) rfl ?_
            refine x_iincN 1 dX1_toll_89 li_1 rfl (by decide) rfl ?_
            refine x_goto 17 dX1_toll_92 (by decide) ?_
            refine x_ls ?_ (ih (k + 1) (by omega) (by omega) hsk0 hs3)
            exact ⟨rfl, rfl, rfl, rfl, hsm, rfl, trivial⟩
  refine x_start (by decide) (Nat.le_of_ble_eq_true rfl) ?_
  refine x_iload_n dX1_toll_0 rfl ?_
  refine x_ifN_eq 9 dX1_toll_1 (by decide) (by omega) (fun h1 => ?_) (fun h1 => ?_)
  · refine x_iconst dX1_toll_9 li_0 ?_
    refine x_iret dX1_toll_10 rfl ?_
    refine ⟨_, rfl, ?_, rfl⟩
    first | rw [if_pos h1] | (rw [if_neg (by omega)]; unfold tol; rw [if_pos h6])
  · refine x_iload_n dX1_toll_4 rfl ?_
    refine x_iconst dX1_toll_5 li_3 ?_
    refine x_icN_ne 11 dX1_toll_6 (by decide) (by omega) (by omega) (fun h6 => ?_) (fun h6 => ?_)
    · refine x_iconst dX1_toll_11 li_0 ?_
      refine x_istore dX1_toll_12 (by decide) rfl ?_
      refine x_iconst dX1_toll_14 li_0 ?_
      refine x_istore dX1_toll_15 (by decide) rfl ?_
      refine x_ls ?_ (loop17 (V 0 2 0 + 1) 0 (by omega) (by omega) h1 h6)
      exact ⟨rfl, rfl, rfl, rfl, rfl, rfl, trivial⟩
    · refine x_iconst dX1_toll_9 li_0 ?_
      refine x_iret dX1_toll_10 rfl ?_
      refine ⟨_, rfl, ?_, rfl⟩
      first | rw [if_pos h1] | (rw [if_neg (by omega)]; unfold tol; rw [if_pos h6])
set_option maxRecDepth 100000 in
set_option maxHeartbeats 4000000 in
theorem c_fade {h j H : Nat} {f : Nat → Nat} (hh : xsh h = .inl (0, 6)) (hh1 : h < 16 ∨ 37 < h) (hj : j < CC nb h) (hV : VW V) (hB : XB V 0 I) (hf : ∀ s, s < V 0 2 0 → I h j s = nI (f s) ∧ f s ≤ 198) (hH : H ≤ 1000) : Mt G vX1_fade (d + 1) (0, 0) [.ref (ad 1 0), .ref (ad h j), .int (nI (H))] (MM ad nb b r I L) (qV (fun M' => ∃ I', M' = MM ad nb b r I' L ∧ (∀ s, s < V 0 2 0 → I' h j s = nI (f s - fd (V 2 s 0) * H)) ∧ (∀ s, V 0 2 0 ≤ s → I' h j s = I h j s) ∧ (∀ a c, ¬ (a = h ∧ c = j) → I' a c = I a c))) := by
  have hs6 := hV.2.2.1
  have loop2 : ∀ (n : Nat) (k : Nat) (I1 : Nat → Nat → Nat → Int32), V 0 2 0 - k < n → k ≤ V 0 2 0 → ((∀ s, s < k → I1 h j s = nI (f s - fd (V 2 s 0) * H)) ∧ (∀ s, k ≤ s → I1 h j s = I h j s) ∧ (∀ a c, ¬ (a = h ∧ c = j) → I1 a c = I a c)) → X G vX1_fade (d + 1) (0, 0) 2 [(0, some (.ref (ad 1 0))), (1, some (.ref (ad h j))), (2, some (.int (nI (H)))), (3, some (.int (nI (k))))] [] (MM ad nb b r I1 L) (xT G (qV (fun M' => ∃ I', M' = MM ad nb b r I' L ∧ (∀ s, s < V 0 2 0 → I' h j s = nI (f s - fd (V 2 s 0) * H)) ∧ (∀ s, V 0 2 0 ≤ s → I' h j s = I h j s) ∧ (∀ a c, ¬ (a = h ∧ c = j) → I' a c = I a c)))) := by
    intro n
    induction n with
    | zero => intro k I1 h0; omega
    | succ n ih =>
      intro k I1 hn hk0 hi
      obtain ⟨hi1, hi2, hi3⟩ := hi
      have hB1 : XB V 0 I1 := hB.sm (fun s h1 h2 => funext fun c => hi3 s c (by omega))
      have e2 : I1 16 0 2 = nI (V 0 2 0) := hB1.1 2 (by omega)
      refine x_iload_n dX1_fade_2 rfl ?_
      refine x_aload_n dX1_fade_3 rfl ?_
      refine g_Air_border fX1_15 dX1_fade_4 ?_
      refine g_Border_sizes fX1_19 dX1_fade_7 (by first | exact Nat.le_of_ble_eq_true rfl | assumption | omega) ?_
      refine x_iconst dX1_fade_10 li_2 ?_
      refine x_iald dX1_fade_11 rfl rfl (Nat.lt_of_lt_of_le (by first | assumption | omega | decide) (Nat.le_refl 2)) (by first | exact Nat.le_of_ble_eq_true rfl | assumption | omega) ?_
      rw [e2]
      refine x_icN_ge 47 dX1_fade_12 (by decide) (by omega) (by omega) (fun h12 => ?_) (fun h12 => ?_)
      · refine x_vret dX1_fade_47 rfl ?_
        have hkn : k = V 0 2 0 := Nat.le_antisymm hk0 h12
        subst hkn
        exact ⟨rfl, _, rfl, hi1, hi2, hi3⟩
      · refine x_aload_n dX1_fade_15 rfl ?_
        refine x_iload_n dX1_fade_16 rfl ?_
        refine x_iconst dX1_fade_17 li_0 ?_
        refine x_aload_n dX1_fade_18 rfl ?_
        refine x_iload_n dX1_fade_19 rfl ?_
        refine x_iald dX1_fade_20 rfl hh hj (by first | exact Nat.le_of_ble_eq_true rfl | assumption | omega) ?_
        have hk6 : k < 6 := by omega
        obtain ⟨ef, hf8⟩ := hf k h12
        rw [hi2 k (Nat.le_refl k), ef]
        refine x_fades dX1_fade_21 (xm4 59 rfl rfl) ?_
        refine x_aload_n dX1_fade_24 rfl ?_
        refine g_Air_border fX1_15 dX1_fade_25 ?_
        refine g_Border_smellKind fX1_24 dX1_fade_28 (by first | exact Nat.le_of_ble_eq_true rfl | assumption | omega) ?_
        refine x_iload_n dX1_fade_31 rfl ?_
        refine x_iald dX1_fade_32 rfl rfl (Nat.lt_of_lt_of_le (by first | assumption | omega | decide) (Nat.le_refl 2)) (by first | exact Nat.le_of_ble_eq_true rfl | assumption | omega) ?_
        have ek : I1 18 0 k = nI (V 2 k 0) := (hB1.2.2.1 k h12).1
        have hk5 : V 2 k 0 < 5 := (hV.2.2.2.2.2.2.2.2.2.2.2.2.2.1 k h12).1
        have hfd := fd_le _ hk5
        have hm : fd (V 2 k 0) * H ≤ 4 * 1000 := Nat.mul_le_mul hfd hH
        rw [ek]
        refine x_fadesL dX1_fade_33 rfl (by first | exact Nat.le_of_ble_eq_true rfl | assumption | omega) ?_
        rw [xFades_eq _ hk5]
        refine x_iload_n dX1_fade_34 rfl ?_
        refine x_imulN dX1_fade_35 ?_
        refine x_isub dX1_fade_36 ?_
        refine x_max dX1_fade_37 (xm4 61 rfl rfl) (Nat.le_of_ble_eq_true rfl) ?_
        rw [mx0 (by omega) (by omega)]
        refine x_iast dX1_fade_40 rfl hh hj (by first | exact Nat.le_of_ble_eq_true rfl | assumption | omega) ?_
        refine x_iincN 1 dX1_fade_41 li_1 rfl (by decide) rfl ?_
        refine x_goto 2 dX1_fade_44 (by decide) ?_
        refine x_ls ?_ (ih (k + 1) _ (by omega) (by omega) ⟨?_, ?_, ?_⟩)
        · exact ⟨rfl, rfl, rfl, rfl, trivial⟩
        · intro s hs
          rw [xu_at]
          by_cases e : s = k
          · rw [if_pos e, e]
          · rw [if_neg e]; exact hi1 s (by omega)
        · intro s hs
          rw [xu_at, if_neg (by omega)]
          exact hi2 s (by omega)
        · intro a c hac
          funext z
          rw [xu_n (fun q => hac ⟨q.1, q.2.1⟩), hi3 a c hac]
  refine x_start (by decide) (Nat.le_of_ble_eq_true rfl) ?_
  refine x_iconst dX1_fade_0 li_0 ?_
  refine x_istore_n dX1_fade_1 (by decide) rfl ?_
  refine x_ls ?_ (loop2 (V 0 2 0 + 1) 0 I (by omega) (by omega) ⟨fun s hs => absurd hs (Nat.not_lt_zero s), fun _ _ => rfl, fun _ _ _ => rfl⟩)
  exact ⟨rfl, rfl, rfl, rfl, trivial⟩
def tgt (V : sV) (g : Nat → Nat) : Nat → Nat
  | 0 => 0
  | n + 1 => tgt V g n + g n
set_option maxRecDepth 100000 in
set_option maxHeartbeats 4000000 in
theorem c_together (hV : VW V) (hB : XB V 0 I) {g : Nat → Nat} (hA : AirAt V g I) (hg : ∀ s, s < 6 → g s ≤ 99) : Mt G vX1_together (d) (0, 0) [.ref (ad 1 0)] (MM ad nb b r I L) (qE (nI (tgt V g (V 0 2 0))) (MM ad nb b r I L)) := by
  have hs6 := hV.2.2.1
  have e2 : I 16 0 2 = nI (V 0 2 0) := hB.1 2 (by omega)
  have loop4 : ∀ (n : Nat) (k : Nat), V 0 2 0 - k < n → k ≤ V 0 2 0 → X G vX1_together (d) (0, 0) 4 [(0, some (.ref (ad 1 0))), (1, some (.int (nI (tgt V g k)))), (2, some (.int (nI (k))))] [] (MM ad nb b r I L) (xT G (qE (nI (tgt V g (V 0 2 0))) (MM ad nb b r I L))) := by
    intro n
    induction n with
    | zero => intro k h0; omega
    | succ n ih =>
      intro k hn hk0
      refine x_iload_n dX1_together_4 rfl ?_
      refine x_aload_n dX1_together_5 rfl ?_
      refine g_Air_border fX1_15 dX1_together_6 ?_
      refine g_Border_sizes fX1_19 dX1_together_9 (by first | exact Nat.le_of_ble_eq_true rfl | assumption | omega) ?_
      refine x_iconst dX1_together_12 li_2 ?_
      refine x_iald dX1_together_13 rfl rfl (Nat.lt_of_lt_of_le (by first | assumption | omega | decide) (Nat.le_refl 2)) (by first | exact Nat.le_of_ble_eq_true rfl | assumption | omega) ?_
      rw [e2]
      refine x_icN_ge 32 dX1_together_14 (by decide) (by omega) (by omega) (fun h14 => ?_) (fun h14 => ?_)
      · refine x_iload_n dX1_together_32 rfl ?_
        refine x_iret dX1_together_33 rfl ?_
        exact ⟨_, rfl, by rw [Nat.le_antisymm hk0 h14], rfl⟩
      · refine x_iload_n dX1_together_17 rfl ?_
        refine x_aload_n dX1_together_18 rfl ?_
        refine g_Air_strong fX1_9 dX1_together_19 ?_
        refine x_iload_n dX1_together_22 rfl ?_
        refine x_iald dX1_together_23 rfl rfl (Nat.le_of_ble_eq_true rfl) (by first | exact Nat.le_of_ble_eq_true rfl | assumption | omega) ?_
        rw [hA.1 k h14]
        refine x_iaddN dX1_together_24 ?_
        refine x_istore_n dX1_together_25 (by decide) rfl ?_
        refine x_iincN 1 dX1_together_26 li_1 rfl (by decide) rfl ?_
        refine x_goto 4 dX1_together_29 (by decide) ?_
        refine x_ls ?_ (ih (k + 1) (by omega) (by omega))
        exact ⟨rfl, rfl, rfl, trivial⟩
  refine x_start (by decide) (Nat.le_of_ble_eq_true rfl) ?_
  refine x_iconst dX1_together_0 li_0 ?_
  refine x_istore_n dX1_together_1 (by decide) rfl ?_
  refine x_iconst dX1_together_2 li_0 ?_
  refine x_istore_n dX1_together_3 (by decide) rfl ?_
  refine x_ls ?_ (loop4 (V 0 2 0 + 1) 0 (by omega) (by omega))
  exact ⟨rfl, rfl, rfl, trivial⟩
def frl (V : sV) (g : Nat → Nat) (l : Nat) : Nat → Nat
  | 0 => 0
  | n + 1 => frl V g l n + (if V 3 n 0 = l ∧ V 2 n 0 ≠ 3 then unc V g n else 0)
theorem frl_le {g : Nat → Nat} {l : Nat} (hV : VW V) (hg : ∀ s, s < 6 → g s ≤ 99) : ∀ n, n ≤ V 0 2 0 → frl V g l n ≤ 99 * n
  | 0, _ => by simp [frl]
  | n + 1, h => by
    have h1 := frl_le (l := l) hV hg n (by omega)
    have h6 := hV.2.2.1
    have h2 := unc_le (V := V) (hg n (by omega))
    unfold frl
    split <;> omega
def clF (V : sV) (g : Nat → Nat) : Nat → Nat × Nat
  | 0 => (0, 0)
  | l + 1 => if (clF V g l).1 < frl V g l (V 0 2 0) then (frl V g l (V 0 2 0), l + 1) else if frl V g l (V 0 2 0) = (clF V g l).1 then ((clF V g l).1, 0) else clF V g l
theorem clF_le {g : Nat → Nat} (hV : VW V) (hg : ∀ s, s < 6 → g s ≤ 99) : ∀ n, (clF V g n).1 ≤ 594 ∧ (clF V g n).2 ≤ n
  | 0 => by simp [clF]
  | n + 1 => by
    have h1 := clF_le hV hg n
    have h2 := frl_le (l := n) hV hg (V 0 2 0) (Nat.le_refl _)
    have h6 := hV.2.2.1
    unfold clF
    split
    · simp only []; omega
    · split
      · simp only []; omega
      · omega
set_option maxRecDepth 100000 in
set_option maxHeartbeats 4000000 in
theorem c_fromLand (hV : VW V) (hB : XB V 0 I) {g : Nat → Nat} (hA : AirAt V g I) (hg : ∀ s, s < 6 → g s ≤ 99) {l : Nat} (hl : l < 4) : Mt G vX1_fromLand (d + 1) (0, 0) [.ref (ad 1 0), .int (nI (l))] (MM ad nb b r I L) (qE (nI (frl V g l (V 0 2 0))) (MM ad nb b r I L)) := by
  have hs6 := hV.2.2.1
  have e2 : I 16 0 2 = nI (V 0 2 0) := hB.1 2 (by omega)
  have hl4 := hV.2.1
  have loop4 : ∀ (n : Nat) (k : Nat), V 0 2 0 - k < n → k ≤ V 0 2 0 → X G vX1_fromLand (d + 1) (0, 0) 4 [(0, some (.ref (ad 1 0))), (1, some (.int (nI (l)))), (2, some (.int (nI (frl V g l k)))), (3, some (.int (nI (k))))] [] (MM ad nb b r I L) (xT G (qE (nI (frl V g l (V 0 2 0))) (MM ad nb b r I L))) := by
    intro n
    induction n with
    | zero => intro k h0; omega
    | succ n ih =>
      intro k hn hk0
      refine x_iload_n dX1_fromLand_4 rfl ?_
      refine x_aload_n dX1_fromLand_5 rfl ?_
      refine g_Air_border fX1_15 dX1_fromLand_6 ?_
      refine g_Border_sizes fX1_19 dX1_fromLand_9 (by first | exact Nat.le_of_ble_eq_true rfl | assumption | omega) ?_
      refine x_iconst dX1_fromLand_12 li_2 ?_
      refine x_iald dX1_fromLand_13 rfl rfl (Nat.lt_of_lt_of_le (by first | assumption | omega | decide) (Nat.le_refl 2)) (by first | exact Nat.le_of_ble_eq_true rfl | assumption | omega) ?_
      rw [e2]
      refine x_icN_ge 57 dX1_fromLand_14 (by decide) (by omega) (by omega) (fun h14 => ?_) (fun h14 => ?_)
      · refine x_iload_n dX1_fromLand_57 rfl ?_
        refine x_iret dX1_fromLand_58 rfl ?_
        exact ⟨_, rfl, by rw [Nat.le_antisymm hk0 h14], rfl⟩
      · refine x_aload_n dX1_fromLand_17 rfl ?_
        refine g_Air_border fX1_15 dX1_fromLand_18 ?_
        refine g_Border_smellLand fX1_54 dX1_fromLand_21 (by first | exact Nat.le_of_ble_eq_true rfl | assumption | omega) ?_
        refine x_iload_n dX1_fromLand_24 rfl ?_
        refine x_iald dX1_fromLand_25 rfl rfl (Nat.lt_of_lt_of_le (by first | assumption | omega | decide) (Nat.le_refl 2)) (by first | exact Nat.le_of_ble_eq_true rfl | assumption | omega) ?_
        have el : I 19 0 k = nI (V 3 k 0) := (hB.2.2.1 k h14).2
        obtain ⟨hk5, hl5⟩ := hV.2.2.2.2.2.2.2.2.2.2.2.2.2.1 k h14
        rw [el]
        refine x_iload_n dX1_fromLand_26 rfl ?_
        refine x_icN_ne 51 dX1_fromLand_27 (by decide) (by omega) (by omega) (fun h27 => ?_) (fun h27 => ?_)
        · have hsm : some (Value.int (nI (frl V g l k))) = some (Value.int (nI (frl V g l (k + 1)))) := by rw [frl, if_neg (fun z => h27 z.1)]; rfl
          refine x_iincN 1 dX1_fromLand_51 li_1 rfl (by decide) rfl ?_
          refine x_goto 4 dX1_fromLand_54 (by decide) ?_
          refine x_ls ?_ (ih (k + 1) (by omega) (by omega))
          exact ⟨rfl, rfl, hsm, rfl, trivial⟩
        · refine x_aload_n dX1_fromLand_30 rfl ?_
          refine g_Air_border fX1_15 dX1_fromLand_31 ?_
          refine g_Border_smellKind fX1_24 dX1_fromLand_34 (by first | exact Nat.le_of_ble_eq_true rfl | assumption | omega) ?_
          refine x_iload_n dX1_fromLand_37 rfl ?_
          refine x_iald dX1_fromLand_38 rfl rfl (Nat.lt_of_lt_of_le (by first | assumption | omega | decide) (Nat.le_refl 2)) (by first | exact Nat.le_of_ble_eq_true rfl | assumption | omega) ?_
          have ek : I 18 0 k = nI (V 2 k 0) := (hB.2.2.1 k h14).1
          rw [ek]
          refine x_iconst dX1_fromLand_39 li_3 ?_
          refine x_icN_eq 51 dX1_fromLand_40 (by decide) (by omega) (by omega) (fun h40 => ?_) (fun h40 => ?_)
          · have hsm : some (Value.int (nI (frl V g l k))) = some (Value.int (nI (frl V g l (k + 1)))) := by rw [frl, if_neg (fun z => z.2 h40)]; rfl
            refine x_iincN 1 dX1_fromLand_51 li_1 rfl (by decide) rfl ?_
            refine x_goto 4 dX1_fromLand_54 (by decide) ?_
            refine x_ls ?_ (ih (k + 1) (by omega) (by omega))
            exact ⟨rfl, rfl, hsm, rfl, trivial⟩
          · refine x_iload_n dX1_fromLand_43 rfl ?_
            refine x_aload_n dX1_fromLand_44 rfl ?_
            refine x_iload_n dX1_fromLand_45 rfl ?_
            refine x_cvi (c_uncovered hV hB hA hg h14) kX1_40 dX1_fromLand_46 rfl (Nat.le_of_ble_eq_true rfl) rfl rfl (Nat.le_of_ble_eq_true rfl) (fun ru Mu hq => ?_)
            obtain ⟨rfl, rfl⟩ := hq
            refine x_iaddN dX1_fromLand_49 ?_
            have hsm : some (Value.int (nI (frl V g l k + unc V g k))) = some (Value.int (nI (frl V g l (k + 1)))) := by rw [frl, if_pos ⟨h27, h40⟩]
            refine x_istore_n dX1_fromLand_50 (by decide) rfl ?_
            refine x_iincN 1 dX1_fromLand_51 li_1 rfl (by decide) rfl ?_
            refine x_goto 4 dX1_fromLand_54 (by decide) ?_
            refine x_ls ?_ (ih (k + 1) (by omega) (by omega))
            exact ⟨rfl, rfl, hsm, rfl, trivial⟩
  refine x_start (by decide) (Nat.le_of_ble_eq_true rfl) ?_
  refine x_iconst dX1_fromLand_0 li_0 ?_
  refine x_istore_n dX1_fromLand_1 (by decide) rfl ?_
  refine x_iconst dX1_fromLand_2 li_0 ?_
  refine x_istore_n dX1_fromLand_3 (by decide) rfl ?_
  refine x_ls ?_ (loop4 (V 0 2 0 + 1) 0 (by omega) (by omega))
  exact ⟨rfl, rfl, rfl, rfl, trivial⟩
set_option maxRecDepth 100000 in
set_option maxHeartbeats 4000000 in
theorem c_claimant (hV : VW V) (hB : XB V 0 I) {g : Nat → Nat} (hA : AirAt V g I) (hg : ∀ s, s < 6 → g s ≤ 99) : Mt G vX1_claimant (d + 2) (0, 0) [.ref (ad 1 0)] (MM ad nb b r I L) (qE (nO (-2) (clF V g (V 0 1 0)).2) (MM ad nb b r I L)) := by
  have hs6 := hV.2.2.1
  have e1 : I 16 0 1 = nI (V 0 1 0) := hB.1 1 (by omega)
  have hl4 := hV.2.1
  have loop7 : ∀ (n : Nat) (k : Nat), V 0 1 0 - k < n → k ≤ V 0 1 0 → X G vX1_claimant (d + 2) (0, 0) 7 [(0, some (.ref (ad 1 0))), (1, some (.int (nI ((clF V g k).1)))), (2, some (.int (nO (-2) (clF V g k).2))), (3, some (.int (nI (k))))] [] (MM ad nb b r I L) (xT G (qE (nO (-2) (clF V g (V 0 1 0)).2) (MM ad nb b r I L))) := by
    intro n
    induction n with
    | zero => intro k h0; omega
    | succ n ih =>
      intro k hn hk0
      refine x_iload_n dX1_claimant_7 rfl ?_
      refine x_aload_n dX1_claimant_8 rfl ?_
      refine g_Air_border fX1_15 dX1_claimant_9 ?_
      refine g_Border_sizes fX1_19 dX1_claimant_12 (by first | exact Nat.le_of_ble_eq_true rfl | assumption | omega) ?_
      refine x_iconst dX1_claimant_15 li_1 ?_
      refine x_iald dX1_claimant_16 rfl rfl (Nat.lt_of_lt_of_le (by first | assumption | omega | decide) (Nat.le_refl 2)) (by first | exact Nat.le_of_ble_eq_true rfl | assumption | omega) ?_
      rw [e1]
      refine x_icN_ge 56 dX1_claimant_17 (by decide) (by omega) (by omega) (fun h17 => ?_) (fun h17 => ?_)
      · refine x_iload_n dX1_claimant_56 rfl ?_
        refine x_iret dX1_claimant_57 rfl ?_
        exact ⟨_, rfl, by rw [Nat.le_antisymm hk0 h17], rfl⟩
      · refine x_aload_n dX1_claimant_20 rfl ?_
        refine x_iload_n dX1_claimant_21 rfl ?_
        refine x_cvi (c_fromLand hV hB hA hg (by omega)) kX1_57 dX1_claimant_22 rfl (Nat.le_of_ble_eq_true rfl) rfl rfl (Nat.le_of_ble_eq_true rfl) (fun ru Mu hq => ?_)
        obtain ⟨rfl, rfl⟩ := hq
        have hfl := frl_le (l := k) hV hg (V 0 2 0) (Nat.le_refl _)
        have hcl := (clF_le hV hg k).1
        refine x_istore dX1_claimant_25 (by decide) rfl ?_
        refine x_iload dX1_claimant_27 rfl ?_
        refine x_iload_n dX1_claimant_29 rfl ?_
        refine x_icN_le 41 dX1_claimant_30 (by decide) (by omega) (by omega) (fun h30 => ?_) (fun h30 => ?_)
        · refine x_iload dX1_claimant_41 rfl ?_
          refine x_iload_n dX1_claimant_43 rfl ?_
          refine x_icN_ne 50 dX1_claimant_44 (by decide) (by omega) (by omega) (fun h44 => ?_) (fun h44 => ?_)
          · have hm1 : some (Value.int (nI (clF V g k).1)) = some (Value.int (nI (clF V g (k + 1)).1)) := by rw [clF, if_neg (by omega), if_neg h44]
            have hm2 : some (Value.int (nO (-2) (clF V g k).2)) = some (Value.int (nO (-2) (clF V g (k + 1)).2)) := by rw [clF, if_neg (by omega), if_neg h44]
            refine x_iincN 1 dX1_claimant_50 li_1 rfl (by decide) rfl ?_
            refine x_goto 7 dX1_claimant_53 (by decide) ?_
            refine x_ls ?_ (ih (k + 1) (by omega) (by omega))
            exact ⟨rfl, hm1, hm2, rfl, trivial⟩
          · refine x_bipush dX1_claimant_47 lb_m2 ?_
            have hm1 : some (Value.int (nI (clF V g k).1)) = some (Value.int (nI (clF V g (k + 1)).1)) := by rw [clF, if_neg (by omega), if_pos h44]
            have hm2 : some (Value.int (-2)) = some (Value.int (nO (-2) (clF V g (k + 1)).2)) := by rw [clF, if_neg (by omega), if_pos h44]; rfl
            refine x_istore_n dX1_claimant_49 (by decide) rfl ?_
            refine x_iincN 1 dX1_claimant_50 li_1 rfl (by decide) rfl ?_
            refine x_goto 7 dX1_claimant_53 (by decide) ?_
            refine x_ls ?_ (ih (k + 1) (by omega) (by omega))
            exact ⟨rfl, hm1, hm2, rfl, trivial⟩
        · refine x_iload dX1_claimant_33 rfl ?_
          refine x_istore_n dX1_claimant_35 (by decide) rfl ?_
          refine x_iload_n dX1_claimant_36 rfl ?_
          refine x_istore_n dX1_claimant_37 (by decide) rfl ?_
          have hm1 : some (Value.int (nI (frl V g k (V 0 2 0)))) = some (Value.int (nI (clF V g (k + 1)).1)) := by rw [clF, if_pos h30]
          have hm2 : some (Value.int (nI k)) = some (Value.int (nO (-2) (clF V g (k + 1)).2)) := by rw [clF, if_pos h30]; rfl
          refine x_goto 50 dX1_claimant_38 (by decide) ?_
          refine x_iincN 1 dX1_claimant_50 li_1 rfl (by decide) rfl ?_
          refine x_goto 7 dX1_claimant_53 (by decide) ?_
          refine x_ls ?_ (ih (k + 1) (by omega) (by omega))
          exact ⟨rfl, hm1, hm2, rfl, trivial⟩
  refine x_start (by decide) (Nat.le_of_ble_eq_true rfl) ?_
  refine x_iconst dX1_claimant_0 li_0 ?_
  refine x_istore_n dX1_claimant_1 (by decide) rfl ?_
  refine x_bipush dX1_claimant_2 lb_m2 ?_
  refine x_istore_n dX1_claimant_4 (by decide) rfl ?_
  refine x_iconst dX1_claimant_5 li_0 ?_
  refine x_istore_n dX1_claimant_6 (by decide) rfl ?_
  refine x_ls ?_ (loop7 (V 0 1 0 + 1) 0 (by omega) (by omega))
  exact ⟨rfl, rfl, rfl, rfl, trivial⟩
def drw (seed : Nat) : Nat → Nat
  | 0 => seed
  | n + 1 => (75 * drw seed n + 74) % 65537
def blw (wind seed : Nat) : Nat → Nat
  | 0 => 0
  | n + 1 => blw wind seed n + drw seed (n + 1) % wind
theorem drw_lt {seed : Nat} (h : seed < 65537) : ∀ n, drw seed n < 65537
  | 0 => h
  | n + 1 => Nat.mod_lt _ (by omega)
theorem blw_le {wind seed : Nat} (h : wind ≤ 5) (h0 : 0 < wind) : ∀ n, blw wind seed n ≤ 4 * n
  | 0 => by simp [blw]
  | n + 1 => by
    have := blw_le (seed := seed) h h0 n
    have := Nat.mod_lt (drw seed (n + 1)) h0
    unfold blw
    omega
set_option maxRecDepth 100000 in
set_option maxHeartbeats 4000000 in
theorem c_blown (hV : VW V) (hB : XB V 0 I) {seed H : Nat} (hse : seed < 65537) (hH : H ≤ 99) (h0 : 0 < V 0 0 0) : Mt G vX1_blown (d) (0, 0) [.ref (ad 1 0), .int (nI (seed)), .int (nI (H))] (MM ad nb b r I L) (qE (nI (blw (V 0 0 0) seed H)) (MM ad nb b r I L)) := by
  have hw5 := hV.1
  have e0 : I 16 0 0 = nI (V 0 0 0) := hB.1 0 (by omega)
  have loop25 : ∀ (n : Nat) (k : Nat), H - k < n → k ≤ H → X G vX1_blown (d) (0, 0) 25 [(0, some (.ref (ad 1 0))), (1, some (.int (nI (seed)))), (2, some (.int (nI (H)))), (3, some (.int (nI (V 0 0 0)))), (4, some (.int (nI (drw seed k)))), (5, some (.int (nI (blw (V 0 0 0) seed k)))), (6, some (.int (nI (k))))] [] (MM ad nb b r I L) (xT G (qE (nI (blw (V 0 0 0) seed H)) (MM ad nb b r I L))) := by
    intro n
    induction n with
    | zero => intro k h0; omega
    | succ n ih =>
      intro k hn hk0
      have hd := drw_lt hse k
      have hd1 := drw_lt hse (k + 1)
      refine x_iload dX1_blown_25 rfl ?_
      refine x_iload_n dX1_blown_27 rfl ?_
      refine x_icN_ge 59 dX1_blown_28 (by decide) (by omega) (by omega) (fun h28 => ?_) (fun h28 => ?_)
      · refine x_iload dX1_blown_59 rfl ?_
        refine x_iret dX1_blown_61 rfl ?_
        exact ⟨_, rfl, by rw [Nat.le_antisymm hk0 h28], rfl⟩
      · refine x_bipush dX1_blown_31 lb_75 ?_
        refine x_iload dX1_blown_33 rfl ?_
        refine x_imulN dX1_blown_35 ?_
        refine x_bipush dX1_blown_36 lb_74 ?_
        refine x_iaddN dX1_blown_38 ?_
        refine x_ldc dX1_blown_39 (xm5 78 rfl rfl) ?_
        refine x_top (v := nI 65537) (by decide) ?_
        refine x_iremN dX1_blown_41 (by omega) (by omega) (by omega) ?_
        refine x_top (v := nI (drw seed (k + 1))) rfl ?_
        refine x_istore dX1_blown_42 (by decide) rfl ?_
        refine x_iload dX1_blown_44 rfl ?_
        refine x_iload dX1_blown_46 rfl ?_
        refine x_iload_n dX1_blown_48 rfl ?_
        refine x_iremN dX1_blown_49 (by omega) (by omega) (by omega) ?_
        refine x_iaddN dX1_blown_50 ?_
        refine x_istore dX1_blown_51 (by decide) rfl ?_
        refine x_iincN 1 dX1_blown_53 li_1 rfl (by decide) rfl ?_
        refine x_goto 25 dX1_blown_56 (by decide) ?_
        refine x_ls ?_ (ih (k + 1) (by omega) (by omega))
        exact ⟨rfl, rfl, rfl, rfl, rfl, rfl, rfl, trivial⟩
  refine x_start (by decide) (Nat.le_of_ble_eq_true rfl) ?_
  refine x_aload_n dX1_blown_0 rfl ?_
  refine g_Air_border fX1_15 dX1_blown_1 ?_
  refine g_Border_sizes fX1_19 dX1_blown_4 (by first | exact Nat.le_of_ble_eq_true rfl | assumption | omega) ?_
  refine x_iconst dX1_blown_7 li_0 ?_
  refine x_iald dX1_blown_8 rfl rfl (Nat.lt_of_lt_of_le (by first | assumption | omega | decide) (Nat.le_refl 2)) (by first | exact Nat.le_of_ble_eq_true rfl | assumption | omega) ?_
  rw [e0]
  refine x_istore_n dX1_blown_9 (by decide) rfl ?_
  refine x_iload_n dX1_blown_10 rfl ?_
  refine x_ifN_gt 16 dX1_blown_11 (by decide) (by omega) (fun h11 => ?_) (fun h11 => absurd h0 (by omega))
  refine x_iload_n dX1_blown_16 rfl ?_
  refine x_istore dX1_blown_17 (by decide) rfl ?_
  refine x_iconst dX1_blown_19 li_0 ?_
  refine x_istore dX1_blown_20 (by decide) rfl ?_
  refine x_iconst dX1_blown_22 li_0 ?_
  refine x_istore dX1_blown_23 (by decide) rfl ?_
  refine x_ls ?_ (loop25 (H + 1) 0 (by omega) (by omega))
  exact ⟨rfl, rfl, rfl, rfl, rfl, rfl, rfl, trivial⟩
end Air2
