section M32
variable {G : xG} {ad : Nat → Nat → Nat} {nb : Nat} {b r : Option Nat} {L : Nat → Nat → Nat → Int64} {V : sV} {I : Nat → Nat → Nat → Int32} {d : Nat}
variable {T : Nat → Nat} {e a : Nat} {nm : List (Nat × Nat × Nat)} {ri : Nat}
theorem wiN_1 (v : Int64) : wiN 1 v = (if pkS 13 = v then 1 else 0) := by
  unfold wiN
  rw [wix_1]
  by_cases h13 : pkS 13 = v
  · rw [if_pos h13, if_pos h13]; rfl
  rw [if_neg h13, if_neg h13]
  rfl
theorem wiN_2 (v : Int64) : wiN 2 v = (if pkS 26 = v then 1 else 0) := by
  unfold wiN
  rw [wix_2]
  by_cases h26 : pkS 26 = v
  · rw [if_pos h26, if_pos h26]; rfl
  rw [if_neg h26, if_neg h26]
  rfl
theorem wiN_4 (v : Int64) : wiN 4 v = (if pkS 32 = v then 1 else 0) := by
  unfold wiN
  rw [wix_4]
  by_cases h32 : pkS 32 = v
  · rw [if_pos h32, if_pos h32]; rfl
  rw [if_neg h32, if_neg h32]
  rfl
theorem wiN_5 (v : Int64) : wiN 5 v = (if pkS 33 = v then 1 else 0) := by
  unfold wiN
  rw [wix_5]
  by_cases h33 : pkS 33 = v
  · rw [if_pos h33, if_pos h33]; rfl
  rw [if_neg h33, if_neg h33]
  rfl
theorem wiN_6 (v : Int64) : wiN 6 v = (if pkS 25 = v then 1 else 0) := by
  unfold wiN
  rw [wix_6]
  by_cases h25 : pkS 25 = v
  · rw [if_pos h25, if_pos h25]; rfl
  rw [if_neg h25, if_neg h25]
  rfl
theorem wiN_7 (v : Int64) : wiN 7 v = (if pkS 16 = v then 1 else 0) := by
  unfold wiN
  rw [wix_7]
  by_cases h16 : pkS 16 = v
  · rw [if_pos h16, if_pos h16]; rfl
  rw [if_neg h16, if_neg h16]
  rfl
theorem wiN_8 (v : Int64) : wiN 8 v = (if pkS 34 = v then 1 else 0) := by
  unfold wiN
  rw [wix_8]
  by_cases h34 : pkS 34 = v
  · rw [if_pos h34, if_pos h34]; rfl
  rw [if_neg h34, if_neg h34]
  rfl
theorem wiN_10 (v : Int64) : wiN 10 v = (if pkS 39 = v then 1 else 0) := by
  unfold wiN
  rw [wix_10]
  by_cases h39 : pkS 39 = v
  · rw [if_pos h39, if_pos h39]; rfl
  rw [if_neg h39, if_neg h39]
  rfl
theorem wiN_11 (v : Int64) : wiN 11 v = (if pkS 40 = v then 1 else 0) := by
  unfold wiN
  rw [wix_11]
  by_cases h40 : pkS 40 = v
  · rw [if_pos h40, if_pos h40]; rfl
  rw [if_neg h40, if_neg h40]
  rfl
theorem wiN_3 (v : Int64) : wiN 3 v = (if pkS 27 = v then 1 else if pkS 28 = v then 2 else if pkS 29 = v then 3 else if pkS 30 = v then 4 else if pkS 31 = v then 5 else 0) := by
  unfold wiN
  rw [wix_3]
  by_cases h27 : pkS 27 = v
  · rw [if_pos h27, if_pos h27]; rfl
  rw [if_neg h27, if_neg h27]
  by_cases h28 : pkS 28 = v
  · rw [if_pos h28, if_pos h28]; rfl
  rw [if_neg h28, if_neg h28]
  by_cases h29 : pkS 29 = v
  · rw [if_pos h29, if_pos h29]; rfl
  rw [if_neg h29, if_neg h29]
  by_cases h30 : pkS 30 = v
  · rw [if_pos h30, if_pos h30]; rfl
  rw [if_neg h30, if_neg h30]
  by_cases h31 : pkS 31 = v
  · rw [if_pos h31, if_pos h31]; rfl
  rw [if_neg h31, if_neg h31]
  rfl
theorem wiN_9 (v : Int64) : wiN 9 v = (if pkS 35 = v then 1 else if pkS 36 = v then 2 else if pkS 37 = v then 3 else if pkS 38 = v then 4 else 0) := by
  unfold wiN
  rw [wix_9]
  by_cases h35 : pkS 35 = v
  · rw [if_pos h35, if_pos h35]; rfl
  rw [if_neg h35, if_neg h35]
  by_cases h36 : pkS 36 = v
  · rw [if_pos h36, if_pos h36]; rfl
  rw [if_neg h36, if_neg h36]
  by_cases h37 : pkS 37 = v
  · rw [if_pos h37, if_pos h37]; rfl
  rw [if_neg h37, if_neg h37]
  by_cases h38 : pkS 38 = v
  · rw [if_pos h38, if_pos h38]; rfl
  rw [if_neg h38, if_neg h38]
  rfl
theorem wiN_0 (v : Int64) : wiN 0 v = (if pkS 12 = v then 1 else if pkS 14 = v then 2 else if pkS 15 = v then 3 else if pkS 16 = v then 4 else if pkS 17 = v then 5 else if pkS 18 = v then 6 else if pkS 19 = v then 7 else if pkS 20 = v then 8 else if pkS 22 = v then 9 else if pkS 23 = v then 10 else if pkS 24 = v then 11 else if pkS 21 = v then 12 else if pkS 25 = v then 13 else 0) := by
  unfold wiN
  rw [wix_0]
  by_cases h12 : pkS 12 = v
  · rw [if_pos h12, if_pos h12]; rfl
  rw [if_neg h12, if_neg h12]
  by_cases h14 : pkS 14 = v
  · rw [if_pos h14, if_pos h14]; rfl
  rw [if_neg h14, if_neg h14]
  by_cases h15 : pkS 15 = v
  · rw [if_pos h15, if_pos h15]; rfl
  rw [if_neg h15, if_neg h15]
  by_cases h16 : pkS 16 = v
  · rw [if_pos h16, if_pos h16]; rfl
  rw [if_neg h16, if_neg h16]
  by_cases h17 : pkS 17 = v
  · rw [if_pos h17, if_pos h17]; rfl
  rw [if_neg h17, if_neg h17]
  by_cases h18 : pkS 18 = v
  · rw [if_pos h18, if_pos h18]; rfl
  rw [if_neg h18, if_neg h18]
  by_cases h19 : pkS 19 = v
  · rw [if_pos h19, if_pos h19]; rfl
  rw [if_neg h19, if_neg h19]
  by_cases h20 : pkS 20 = v
  · rw [if_pos h20, if_pos h20]; rfl
  rw [if_neg h20, if_neg h20]
  by_cases h22 : pkS 22 = v
  · rw [if_pos h22, if_pos h22]; rfl
  rw [if_neg h22, if_neg h22]
  by_cases h23 : pkS 23 = v
  · rw [if_pos h23, if_pos h23]; rfl
  rw [if_neg h23, if_neg h23]
  by_cases h24 : pkS 24 = v
  · rw [if_pos h24, if_pos h24]; rfl
  rw [if_neg h24, if_neg h24]
  by_cases h21 : pkS 21 = v
  · rw [if_pos h21, if_pos h21]; rfl
  rw [if_neg h21, if_neg h21]
  by_cases h25 : pkS 25 = v
  · rw [if_pos h25, if_pos h25]; rfl
  rw [if_neg h25, if_neg h25]
  rfl
theorem res_ne : ∀ k ∈ [12, 14, 15, 16, 17, 18, 19, 20, 21, 22, 23, 24, 25], wiN 0 (pkS k) ≠ 0 := by decide +kernel

theorem isW_k {k : Nat} (h : isW T e k (.inr a) = true) : kd T e a = 1 ∧ vl T e a = pkS k := by
  have h2 := Bool.and_eq_true_iff.mp (show (decide (kd T e a = 1) && decide (vl T e a = pkS k)) = true from h)
  exact ⟨of_decide_eq_true h2.1, of_decide_eq_true h2.2⟩
theorem isW_n {k : Nat} (h : isW T e k (.inr a) = false) (h1 : kd T e a = 1) : pkS k ≠ vl T e a := fun z => by
  have h2 : (decide (kd T e a = 1) && decide (vl T e a = pkS k)) = false := h
  rw [decide_eq_true h1, decide_eq_true z.symm] at h2
  exact absurd h2 (by decide)
def isNc (T : Nat → Nat) (e : Nat) (c : cS) : Bool := match c with
  | .inl _ => false
  | .inr a => isN T e a

set_option maxRecDepth 100000 in
set_option maxHeartbeats 600000 in
theorem m_isName_k (hR : RSt T e (.inr a) I L) : Mt G vX13_isName (d + 6) (0, 0) [.ref (ad 13 0)] (MM ad nb b r I L) (qE (bI (isN T e a)) (MM ad nb b r I L)) := by
  have hkl := kd_le (T := T) (e := e) (a := a)
  have hm := mso_le _ hkl
  have h2 := mso_2 _ hkl
  refine x_start (by decide) (Nat.le_of_ble_eq_true rfl) ?_
  refine x_aload_n dX13_isName_0 rfl ?_
  refine g_M_sort fX13_100 dX13_isName_1 ?_
  refine x_top (hR.2.1.1.2.2) ?_
  refine x_iconst dX13_isName_4 li_2 ?_
  refine x_icN_ne 62 dX13_isName_5 (by decide) (by omega) (by omega) (fun h5 => ?_) (fun h5 => ?_)
  · have hw : isN T e a = false := by unfold isN; rw [decide_eq_false (fun z => h5 (h2.mpr z))]; rfl
    refine x_iconst dX13_isName_62 li_0 ?_
    refine x_zret dX13_isName_63 rfl rfl ?_
    rw [hw]
    exact ⟨_, rfl, rfl, rfl⟩
  · have hk1 := h2.mp h5
    refine x_aload_n dX13_isName_8 rfl ?_
    refine x_ldcS (n := 12) dX13_isName_9 rfl ?_
    refine x_cvi (m_isWord (d := d) (i := 12) (by decide) (by decide) hR) kX13_142 dX13_isName_11 rfl (Nat.le_of_ble_eq_true rfl) rfl rfl (Nat.le_of_ble_eq_true rfl) (fun ru Mu hq => ?_)
    obtain ⟨rfl, rfl⟩ := hq
    refine x_if_ne 62 dX13_isName_14 (by decide) (fun h14 => ?_) (fun h14 => ?_)
    · have hw : isN T e a = false := by unfold isN; rw [(isW_k (bI_ne.mp h14)).2, decide_eq_false (fun z => res_ne 12 (by decide) z), Bool.and_false]
      refine x_iconst dX13_isName_62 li_0 ?_
      refine x_zret dX13_isName_63 rfl rfl ?_
      rw [hw]
      exact ⟨_, rfl, rfl, rfl⟩
    · have n12 := isW_n (bI_eq.mp h14) hk1
      refine x_aload_n dX13_isName_17 rfl ?_
      refine x_ldcS (n := 14) dX13_isName_18 rfl ?_
      refine x_cvi (m_isWord (d := d) (i := 14) (by decide) (by decide) hR) kX13_142 dX13_isName_20 rfl (Nat.le_of_ble_eq_true rfl) rfl rfl (Nat.le_of_ble_eq_true rfl) (fun ru Mu hq => ?_)
      obtain ⟨rfl, rfl⟩ := hq
      refine x_if_ne 62 dX13_isName_23 (by decide) (fun h23 => ?_) (fun h23 => ?_)
      · have hw : isN T e a = false := by unfold isN; rw [(isW_k (bI_ne.mp h23)).2, decide_eq_false (fun z => res_ne 14 (by decide) z), Bool.and_false]
        refine x_iconst dX13_isName_62 li_0 ?_
        refine x_zret dX13_isName_63 rfl rfl ?_
        rw [hw]
        exact ⟨_, rfl, rfl, rfl⟩
      · have n14 := isW_n (bI_eq.mp h23) hk1
        refine x_aload_n dX13_isName_26 rfl ?_
        refine x_ldcS (n := 15) dX13_isName_27 rfl ?_
        refine x_cvi (m_isWord (d := d) (i := 15) (by decide) (by decide) hR) kX13_142 dX13_isName_29 rfl (Nat.le_of_ble_eq_true rfl) rfl rfl (Nat.le_of_ble_eq_true rfl) (fun ru Mu hq => ?_)
        obtain ⟨rfl, rfl⟩ := hq
        refine x_if_ne 62 dX13_isName_32 (by decide) (fun h32 => ?_) (fun h32 => ?_)
        · have hw : isN T e a = false := by unfold isN; rw [(isW_k (bI_ne.mp h32)).2, decide_eq_false (fun z => res_ne 15 (by decide) z), Bool.and_false]
          refine x_iconst dX13_isName_62 li_0 ?_
          refine x_zret dX13_isName_63 rfl rfl ?_
          rw [hw]
          exact ⟨_, rfl, rfl, rfl⟩
        · have n15 := isW_n (bI_eq.mp h32) hk1
          refine x_aload_n dX13_isName_35 rfl ?_
          refine x_ldcS (n := 16) dX13_isName_36 rfl ?_
          refine x_cvi (m_isWord (d := d) (i := 16) (by decide) (by decide) hR) kX13_142 dX13_isName_38 rfl (Nat.le_of_ble_eq_true rfl) rfl rfl (Nat.le_of_ble_eq_true rfl) (fun ru Mu hq => ?_)
          obtain ⟨rfl, rfl⟩ := hq
          refine x_if_ne 62 dX13_isName_41 (by decide) (fun h41 => ?_) (fun h41 => ?_)
          · have hw : isN T e a = false := by unfold isN; rw [(isW_k (bI_ne.mp h41)).2, decide_eq_false (fun z => res_ne 16 (by decide) z), Bool.and_false]
            refine x_iconst dX13_isName_62 li_0 ?_
            refine x_zret dX13_isName_63 rfl rfl ?_
            rw [hw]
            exact ⟨_, rfl, rfl, rfl⟩
          · have n16 := isW_n (bI_eq.mp h41) hk1
            refine x_aload_n dX13_isName_44 rfl ?_
            refine x_ldcS (n := 17) dX13_isName_45 rfl ?_
            refine x_cvi (m_isWord (d := d) (i := 17) (by decide) (by decide) hR) kX13_142 dX13_isName_47 rfl (Nat.le_of_ble_eq_true rfl) rfl rfl (Nat.le_of_ble_eq_true rfl) (fun ru Mu hq => ?_)
            obtain ⟨rfl, rfl⟩ := hq
            refine x_if_ne 62 dX13_isName_50 (by decide) (fun h50 => ?_) (fun h50 => ?_)
            · have hw : isN T e a = false := by unfold isN; rw [(isW_k (bI_ne.mp h50)).2, decide_eq_false (fun z => res_ne 17 (by decide) z), Bool.and_false]
              refine x_iconst dX13_isName_62 li_0 ?_
              refine x_zret dX13_isName_63 rfl rfl ?_
              rw [hw]
              exact ⟨_, rfl, rfl, rfl⟩
            · have n17 := isW_n (bI_eq.mp h50) hk1
              refine x_aload_n dX13_isName_53 rfl ?_
              refine x_ldcS (n := 18) dX13_isName_54 rfl ?_
              refine x_cvi (m_isWord (d := d) (i := 18) (by decide) (by decide) hR) kX13_142 dX13_isName_56 rfl (Nat.le_of_ble_eq_true rfl) rfl rfl (Nat.le_of_ble_eq_true rfl) (fun ru Mu hq => ?_)
              obtain ⟨rfl, rfl⟩ := hq
              refine x_if_eq 64 dX13_isName_59 (by decide) (fun h59 => ?_) (fun h59 => ?_)
              · have n18 := isW_n (bI_eq.mp h59) hk1
                refine x_aload_n dX13_isName_64 rfl ?_
                refine x_ldcS (n := 19) dX13_isName_65 rfl ?_
                refine x_cvi (m_isWord (d := d) (i := 19) (by decide) (by decide) hR) kX13_142 dX13_isName_67 rfl (Nat.le_of_ble_eq_true rfl) rfl rfl (Nat.le_of_ble_eq_true rfl) (fun ru Mu hq => ?_)
                obtain ⟨rfl, rfl⟩ := hq
                refine x_if_ne 131 dX13_isName_70 (by decide) (fun h70 => ?_) (fun h70 => ?_)
                · have hw : isN T e a = false := by unfold isN; rw [(isW_k (bI_ne.mp h70)).2, decide_eq_false (fun z => res_ne 19 (by decide) z), Bool.and_false]
                  refine x_iconst dX13_isName_131 li_0 ?_
                  refine x_zret dX13_isName_132 rfl rfl ?_
                  rw [hw]
                  exact ⟨_, rfl, rfl, rfl⟩
                · have n19 := isW_n (bI_eq.mp h70) hk1
                  refine x_aload_n dX13_isName_73 rfl ?_
                  refine x_ldcS (n := 20) dX13_isName_74 rfl ?_
                  refine x_cvi (m_isWord (d := d) (i := 20) (by decide) (by decide) hR) kX13_142 dX13_isName_76 rfl (Nat.le_of_ble_eq_true rfl) rfl rfl (Nat.le_of_ble_eq_true rfl) (fun ru Mu hq => ?_)
                  obtain ⟨rfl, rfl⟩ := hq
                  refine x_if_ne 131 dX13_isName_79 (by decide) (fun h79 => ?_) (fun h79 => ?_)
                  · have hw : isN T e a = false := by unfold isN; rw [(isW_k (bI_ne.mp h79)).2, decide_eq_false (fun z => res_ne 20 (by decide) z), Bool.and_false]
                    refine x_iconst dX13_isName_131 li_0 ?_
                    refine x_zret dX13_isName_132 rfl rfl ?_
                    rw [hw]
                    exact ⟨_, rfl, rfl, rfl⟩
                  · have n20 := isW_n (bI_eq.mp h79) hk1
                    refine x_aload_n dX13_isName_82 rfl ?_
                    refine x_ldcS (n := 21) dX13_isName_83 rfl ?_
                    refine x_cvi (m_isWord (d := d) (i := 21) (by decide) (by decide) hR) kX13_142 dX13_isName_85 rfl (Nat.le_of_ble_eq_true rfl) rfl rfl (Nat.le_of_ble_eq_true rfl) (fun ru Mu hq => ?_)
                    obtain ⟨rfl, rfl⟩ := hq
                    refine x_if_ne 131 dX13_isName_88 (by decide) (fun h88 => ?_) (fun h88 => ?_)
                    · have hw : isN T e a = false := by unfold isN; rw [(isW_k (bI_ne.mp h88)).2, decide_eq_false (fun z => res_ne 21 (by decide) z), Bool.and_false]
                      refine x_iconst dX13_isName_131 li_0 ?_
                      refine x_zret dX13_isName_132 rfl rfl ?_
                      rw [hw]
                      exact ⟨_, rfl, rfl, rfl⟩
                    · have n21 := isW_n (bI_eq.mp h88) hk1
                      refine x_aload_n dX13_isName_91 rfl ?_
                      refine x_ldcS (n := 22) dX13_isName_92 rfl ?_
                      refine x_cvi (m_isWord (d := d) (i := 22) (by decide) (by decide) hR) kX13_142 dX13_isName_94 rfl (Nat.le_of_ble_eq_true rfl) rfl rfl (Nat.le_of_ble_eq_true rfl) (fun ru Mu hq => ?_)
                      obtain ⟨rfl, rfl⟩ := hq
                      refine x_if_ne 131 dX13_isName_97 (by decide) (fun h97 => ?_) (fun h97 => ?_)
                      · have hw : isN T e a = false := by unfold isN; rw [(isW_k (bI_ne.mp h97)).2, decide_eq_false (fun z => res_ne 22 (by decide) z), Bool.and_false]
                        refine x_iconst dX13_isName_131 li_0 ?_
                        refine x_zret dX13_isName_132 rfl rfl ?_
                        rw [hw]
                        exact ⟨_, rfl, rfl, rfl⟩
                      · have n22 := isW_n (bI_eq.mp h97) hk1
                        refine x_aload_n dX13_isName_100 rfl ?_
                        refine x_ldcS (n := 23) dX13_isName_101 rfl ?_
                        refine x_cvi (m_isWord (d := d) (i := 23) (by decide) (by decide) hR) kX13_142 dX13_isName_103 rfl (Nat.le_of_ble_eq_true rfl) rfl rfl (Nat.le_of_ble_eq_true rfl) (fun ru Mu hq => ?_)
                        obtain ⟨rfl, rfl⟩ := hq
                        refine x_if_ne 131 dX13_isName_106 (by decide) (fun h106 => ?_) (fun h106 => ?_)
                        · have hw : isN T e a = false := by unfold isN; rw [(isW_k (bI_ne.mp h106)).2, decide_eq_false (fun z => res_ne 23 (by decide) z), Bool.and_false]
                          refine x_iconst dX13_isName_131 li_0 ?_
                          refine x_zret dX13_isName_132 rfl rfl ?_
                          rw [hw]
                          exact ⟨_, rfl, rfl, rfl⟩
                        · have n23 := isW_n (bI_eq.mp h106) hk1
                          refine x_aload_n dX13_isName_109 rfl ?_
                          refine x_ldcS (n := 24) dX13_isName_110 rfl ?_
                          refine x_cvi (m_isWord (d := d) (i := 24) (by decide) (by decide) hR) kX13_142 dX13_isName_112 rfl (Nat.le_of_ble_eq_true rfl) rfl rfl (Nat.le_of_ble_eq_true rfl) (fun ru Mu hq => ?_)
                          obtain ⟨rfl, rfl⟩ := hq
                          refine x_if_ne 131 dX13_isName_115 (by decide) (fun h115 => ?_) (fun h115 => ?_)
                          · have hw : isN T e a = false := by unfold isN; rw [(isW_k (bI_ne.mp h115)).2, decide_eq_false (fun z => res_ne 24 (by decide) z), Bool.and_false]
                            refine x_iconst dX13_isName_131 li_0 ?_
                            refine x_zret dX13_isName_132 rfl rfl ?_
                            rw [hw]
                            exact ⟨_, rfl, rfl, rfl⟩
                          · have n24 := isW_n (bI_eq.mp h115) hk1
                            refine x_aload_n dX13_isName_118 rfl ?_
                            refine x_ldcS (n := 25) dX13_isName_119 rfl ?_
                            refine x_cvi (m_isWord (d := d) (i := 25) (by decide) (by decide) hR) kX13_142 dX13_isName_121 rfl (Nat.le_of_ble_eq_true rfl) rfl rfl (Nat.le_of_ble_eq_true rfl) (fun ru Mu hq => ?_)
                            obtain ⟨rfl, rfl⟩ := hq
                            refine x_if_ne 131 dX13_isName_124 (by decide) (fun h124 => ?_) (fun h124 => ?_)
                            · have hw : isN T e a = false := by unfold isN; rw [(isW_k (bI_ne.mp h124)).2, decide_eq_false (fun z => res_ne 25 (by decide) z), Bool.and_false]
                              refine x_iconst dX13_isName_131 li_0 ?_
                              refine x_zret dX13_isName_132 rfl rfl ?_
                              rw [hw]
                              exact ⟨_, rfl, rfl, rfl⟩
                            · have n25 := isW_n (bI_eq.mp h124) hk1
                              have hw : isN T e a = true := by
                                unfold isN
                                rw [decide_eq_true hk1, decide_eq_true (show wiN 0 (vl T e a) = 0 by rw [wiN_0, if_neg n12, if_neg n14, if_neg n15, if_neg n16, if_neg n17, if_neg n18, if_neg n19, if_neg n20, if_neg n22, if_neg n23, if_neg n24, if_neg n21, if_neg n25])]
                                rfl
                              refine x_iconst dX13_isName_127 li_1 ?_
                              refine x_goto 132 dX13_isName_128 (by decide) ?_
                              refine x_zret dX13_isName_132 rfl rfl ?_
                              rw [hw]
                              exact ⟨_, rfl, rfl, rfl⟩
              · have hw : isN T e a = false := by unfold isN; rw [(isW_k (bI_ne.mp h59)).2, decide_eq_false (fun z => res_ne 18 (by decide) z), Bool.and_false]
                refine x_iconst dX13_isName_62 li_0 ?_
                refine x_zret dX13_isName_63 rfl rfl ?_
                rw [hw]
                exact ⟨_, rfl, rfl, rfl⟩
set_option maxRecDepth 100000 in
set_option maxHeartbeats 600000 in
theorem m_isName_o {g : Nat × Nat} (hR : RSt T e (.inl g) I L) : Mt G vX13_isName (d + 6) (0, 0) [.ref (ad 13 0)] (MM ad nb b r I L) (qE (nI 0) (MM ad nb b r I L)) := by
  refine x_start (by decide) (Nat.le_of_ble_eq_true rfl) ?_
  refine x_aload_n dX13_isName_0 rfl ?_
  refine g_M_sort fX13_100 dX13_isName_1 ?_
  refine x_top (hR.2.1) ?_
  refine x_iconst dX13_isName_4 li_2 ?_
  refine x_icN_ne 62 dX13_isName_5 (by decide) (by omega) (by omega) (fun h5 => ?_) (fun h5 => absurd h5 (by omega))
  refine x_iconst dX13_isName_62 li_0 ?_
  refine x_zret dX13_isName_63 rfl rfl ?_
  exact ⟨_, rfl, rfl, rfl⟩
theorem m_isName {c : cS} (hR : RSt T e c I L) : Mt G vX13_isName (d + 6) (0, 0) [.ref (ad 13 0)] (MM ad nb b r I L) (qE (bI (isNc T e c)) (MM ad nb b r I L)) := by
  cases c with
  | inl g => exact m_isName_o hR
  | inr a => exact m_isName_k hR

def isS (T : Nat → Nat) (e q : Nat) (c : cS) : Bool := match c with
  | .inl _ => false
  | .inr a => decide (kd T e a = (if q = 59 then 3 else 4))
def cat (T : Nat → Nat) (e q : Nat) (c : cS) : cS := if isS T e q c = true then cn_ T e c else c

set_option maxRecDepth 100000 in
set_option maxHeartbeats 600000 in
theorem m_eats_o {q : Nat} {g : Nat × Nat} (hR : RSt T e (.inl g) I L) : Mt G vX13_eatsSign (d + 2) (0, 0) [.ref (ad 13 0), .int (nI (q))] (MM ad nb b r I L) (qI (fun rr M' => rr = nI 0 ∧ ∃ I' L', M' = MM ad nb b r I' L' ∧ RSt T e (.inl g) I' L' ∧ FR I I' L L')) := by
  refine x_start (by decide) (Nat.le_of_ble_eq_true rfl) ?_
  refine x_aload_n dX13_eatsSign_0 rfl ?_
  refine g_M_sort fX13_100 dX13_eatsSign_1 ?_
  refine x_top (hR.2.1) ?_
  refine x_iconst dX13_eatsSign_4 li_4 ?_
  refine x_icN_ne 20 dX13_eatsSign_5 (by decide) (by omega) (by omega) (fun h5 => ?_) (fun h5 => absurd h5 (by omega))
  refine x_iconst dX13_eatsSign_20 li_0 ?_
  refine x_istore_n dX13_eatsSign_21 (by decide) rfl ?_
  refine x_iload_n dX13_eatsSign_22 rfl ?_
  refine x_ifN_eq 30 dX13_eatsSign_23 (by decide) (by omega) (fun h23 => ?_) (fun h23 => absurd h23 (by omega))
  refine x_iload_n dX13_eatsSign_30 rfl ?_
  refine x_zret dX13_eatsSign_31 rfl rfl ?_
  exact ⟨_, rfl, rfl, _, _, rfl, hR, FR.rf⟩
set_option maxRecDepth 100000 in
set_option maxHeartbeats 600000 in
theorem m_eats_k {q : Nat} (hq : q = 59 ∨ q = 44) (hT : YTp T e I) (hR : RSt T e (.inr a) I L) : Mt G vX13_eatsSign (d + 2) (0, 0) [.ref (ad 13 0), .int (nI (q))] (MM ad nb b r I L) (qI (fun rr M' => rr = bI (isS T e q (.inr a)) ∧ ∃ I' L', M' = MM ad nb b r I' L' ∧ RSt T e (cat T e q (.inr a)) I' L' ∧ FR I I' L L')) := by
  have hkl := kd_le (T := T) (e := e) (a := a)
  have hm := mso_le _ hkl
  have h4 := mso_4 _ hkl
  refine x_start (by decide) (Nat.le_of_ble_eq_true rfl) ?_
  refine x_aload_n dX13_eatsSign_0 rfl ?_
  refine g_M_sort fX13_100 dX13_eatsSign_1 ?_
  refine x_top (hR.2.1.1.2.2) ?_
  refine x_iconst dX13_eatsSign_4 li_4 ?_
  refine x_icN_ne 20 dX13_eatsSign_5 (by decide) (by omega) (by omega) (fun h5 => ?_) (fun h5 => ?_)
  · have hw : isS T e q (.inr a) = false := decide_eq_false (fun z => by split at z <;> omega)
    refine x_iconst dX13_eatsSign_20 li_0 ?_
    refine x_istore_n dX13_eatsSign_21 (by decide) rfl ?_
    refine x_iload_n dX13_eatsSign_22 rfl ?_
    refine x_ifN_eq 30 dX13_eatsSign_23 (by decide) (by omega) (fun h23 => ?_) (fun h23 => ?_)
    · have hx : isS T e q (.inr a) = false := by first | exact hw | exact absurd h23 (by decide)
      refine x_iload_n dX13_eatsSign_30 rfl ?_
      refine x_zret dX13_eatsSign_31 rfl rfl ?_
      first
        | (refine ⟨_, rfl, ?_, _, _, rfl, ?_, f2⟩
           · rw [hw]; rfl
           · unfold cat; rw [if_pos hx]; exact r2)
        | (refine ⟨_, rfl, ?_, _, _, rfl, ?_, FR.rf⟩
           · rw [hw]; rfl
           · unfold cat; rw [if_neg (by rw [hx]; decide)]; exact hR)
        | exact absurd h23 (by decide)
    · have hx : isS T e q (.inr a) = true := by first | exact hw | exact absurd h23 (by decide)
      have hk34 : kd T e a = 3 ∨ kd T e a = 4 := by have := of_decide_eq_true (show decide (kd T e a = (if q = 59 then 3 else 4)) = true from hx); split at this <;> omega
      refine x_aload_n dX13_eatsSign_26 rfl ?_
      refine x_cvv (m_next (d := d) hT hR (fun a2 z => by cases z; omega)) kX13_139 dX13_eatsSign_27 rfl (Nat.le_of_ble_eq_true rfl) rfl rfl (Nat.le_of_ble_eq_true rfl) (fun Mu hqq => ?_)
      obtain ⟨I2, L2, rfl, r2, f2⟩ := hqq
      refine x_iload_n dX13_eatsSign_30 rfl ?_
      refine x_zret dX13_eatsSign_31 rfl rfl ?_
      first
        | (refine ⟨_, rfl, ?_, _, _, rfl, ?_, f2⟩
           · rw [hw]; rfl
           · unfold cat; rw [if_pos hx]; exact r2)
        | (refine ⟨_, rfl, ?_, _, _, rfl, ?_, FR.rf⟩
           · rw [hw]; rfl
           · unfold cat; rw [if_neg (by rw [hx]; decide)]; exact hR)
        | exact absurd h23 (by decide)
  · refine x_aload_n dX13_eatsSign_8 rfl ?_
    refine g_M_sign fX13_112 dX13_eatsSign_9 ?_
    have hsg : I 13 0 11 = nI (if kd T e a = 3 then 59 else 44) := by
      rcases h4.mp h5 with y | y
      · rw [if_pos y]; exact hR.2.1.2.2.2.2.1 y
      · rw [if_neg (by omega)]; exact hR.2.1.2.2.2.2.2 y
    rw [hsg]
    refine x_iload_n dX13_eatsSign_12 rfl ?_
    refine x_icN_ne 20 dX13_eatsSign_13 (by decide) (by split <;> omega) (by omega) (fun h13 => ?_) (fun h13 => ?_)
    · have hw : isS T e q (.inr a) = false := decide_eq_false (fun z => by rcases hq with y | y <;> rcases h4.mp h5 with x | x <;> simp_all)
      refine x_iconst dX13_eatsSign_20 li_0 ?_
      refine x_istore_n dX13_eatsSign_21 (by decide) rfl ?_
      refine x_iload_n dX13_eatsSign_22 rfl ?_
      refine x_ifN_eq 30 dX13_eatsSign_23 (by decide) (by omega) (fun h23 => ?_) (fun h23 => ?_)
      · have hx : isS T e q (.inr a) = false := by first | exact hw | exact absurd h23 (by decide)
        refine x_iload_n dX13_eatsSign_30 rfl ?_
        refine x_zret dX13_eatsSign_31 rfl rfl ?_
        first
          | (refine ⟨_, rfl, ?_, _, _, rfl, ?_, f2⟩
             · rw [hw]; rfl
             · unfold cat; rw [if_pos hx]; exact r2)
          | (refine ⟨_, rfl, ?_, _, _, rfl, ?_, FR.rf⟩
             · rw [hw]; rfl
             · unfold cat; rw [if_neg (by rw [hx]; decide)]; exact hR)
          | exact absurd h23 (by decide)
      · have hx : isS T e q (.inr a) = true := by first | exact hw | exact absurd h23 (by decide)
        have hk34 : kd T e a = 3 ∨ kd T e a = 4 := by have := of_decide_eq_true (show decide (kd T e a = (if q = 59 then 3 else 4)) = true from hx); split at this <;> omega
        refine x_aload_n dX13_eatsSign_26 rfl ?_
        refine x_cvv (m_next (d := d) hT hR (fun a2 z => by cases z; omega)) kX13_139 dX13_eatsSign_27 rfl (Nat.le_of_ble_eq_true rfl) rfl rfl (Nat.le_of_ble_eq_true rfl) (fun Mu hqq => ?_)
        obtain ⟨I2, L2, rfl, r2, f2⟩ := hqq
        refine x_iload_n dX13_eatsSign_30 rfl ?_
        refine x_zret dX13_eatsSign_31 rfl rfl ?_
        first
          | (refine ⟨_, rfl, ?_, _, _, rfl, ?_, f2⟩
             · rw [hw]; rfl
             · unfold cat; rw [if_pos hx]; exact r2)
          | (refine ⟨_, rfl, ?_, _, _, rfl, ?_, FR.rf⟩
             · rw [hw]; rfl
             · unfold cat; rw [if_neg (by rw [hx]; decide)]; exact hR)
          | exact absurd h23 (by decide)
    · have hw : isS T e q (.inr a) = true := decide_eq_true (by rcases hq with y | y <;> rcases h4.mp h5 with x | x <;> simp_all)
      have hk34 := h4.mp h5
      refine x_iconst dX13_eatsSign_16 li_1 ?_
      refine x_goto 21 dX13_eatsSign_17 (by decide) ?_
      refine x_istore_n dX13_eatsSign_21 (by decide) rfl ?_
      refine x_iload_n dX13_eatsSign_22 rfl ?_
      refine x_ifN_eq 30 dX13_eatsSign_23 (by decide) (by omega) (fun h23 => ?_) (fun h23 => ?_)
      · have hx : isS T e q (.inr a) = false := by first | exact hw | exact absurd h23 (by decide)
        refine x_iload_n dX13_eatsSign_30 rfl ?_
        refine x_zret dX13_eatsSign_31 rfl rfl ?_
        first
          | (refine ⟨_, rfl, ?_, _, _, rfl, ?_, f2⟩
             · rw [hw]; rfl
             · unfold cat; rw [if_pos hx]; exact r2)
          | (refine ⟨_, rfl, ?_, _, _, rfl, ?_, FR.rf⟩
             · rw [hw]; rfl
             · unfold cat; rw [if_neg (by rw [hx]; decide)]; exact hR)
          | exact absurd h23 (by decide)
      · have hx : isS T e q (.inr a) = true := by first | exact hw | exact absurd h23 (by decide)
        have hk34 : kd T e a = 3 ∨ kd T e a = 4 := by have := of_decide_eq_true (show decide (kd T e a = (if q = 59 then 3 else 4)) = true from hx); split at this <;> omega
        refine x_aload_n dX13_eatsSign_26 rfl ?_
        refine x_cvv (m_next (d := d) hT hR (fun a2 z => by cases z; omega)) kX13_139 dX13_eatsSign_27 rfl (Nat.le_of_ble_eq_true rfl) rfl rfl (Nat.le_of_ble_eq_true rfl) (fun Mu hqq => ?_)
        obtain ⟨I2, L2, rfl, r2, f2⟩ := hqq
        refine x_iload_n dX13_eatsSign_30 rfl ?_
        refine x_zret dX13_eatsSign_31 rfl rfl ?_
        first
          | (refine ⟨_, rfl, ?_, _, _, rfl, ?_, f2⟩
             · rw [hw]; rfl
             · unfold cat; rw [if_pos hx]; exact r2)
          | (refine ⟨_, rfl, ?_, _, _, rfl, ?_, FR.rf⟩
             · rw [hw]; rfl
             · unfold cat; rw [if_neg (by rw [hx]; decide)]; exact hR)
          | exact absurd h23 (by decide)
theorem m_eatsSign {q : Nat} {c : cS} (hq : q = 59 ∨ q = 44) (hT : YTp T e I) (hR : RSt T e c I L) : Mt G vX13_eatsSign (d + 2) (0, 0) [.ref (ad 13 0), .int (nI q)] (MM ad nb b r I L) (qI (fun rr M' => rr = bI (isS T e q c) ∧ ∃ I' L', M' = MM ad nb b r I' L' ∧ RSt T e (cat T e q c) I' L' ∧ FR I I' L L')) := by
  cases c with
  | inl g => exact m_eats_o hR
  | inr a => exact m_eats_k hq hT hR

def srt (k : Nat) : Nat := if k = 7 then 4 else k - 1
/-- the model's names -/
def YNm (T : Nat → Nat) (e : Nat) (nm : List (Nat × Nat × Nat)) (ri : Nat) (I : Nat → Nat → Nat → Int32) (L : Nat → Nat → Nat → Int64) : Prop := I 12 ri 12 = nI nm.length ∧ nm.length ≤ 24 ∧ ∀ (i : Nat) (q : Nat × Nat × Nat), nm[i]? = some q → L 81 ri i = vl T e q.1 ∧ I 82 ri i = nI (srt q.2.1) ∧ I 83 ri i = nI q.2.2 ∧ q.2.2 ≤ 6 ∧ (q.2.1 = 1 ∨ q.2.1 = 2 ∨ q.2.1 = 3 ∨ q.2.1 = 4 ∨ q.2.1 = 7)
def fnd (T : Nat → Nat) (e : Nat) (nm : List (Nat × Nat × Nat)) (v : Int64) : Nat := fst (fun i => decide (vl T e (nm.getD i (0, 0, 0)).1 = v)) 0 nm.length
theorem nm_at {i : Nat} (h : i < nm.length) : nm[i]? = some (nm.getD i (0, 0, 0)) := by rw [List.getD_eq_getElem?_getD, List.getElem?_eq_getElem h]; rfl

set_option maxRecDepth 100000 in
set_option maxHeartbeats 600000 in
theorem m_find (hbn : ri < nb) (hN : YNm T e nm ri I L) {v : Int64} : Mt G vX12_find (d) (0, 0) [.ref (ad 12 ri), .long (v)] (MM ad nb b r I L) (qE (if fnd T e nm v < nm.length then nI (fnd T e nm v) else -1) (MM ad nb b r I L)) := by
  have hl := hN.2.1
  have loop2 : ∀ (n : Nat) (k : Nat), nm.length - k < n → k ≤ nm.length → k + fst (fun i => decide (vl T e (nm.getD i (0, 0, 0)).1 = v)) k (nm.length - k) = fnd T e nm v → X G vX12_find (d) (0, 0) 2 [(0, some (.ref (ad 12 ri))), (1, some (.long (v))), (3, some (.int (nI (k))))] [] (MM ad nb b r I L) (xT G (qE (if fnd T e nm v < nm.length then nI (fnd T e nm v) else -1) (MM ad nb b r I L))) := by
    intro n
    induction n with
    | zero => intro k h0; omega
    | succ n ih =>
      intro k hn hk hf
      refine x_iload_n dX12_find_2 rfl ?_
      refine x_aload_n dX12_find_3 rfl ?_
      refine g_MB_names fX12_73 dX12_find_4 hbn ?_
      refine x_top (hN.1) ?_
      refine x_icN_ge 29 dX12_find_7 (by decide) (by omega) (by omega) (fun h7 => ?_) (fun h7 => ?_)
      · refine x_iconst dX12_find_29 li_m1 ?_
        refine x_iret dX12_find_30 rfl ?_
        have e1 : fnd T e nm v = nm.length := by rw [← hf, show nm.length - k = 0 by omega, fst_0]; omega
        rw [e1, if_neg (by omega)]
        exact ⟨_, rfl, rfl, rfl⟩
      · refine x_aload_n dX12_find_10 rfl ?_
        refine g_MB_name fX12_63 dX12_find_11 hbn ?_
        refine x_iload_n dX12_find_14 rfl ?_
        refine x_lald dX12_find_15 rfl rfl hbn (by first | exact Nat.le_of_ble_eq_true rfl | assumption | omega) ?_
        rw [(hN.2.2 k _ (nm_at h7)).1]
        refine x_lload_n dX12_find_16 rfl ?_
        refine x_lcmp dX12_find_17 ?_
        refine x_if_ne 23 dX12_find_18 (by decide) (fun h18 => ?_) (fun h18 => ?_)
        · refine x_iincN 1 dX12_find_23 li_1 rfl (by decide) rfl ?_
          refine x_goto 2 dX12_find_26 (by decide) ?_
          refine x_ls ?_ (ih (k + 1) (by omega) (by omega) (by rw [fst_f (P := (fun i => decide (vl T e (nm.getD i (0, 0, 0)).1 = v))) h7 (decide_eq_false (fun z => h18 ((lg_cmp_eq _ _).mpr z)))]; exact hf))
          exact ⟨rfl, rfl, rfl, trivial⟩
        · refine x_iload_n dX12_find_21 rfl ?_
          refine x_iret dX12_find_22 rfl ?_
          have e1 : fnd T e nm v = k := by rw [← hf, fst_t (P := (fun i => decide (vl T e (nm.getD i (0, 0, 0)).1 = v))) (decide_eq_true ((lg_cmp_eq _ _).mp (by first | exact h18 | exact Decidable.of_not_not h18)))]
          rw [e1, if_pos h7]
          exact ⟨_, rfl, rfl, rfl⟩
  refine x_start (by decide) (Nat.le_of_ble_eq_true rfl) ?_
  refine x_iconst dX12_find_0 li_0 ?_
  refine x_istore_n dX12_find_1 (by decide) rfl ?_
  refine x_ls ?_ (loop2 (nm.length + 1) 0 (by omega) (by omega) (by rw [Nat.zero_add, Nat.sub_zero]; rfl))
  exact ⟨rfl, rfl, rfl, trivial⟩
end M32
