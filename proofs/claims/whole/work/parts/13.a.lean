set_option maxRecDepth 100000 in
theorem xin_0 : ∀ w ∈ u_ws RX0 TX0 8, w ∈ xTBL := by decide +kernel
set_option maxRecDepth 100000 in
theorem xin_1 : ∀ w ∈ u_ws RX1 TX1 3, w ∈ xTBL := by decide +kernel
set_option maxRecDepth 100000 in
theorem xin_2 : ∀ w ∈ u_ws RX2 TX2 18, w ∈ xTBL := by decide +kernel
set_option maxRecDepth 100000 in
theorem xin_3 : ∀ w ∈ u_ws RX3 TX3 6, w ∈ xTBL := by decide +kernel
set_option maxRecDepth 100000 in
theorem xin_4 : ∀ w ∈ u_ws RX4 TX4 4, w ∈ xTBL := by decide +kernel
set_option maxRecDepth 100000 in
theorem xin_5 : ∀ w ∈ u_ws RX5 TX5 5, w ∈ xTBL := by decide +kernel
set_option maxRecDepth 100000 in
theorem xin_6 : ∀ w ∈ u_ws RX6 TX6 10, w ∈ xTBL := by decide +kernel
set_option maxRecDepth 100000 in
theorem xin_7 : ∀ w ∈ u_ws RX7 TX7 6, w ∈ xTBL := by decide +kernel
set_option maxRecDepth 100000 in
theorem xin_8 : ∀ w ∈ u_ws RX8 TX8 9, w ∈ xTBL := by decide +kernel
set_option maxRecDepth 100000 in
theorem xin_9 : ∀ w ∈ u_ws RX9 TX9 5, w ∈ xTBL := by decide +kernel
set_option maxRecDepth 100000 in
theorem xin_10 : ∀ w ∈ u_ws RX10 TX10 9, w ∈ xTBL := by decide +kernel
set_option maxRecDepth 100000 in
theorem xin_11 : ∀ w ∈ u_ws RX11 TX11 15, w ∈ xTBL := by decide +kernel
set_option maxRecDepth 100000 in
theorem xin_12 : ∀ w ∈ u_ws RX12 TX12 33, w ∈ xTBL := by decide +kernel
set_option maxRecDepth 100000 in
theorem xin_13 : ∀ w ∈ u_ws RX13 TX13 42, w ∈ xTBL := by decide +kernel
theorem xin : ∀ (c : Nat) (C : String) (T : u_T) (N : Nat), vwCl[c]? = some (C, T, N) → ∀ w ∈ u_ws C T N, w ∈ xTBL := by
  intro c C T N h
  match c, h with
  | 0, h => cases h; exact xin_0
  | 1, h => cases h; exact xin_1
  | 2, h => cases h; exact xin_2
  | 3, h => cases h; exact xin_3
  | 4, h => cases h; exact xin_4
  | 5, h => cases h; exact xin_5
  | 6, h => cases h; exact xin_6
  | 7, h => cases h; exact xin_7
  | 8, h => cases h; exact xin_8
  | 9, h => cases h; exact xin_9
  | 10, h => cases h; exact xin_10
  | 11, h => cases h; exact xin_11
  | 12, h => cases h; exact xin_12
  | 13, h => cases h; exact xin_13
  | c + 14, h => simp [vwCl] at h
theorem xnm : ∀ (c : Nat) (C : String) (T : u_T) (N : Nat), vwCl[c]? = some (C, T, N) → ∀ a, a < N → ∀ b, b < N → a ≠ b → (T a).2.1 ≠ (T b).2.1 := by
  intro c C T N h
  match c, h with
  | 0, h => cases h; exact nmX0
  | 1, h => cases h; exact nmX1
  | 2, h => cases h; exact nmX2
  | 3, h => cases h; exact nmX3
  | 4, h => cases h; exact nmX4
  | 5, h => cases h; exact nmX5
  | 6, h => cases h; exact nmX6
  | 7, h => cases h; exact nmX7
  | 8, h => cases h; exact nmX8
  | 9, h => cases h; exact nmX9
  | 10, h => cases h; exact nmX10
  | 11, h => cases h; exact nmX11
  | 12, h => cases h; exact nmX12
  | 13, h => cases h; exact nmX13
  | c + 14, h => simp [vwCl] at h
theorem xtk : ∀ (c : Nat) (C : String) (T : u_T) (N : Nat), vwCl[c]? = some (C, T, N) → ∃ ty : Nat → FieldType, ∀ k, k < N → parseFieldDescriptor (T k).2.2.1 = some (ty k) := by
  intro c C T N h
  match c, h with
  | 0, h => cases h; exact ⟨tyX0, tyX0_ok⟩
  | 1, h => cases h; exact ⟨tyX1, tyX1_ok⟩
  | 2, h => cases h; exact ⟨tyX2, tyX2_ok⟩
  | 3, h => cases h; exact ⟨tyX3, tyX3_ok⟩
  | 4, h => cases h; exact ⟨tyX4, tyX4_ok⟩
  | 5, h => cases h; exact ⟨tyX5, tyX5_ok⟩
  | 6, h => cases h; exact ⟨tyX6, tyX6_ok⟩
  | 7, h => cases h; exact ⟨tyX7, tyX7_ok⟩
  | 8, h => cases h; exact ⟨tyX8, tyX8_ok⟩
  | 9, h => cases h; exact ⟨tyX9, tyX9_ok⟩
  | 10, h => cases h; exact ⟨tyX10, tyX10_ok⟩
  | 11, h => cases h; exact ⟨tyX11, tyX11_ok⟩
  | 12, h => cases h; exact ⟨tyX12, tyX12_ok⟩
  | 13, h => cases h; exact ⟨tyX13, tyX13_ok⟩
  | c + 14, h => simp [vwCl] at h
