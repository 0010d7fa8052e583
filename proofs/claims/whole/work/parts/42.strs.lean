section Strs
variable {G : xG} {ad : Nat → Nat → Nat} {nb : Nat} {b r : Option Nat} {L : Nat → Nat → Nat → Int64} {V : sV} {I : Nat → Nat → Nat → Int32} {d : Nat}
variable {y y' : xY} {B : Nat × Nat} {pc idx n : Nat} {ls : List (Nat × Option Value)} {st st0 As : List Value} {M : xM} {Q : xTg}
theorem x_sval {i : Nat} (hi : i < 41) (hd : decode y.2.1 pc = .ok (.getfield idx, 3)) (hw : Cond.fieldLink y.1.cls idx "java/lang/String" "value" "[B" ∈ xTBL) (kk : X G y d B (pc + 3) ls (.ref (G.2.2.2.1 i) :: st) M Q) : X G y d B pc ls (.ref (G.2.2.1 i) :: st) M Q := by
  intro p l e RM s m args below meth c H locs cells slots lsA hC hR hH hS hc hs hl
  exact vk_getf hC.1 hC.2.1 (hC.2.2.2.2.2.2.2.2.2.1.1 i hi).2.2.1 hS hC.2.2.2.2.1 (hC.2.2.2.2.2.1 _ hw) (fun _ h => h) hd (kk p l e RM s m args below meth c H locs cells slots lsA hC hR hH hS hc hs hl)
theorem x_scod {i : Nat} (hi : i < 41) (hd : decode y.2.1 pc = .ok (.getfield idx, 3)) (hw : Cond.fieldLink y.1.cls idx "java/lang/String" "coder" "B" ∈ xTBL) (kk : X G y d B (pc + 3) ls (.int (nI 0) :: st) M Q) : X G y d B pc ls (.ref (G.2.2.1 i) :: st) M Q := by
  intro p l e RM s m args below meth c H locs cells slots lsA hC hR hH hS hc hs hl
  exact vk_getf hC.1 hC.2.1 (hC.2.2.2.2.2.2.2.2.2.1.1 i hi).2.1 hS hC.2.2.2.2.1 (hC.2.2.2.2.2.1 _ hw) (fun _ h => h) hd (kk p l e RM s m args below meth c H locs cells slots lsA hC hR hH hS hc hs hl)
theorem x_slen {i : Nat} (hi : i < 41) (hd : decode y.2.1 pc = .ok (.arraylength, 1)) (kk : X G y d B (pc + 1) ls (.int (nI (xsb i).length) :: st) M Q) : X G y d B pc ls (.ref (G.2.2.2.1 i) :: st) M Q := by
  intro p l e RM s m args below meth c H locs cells slots lsA hC hR hH hS hc hs hl
  exact va_tlen hC.1 hC.2.1 (hC.2.2.2.2.2.2.2.2.2.1.1 i hi).2.2.2 hS rfl hd (kk p l e RM s m args below meth c H locs cells slots lsA hC hR hH hS hc hs hl)
theorem x_sbal {i j : Nat} (hi : i < 41) (hj : j < (xsb i).length) (hj2 : (xsb i).length < 2 ^ 31) (hd : decode y.2.1 pc = .ok (.baload, 1)) (kk : X G y d B (pc + 1) ls (.int ((xsb i).getD j 0) :: st) M Q) : X G y d B pc ls (.int (nI j) :: .ref (G.2.2.2.1 i) :: st) M Q := by
  intro p l e RM s m args below meth c H locs cells slots lsA hC hR hH hS hc hs hl
  exact va_tb hC.1 hC.2.1 (hC.2.2.2.2.2.2.2.2.2.1.1 i hi).2.2.2 hS (vp_in_nI hj hj2) (by rw [nI_clamp (Nat.lt_trans hj hj2)]) hd (kk p l e RM s m args below meth c H locs cells slots lsA hC hR hH hS hc hs hl)
theorem x_compact (hd : decode y.2.1 pc = .ok (.getstatic idx, 3)) (hw : Cond.fieldLink y.1.cls idx "java/lang/String" "COMPACT_STRINGS" "Z" ∈ xTBL) (kk : X G y d B (pc + 3) ls (.int (nI 1) :: st) M Q) : X G y d B pc ls st M Q := by
  intro p l e RM s m args below meth c H locs cells slots lsA hC hR hH hS hc hs hl
  exact va_gets hC.1 hC.2.1 hC.2.2.2.2.2.2.2.2.2.1.2.2.2.2.2.2.1 hS hC.2.2.2.2.1 (hC.2.2.2.2.2.1 _ hw) (fun z h => h) hd (kk p l e RM s m args below meth c H locs cells slots lsA hC hR hH hS hc hs hl)
theorem x_sioobe (hd : decode y.2.1 pc = .ok (.getstatic idx, 3)) (hw : Cond.fieldLink y.1.cls idx "jdk/internal/util/Preconditions" "SIOOBE_FORMATTER" "Ljava/util/function/BiFunction;" ∈ xTBL) (kk : ∀ v : Value, v = .null ∨ (∃ t, v = .ref t) → X G y d B (pc + 3) ls (v :: st) M Q) : X G y d B pc ls st M Q := by
  intro p l e RM s m args below meth c H locs cells slots lsA hC hR hH hS hc hs hl
  rcases hC.2.2.2.2.2.2.2.2.2.1.2.2.2.2.2.2.2.1 with hz | ⟨t, hz⟩
  · exact va_gets hC.1 hC.2.1 hz hS hC.2.2.2.2.1 (hC.2.2.2.2.2.1 _ hw) (fun z h => h) hd (kk _ (Or.inl rfl) p l e RM s m args below meth c H locs cells slots lsA hC hR hH hS hc hs hl)
  · exact va_gets hC.1 hC.2.1 hz hS hC.2.2.2.2.1 (hC.2.2.2.2.2.1 _ hw) (fun z h => h) hd (kk _ (Or.inr ⟨t, rfl⟩) p l e RM s m args below meth c H locs cells slots lsA hC hR hH hS hc hs hl)
theorem x_i2c {a v : Int32} (hd : decode y.2.1 pc = .ok (.i2c, 1)) (hv : (a.toUInt32 % 65536).toInt32 = v) (k : X G y d B (pc + 1) ls (.int v :: st) M Q) : X G y d B pc ls (.int a :: st) M Q := by
  intro p l e RM s m args below meth c H locs cells slots lsA hC hR hH hS hc hs hl
  exact lv_i2c hC.1 hC.2.1 hd hv (k p l e RM s m args below meth c H locs cells slots lsA hC hR hH hS hc hs hl)
def xCT (own : String) (idx : Nat) (y : xY) (n : Nat) : Prop := Cond.methodLink own idx y.1 ∈ xTBL ∧ Cond.instanceMethod y.1 ∈ xTBL ∧ Cond.selects y.1.cls y.1 y.1 ∈ xTBL ∧ Cond.initialized y.1.cls ∈ xTBL ∧ Cond.code y.1 y.2.1 y.2.2.1 y.2.2.2 ∈ xTBL ∧ (y.1.cls ≠ "java/lang/invoke/MethodHandle" ∧ y.1.cls ≠ "java/lang/invoke/VarHandle" ∧ (parseMethodDescriptor y.1.desc).map (fun d => d.parameters.length) = some n) ∧ y.2.2.1 ≤ 29 ∧ y.1.cls = "java/lang/String"
theorem x_cSi {P : Int32 → xM → Prop} {i : Nat} (hM : Mt G y' d (0, 0) (.ref (G.2.2.1 i) :: As) M (qI P)) (hcv : xCT y.1.cls idx y' n) (hd : decode y.2.1 pc = .ok (.invokevirtual idx, 3)) (hi : i < 41) (hn : As.length = n) (hst : st0 = As.reverse ++ .ref (G.2.2.1 i) :: st) (hs8 : (st.map fun v => v.category).sum ≤ 8) (kk : ∀ r M', P r M' → X G y (d + 1) B (pc + 3) ls (.int r :: st) M' Q) : X G y (d + 1) B pc ls st0 M Q := by
  intro p l e RM s m args below meth c H locs cells slots lsA hC hR hH hS hc hs hl
  obtain ⟨w1, w2, w3, w4, w5, w6, w7, w8⟩ := hcv
  have hts := hC.2.2.2.2.2.1
  have hSt := hC.2.2.2.2.2.2.2.2.2.1
  have hK := hC.2.2.2.2.2.2.2.2.2.2
  obtain ⟨cell, q1, q2, q3, -⟩ := (hSt.1 i hi).1.kept hS.2.1
  have hr := va_runV (cells := cells) (slots := slots) (locs := locs) (below := below) (e := e) (meth := meth) (R := RM) (g := F0 m pc lsA st0) (As := As) (rest := st) (nL := y.2.2.1) (Ts := xTBL) (own := y.1.cls) (cc := y.2.1) ⟨hC.1, hC.2.1, hC.2.2.2.1, hC.2.2.2.2.1, hts⟩ (hM l hR.2.2) ⟨callB_of n hts (x_goodIn w5) rfl rfl rfl (hts _ w4) (hts _ w1) w6 ⟨hR.1, by have := hR.2.1; show 8 + (y'.2.2.1 + 11) + 48 * d ≤ _; omega⟩, hts _ w2, hts _ w3⟩ ⟨x_blind, ⟨cell, q1, q2, by rw [w8]; exact q3⟩, x_pre hSt hK hH hS⟩ rfl hn hl.1 hst (lv_room hs8) hd ⟨by show cells + 0 ≤ _; omega, by show slots + 0 ≤ _; omega⟩
  refine x_after hr hS (fun v M' H1 locs1 hq hH1 hS1 => ?_)
  obtain ⟨r, rfl, hq⟩ := hq
  exact kk r M' hq p l e RM s m args below meth c H1 locs1 (cells + 0) (slots + 0) lsA hC hR hH1 hS1 (by omega) (by omega) hl
theorem kJ0_335 : xCT RJ0 335 vJ0_coder_7d493 0 := ⟨xm3 90 rfl rfl, xm3 91 rfl rfl, xm3 92 rfl rfl, xm1 15 rfl rfl, xm3 93 rfl rfl, by decide +kernel, by decide, rfl⟩
theorem kJ0_492 : xCT RJ0 492 vJ0_isLatin1_aae02 0 := ⟨xm3 100 rfl rfl, xm3 101 rfl rfl, xm3 102 rfl rfl, xm1 15 rfl rfl, xm3 103 rfl rfl, by decide +kernel, by decide, rfl⟩
theorem kX7_48 : xCT RX7 48 vJ0_length_8abf5 0 := ⟨xm3 86 rfl rfl, xm3 87 rfl rfl, xm3 88 rfl rfl, xm1 15 rfl rfl, xm3 89 rfl rfl, by decide +kernel, by decide, rfl⟩
theorem kX7_54 : xCT RX7 54 vJ0_charAt_5068e 1 := ⟨xm3 96 rfl rfl, xm3 97 rfl rfl, xm3 98 rfl rfl, xm1 15 rfl rfl, xm3 99 rfl rfl, by decide +kernel, by decide, rfl⟩
theorem kX13_88 : xCT RX13 88 vJ0_length_8abf5 0 := ⟨xm7 58 rfl rfl, xm3 87 rfl rfl, xm3 88 rfl rfl, xm1 15 rfl rfl, xm3 89 rfl rfl, by decide +kernel, by decide, rfl⟩
theorem kX13_96 : xCT RX13 96 vJ0_charAt_5068e 1 := ⟨xm7 59 rfl rfl, xm3 97 rfl rfl, xm3 98 rfl rfl, xm1 15 rfl rfl, xm3 99 rfl rfl, by decide +kernel, by decide, rfl⟩

/-- the k-th string's letters -/
def sch (k j : Nat) : Nat := zN ((xsb k).getD j 0)
theorem sch_ok : ∀ k, k < 41 → ∀ j, j < (xsb k).length → (xsb k).getD j 0 = nI (sch k j) ∧ sch k j < 128 := by decide +kernel
theorem xsb_len : ∀ k, k < 41 → (xsb k).length ≤ 100 := by decide +kernel
theorem and255 : ∀ c, c < 128 → nI c &&& nI 255 = nI c := by decide +kernel
theorem i2c128 : ∀ c, c < 128 → ((nI c).toUInt32 % 65536).toInt32 = nI c := by decide +kernel
theorem nar128 : ∀ c, c < 128 → narrow .char (.int (nI c)) = .int (nI c) := by
  intro c hc
  show Value.int (((nI c).toUInt32 % 65536).toInt32) = _
  rw [i2c128 c hc]

set_option maxRecDepth 100000 in
set_option maxHeartbeats 4000000 in
theorem c_coder {i : Nat} (hi : i < 41) : Mt G vJ0_coder_7d493 (d) (0, 0) [.ref (G.2.2.1 i)] (M) (qE (nI 0) M) := by
  refine x_start (by decide) (Nat.le_of_ble_eq_true rfl) ?_
  refine x_compact dJ0_coder_7d493_0 (xm3 94 rfl rfl) ?_
  refine x_ifN_eq 13 dJ0_coder_7d493_3 (by decide) (by omega) (fun h3 => absurd h3 (by decide)) (fun h3 => ?_)
  refine x_aload_n dJ0_coder_7d493_6 rfl ?_
  refine x_scod hi dJ0_coder_7d493_7 (xm9 65 rfl rfl) ?_
  refine x_goto 14 dJ0_coder_7d493_10 (by decide) ?_
  refine x_zret dJ0_coder_7d493_14 rfl rfl ?_
  exact ⟨_, rfl, rfl, rfl⟩
set_option maxRecDepth 100000 in
set_option maxHeartbeats 4000000 in
theorem c_isLatin1 {i : Nat} (hi : i < 41) : Mt G vJ0_isLatin1_aae02 (d) (0, 0) [.ref (G.2.2.1 i)] (M) (qE (nI 1) M) := by
  refine x_start (by decide) (Nat.le_of_ble_eq_true rfl) ?_
  refine x_compact dJ0_isLatin1_aae02_0 (xm3 94 rfl rfl) ?_
  refine x_ifN_eq 17 dJ0_isLatin1_aae02_3 (by decide) (by omega) (fun h3 => absurd h3 (by decide)) (fun h3 => ?_)
  refine x_aload_n dJ0_isLatin1_aae02_6 rfl ?_
  refine x_scod hi dJ0_isLatin1_aae02_7 (xm9 65 rfl rfl) ?_
  refine x_ifN_ne 17 dJ0_isLatin1_aae02_10 (by decide) (by omega) (fun h10 => absurd h10 (by decide)) (fun h10 => ?_)
  refine x_iconst dJ0_isLatin1_aae02_13 li_1 ?_
  refine x_goto 18 dJ0_isLatin1_aae02_14 (by decide) ?_
  refine x_zret dJ0_isLatin1_aae02_18 rfl rfl ?_
  exact ⟨_, rfl, rfl, rfl⟩
set_option maxRecDepth 100000 in
set_option maxHeartbeats 4000000 in
theorem c_strlen {i : Nat} (hi : i < 41) : Mt G vJ0_length_8abf5 (d + 1) (0, 0) [.ref (G.2.2.1 i)] (M) (qE (nI (xsb i).length) M) := by
  refine x_start (by decide) (Nat.le_of_ble_eq_true rfl) ?_
  refine x_aload_n dJ0_length_8abf5_0 rfl ?_
  refine x_sval hi dJ0_length_8abf5_1 (xm9 64 rfl rfl) ?_
  refine x_slen hi dJ0_length_8abf5_4 ?_
  refine x_aload_n dJ0_length_8abf5_5 rfl ?_
  refine x_cSi (c_coder (d := d) hi) kJ0_335 dJ0_length_8abf5_6 hi rfl rfl (Nat.le_of_ble_eq_true rfl) (fun ru Mu hq => ?_)
  obtain ⟨rfl, rfl⟩ := hq
  refine x_ishr dJ0_length_8abf5_9 ?_
  refine x_iret dJ0_length_8abf5_10 rfl ?_
  refine ⟨_, rfl, ?_, rfl⟩
  have h1 := xsb_len i hi
  have key : ∀ n, n ≤ 100 → nI n >>> (nI 0 &&& 31) = nI n := by decide +kernel
  exact key _ h1
set_option maxRecDepth 100000 in
set_option maxHeartbeats 4000000 in
theorem c_pcheck0 {j m : Nat} (hj : j < m) (hm : m < 2 ^ 31) : Mt G vJ3_checkIndex_8e157 (d) (0, 0) [.int (nI (j)), .int (nI (m)), .null] (M) (qE (nI j) M) := by
  refine x_start (by decide) (Nat.le_of_ble_eq_true rfl) ?_
  refine x_iload_n dJ3_checkIndex_8e157_0 rfl ?_
  refine x_ifN_lt 9 dJ3_checkIndex_8e157_1 (by decide) (by omega) (fun h1 => ?_)
  refine x_iload_n dJ3_checkIndex_8e157_4 rfl ?_
  refine x_iload_n dJ3_checkIndex_8e157_5 rfl ?_
  refine x_icN_lt 16 dJ3_checkIndex_8e157_6 (by decide) (by omega) (by omega) (fun h6 => ?_) (fun h6 => absurd hj (by omega))
  refine x_iload_n dJ3_checkIndex_8e157_16 rfl ?_
  refine x_iret dJ3_checkIndex_8e157_17 rfl ?_
  exact ⟨_, rfl, rfl, rfl⟩
set_option maxRecDepth 100000 in
set_option maxHeartbeats 4000000 in
theorem c_pcheck1 {j m a : Nat} (hj : j < m) (hm : m < 2 ^ 31) : Mt G vJ3_checkIndex_8e157 (d) (0, 0) [.int (nI (j)), .int (nI (m)), .ref (a)] (M) (qE (nI j) M) := by
  refine x_start (by decide) (Nat.le_of_ble_eq_true rfl) ?_
  refine x_iload_n dJ3_checkIndex_8e157_0 rfl ?_
  refine x_ifN_lt 9 dJ3_checkIndex_8e157_1 (by decide) (by omega) (fun h1 => ?_)
  refine x_iload_n dJ3_checkIndex_8e157_4 rfl ?_
  refine x_iload_n dJ3_checkIndex_8e157_5 rfl ?_
  refine x_icN_lt 16 dJ3_checkIndex_8e157_6 (by decide) (by omega) (by omega) (fun h6 => ?_) (fun h6 => absurd hj (by omega))
  refine x_iload_n dJ3_checkIndex_8e157_16 rfl ?_
  refine x_iret dJ3_checkIndex_8e157_17 rfl ?_
  exact ⟨_, rfl, rfl, rfl⟩
theorem c_pcheck {j m : Nat} {v : Value} (hv : v = .null ∨ ∃ t, v = .ref t) (hj : j < m) (hm : m < 2 ^ 31) : Mt G vJ3_checkIndex_8e157 d (0, 0) [.int (nI j), .int (nI m), v] M (qE (nI j) M) := by
  rcases hv with rfl | ⟨t, rfl⟩
  · exact c_pcheck0 hj hm
  · exact c_pcheck1 hj hm
set_option maxRecDepth 100000 in
set_option maxHeartbeats 4000000 in
theorem c_scheck {j m : Nat} (hj : j < m) (hm : m < 2 ^ 31) : Mt G vJ0_checkIndex_df160 (d + 1) (0, 0) [.int (nI (j)), .int (nI (m))] (M) (qV (fun M' => M' = M)) := by
  refine x_start (by decide) (Nat.le_of_ble_eq_true rfl) ?_
  refine x_iload_n dJ0_checkIndex_df160_0 rfl ?_
  refine x_iload_n dJ0_checkIndex_df160_1 rfl ?_
  refine x_sioobe dJ0_checkIndex_df160_2 (xm3 110 rfl rfl) (fun v hv => ?_)
  refine x_csi (c_pcheck (d := d) hv hj hm) kJ0_1059 dJ0_checkIndex_df160_5 rfl rfl (Nat.le_of_ble_eq_true rfl) (fun ru Mu hq => ?_)
  obtain ⟨rfl, rfl⟩ := hq
  refine x_pop dJ0_checkIndex_df160_8 rfl ?_
  refine x_vret dJ0_checkIndex_df160_9 rfl ?_
  exact ⟨rfl, rfl⟩
set_option maxRecDepth 100000 in
set_option maxHeartbeats 4000000 in
theorem c_lcharAt {i : Nat} (hi : i < 41) {j : Nat} (hj : j < (xsb i).length) : Mt G vJ1_charAt_3b067 (d + 1 + 1) (0, 0) [.ref (G.2.2.2.1 i), .int (nI (j))] (M) (qE (nI (sch i j)) M) := by
  have hl := xsb_len i hi
  have hc := sch_ok i hi j hj
  refine x_start (by decide) (Nat.le_of_ble_eq_true rfl) ?_
  refine x_iload_n dJ1_charAt_3b067_0 rfl ?_
  refine x_aload_n dJ1_charAt_3b067_1 rfl ?_
  refine x_slen hi dJ1_charAt_3b067_2 ?_
  refine x_csv (c_scheck (d := d) hj (by omega)) kJ1_9 dJ1_charAt_3b067_3 rfl rfl (Nat.le_of_ble_eq_true rfl) (fun Mu hq => ?_)
  subst hq
  refine x_aload_n dJ1_charAt_3b067_6 rfl ?_
  refine x_iload_n dJ1_charAt_3b067_7 rfl ?_
  refine x_sbal hi hj (by omega) dJ1_charAt_3b067_8 ?_
  rw [hc.1]
  refine x_sipush dJ1_charAt_3b067_9 lS_255 ?_
  refine x_iand dJ1_charAt_3b067_12 ?_
  rw [and255 _ hc.2]
  refine x_i2c dJ1_charAt_3b067_13 (i2c128 _ hc.2) ?_
  refine x_zret dJ1_charAt_3b067_14 rfl (nar128 _ hc.2) ?_
  exact ⟨_, rfl, rfl, rfl⟩
set_option maxRecDepth 100000 in
set_option maxHeartbeats 4000000 in
theorem c_charAt {i : Nat} (hi : i < 41) {j : Nat} (hj : j < (xsb i).length) : Mt G vJ0_charAt_5068e (d + 1 + 1 + 1) (0, 0) [.ref (G.2.2.1 i), .int (nI (j))] (M) (qE (nI (sch i j)) M) := by
  have hc := sch_ok i hi j hj
  refine x_start (by decide) (Nat.le_of_ble_eq_true rfl) ?_
  refine x_aload_n dJ0_charAt_5068e_0 rfl ?_
  refine x_cSi (c_isLatin1 (d := d + 2) hi) kJ0_492 dJ0_charAt_5068e_1 hi rfl rfl (Nat.le_of_ble_eq_true rfl) (fun ru Mu hq => ?_)
  obtain ⟨rfl, rfl⟩ := hq
  refine x_ifN_eq 16 dJ0_charAt_5068e_4 (by decide) (by omega) (fun h4 => absurd h4 (by decide)) (fun h4 => ?_)
  refine x_aload_n dJ0_charAt_5068e_7 rfl ?_
  refine x_sval hi dJ0_charAt_5068e_8 (xm9 64 rfl rfl) ?_
  refine x_iload_n dJ0_charAt_5068e_11 rfl ?_
  refine x_csi (c_lcharAt (d := d) hi hj) kJ0_495 dJ0_charAt_5068e_12 rfl rfl (Nat.le_of_ble_eq_true rfl) (fun ru Mu hq => ?_)
  obtain ⟨rfl, rfl⟩ := hq
  refine x_zret dJ0_charAt_5068e_15 rfl (nar128 _ hc.2) ?_
  exact ⟨_, rfl, rfl, rfl⟩
end Strs
