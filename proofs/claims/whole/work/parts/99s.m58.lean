section M58
theorem nI_bv (z : Int32) : nI z.toBitVec.toNat = z := by
  apply Int32.toBitVec_inj.mp
  show BitVec.ofNat 32 z.toBitVec.toNat = _
  exact BitVec.eq_of_toNat_eq (by rw [BitVec.toNat_ofNat]; exact Nat.mod_eq_of_lt (BitVec.isLt _))
abbrev prC : Cond := Jvm.Cond.and given_1 narrow_1
def tmS (i : Nat) : Term := Term.string (xSRL.getD i ("", 0, "")).1 (xSRL.getD i ("", 0, "")).2.1
set_option maxRecDepth 100000 in
theorem pr_ex : ∀ i, i < 41 → Cond.exactly (tmS i) "java/lang/String" ∈ flatC prC := by decide +kernel
set_option maxRecDepth 100000 in
theorem pr_co : ∀ i, i < 41 → Cond.eq (.field (tmS i) "java/lang/String" "coder" "B") (.int 0) ∈ flatC prC := by decide +kernel
set_option maxRecDepth 100000 in
theorem pr_ar : ∀ i, i < 41 → Cond.arrayOf (.field (tmS i) "java/lang/String" "value" "[B") .byte ∈ flatC prC := by decide +kernel
set_option maxRecDepth 100000 in
theorem pr_le : ∀ i, i < 41 → Cond.eq (.length (.field (tmS i) "java/lang/String" "value" "[B")) (.int (Int32.ofNat (xsb i).length)) ∈ flatC prC := by decide +kernel
def elX : List (List Nat) := [[52, 53, 54, 55, 56, 57, 58, 59, 60, 61, 62, 63, 64, 65, 66, 67, 68, 69, 70, 71, 72, 73, 74, 75, 76, 77, 78, 79, 80, 81, 82, 83, 84, 85, 86, 87, 88, 89, 90, 91, 92, 93, 94, 95, 96, 97, 98, 99, 100, 101, 102, 103, 104, 105, 106, 107, 108, 109, 110, 111, 112, 113, 114, 115, 116, 117, 118, 119, 120, 121, 122, 123, 124], [129, 130, 131, 132], [137, 138, 139, 140], [145, 146, 147, 148, 149, 150, 151, 152, 153, 154, 155, 156, 157, 158, 159, 160, 161, 162, 163, 164, 165, 166, 167, 168, 169, 170, 171, 172, 173, 174, 175], [180, 181, 182, 183], [188, 189, 190, 191, 192], [197, 198], [203, 204, 205, 206], [211, 212, 213, 214, 215], [220, 221, 222, 223, 224, 225, 226, 227, 228, 229, 230, 231, 232, 233, 234, 235, 236, 237, 238, 239, 240, 241, 242, 243, 244, 245], [250, 251, 252, 253], [258, 259], [264, 265, 266, 267, 268, 269], [274, 275, 276, 277], [283, 284, 285, 286], [291, 292, 293, 294, 295], [300, 301, 302, 303], [309, 310, 311, 312, 313], [318, 319, 320, 321], [326, 327, 328, 329, 330, 331], [336, 337, 338, 339, 340, 341, 342, 343, 344], [349, 350], [355, 356, 357, 358], [363, 364, 365, 366, 367], [372, 373, 374, 375, 376], [381, 382], [388, 389, 390, 391], [397, 398, 399, 400, 401], [406, 407, 408, 409, 410], [415, 416, 417, 418, 419], [424, 425, 426, 427, 428], [433, 434, 435, 436, 437, 438, 439], [444, 445, 446, 447], [453, 454, 455, 456, 457], [463, 464, 465, 466, 467], [473, 474, 475, 476, 477, 478], [483, 484, 485, 486, 487, 488, 489], [494, 495, 496, 497, 498], [503, 504, 505, 506, 507], [512, 513, 514, 515], [521, 522]]
set_option maxRecDepth 100000 in
theorem pr_elx : ∀ i, i < 41 → ∀ j, j < (xsb i).length → (flatC prC)[(elX.getD i []).getD j 0]? = some (Cond.eq (.elem (.field (tmS i) "java/lang/String" "value" "[B") (.int (Int32.ofNat j))) (.int ((xsb i).getD j 0))) := by decide +kernel
theorem pr_el : ∀ i, i < 41 → ∀ j, j < (xsb i).length → Cond.eq (.elem (.field (tmS i) "java/lang/String" "value" "[B") (.int (Int32.ofNat j))) (.int ((xsb i).getD j 0)) ∈ flatC prC := fun i hi j hj => List.mem_of_getElem? (pr_elx i hi j hj)
theorem xsb_sm : ∀ i, i < 41 → (xsb i).length < 2 ^ 31 := by decide +kernel
set_option maxRecDepth 100000 in
theorem pr_fa : (Cond.arrayOf (.static "SmellCustoms$Air" "FADES" "[I") .int ∈ flatC prC) ∧ (Cond.eq (.length (.static "SmellCustoms$Air" "FADES" "[I")) (.int (Int32.ofNat 5)) ∈ flatC prC) ∧ ∀ j, j < 5 → Cond.eq (.elem (.static "SmellCustoms$Air" "FADES" "[I") (.int (Int32.ofNat j))) (.int (xFadesL.getD j 0)) ∈ flatC prC := by decide +kernel
set_option maxRecDepth 100000 in
theorem pr_ro : (Cond.arrayOf (.static "SmellCustoms$Teller" "ROOM" "[I") .int ∈ flatC prC) ∧ (Cond.eq (.length (.static "SmellCustoms$Teller" "ROOM" "[I")) (.int (Int32.ofNat 12)) ∈ flatC prC) ∧ ∀ j, j < 12 → Cond.eq (.elem (.static "SmellCustoms$Teller" "ROOM" "[I") (.int (Int32.ofNat j))) (.int (xRoomL.getD j 0)) ∈ flatC prC := by decide +kernel
set_option maxRecDepth 100000 in
theorem pr_st : (Cond.eq (.static "java/lang/String" "COMPACT_STRINGS" "Z") (.int 1) ∈ flatC prC) ∧ (Cond.isRef (.static "jdk/internal/util/Preconditions" "SIOOBE_FORMATTER" "Ljava/util/function/BiFunction;") ∈ flatC prC) ∧ (Cond.isRef (.static Bundle.tN "UNASSIGNED_STACK" Bundle.steD) ∈ flatC prC) ∧ (Cond.isRef (.static Bundle.tN "SUPPRESSED_SENTINEL" Bundle.listD) ∈ flatC prC) := by decide +kernel
set_option maxRecDepth 100000 in
theorem tb_ls : ∀ w ∈ [Cond.laysStatic "SmellCustoms$Air" "FADES" "[I", Cond.initialized "SmellCustoms$Air", Cond.laysStatic "SmellCustoms$Teller" "ROOM" "[I", Cond.initialized "SmellCustoms$Teller", Cond.laysStatic "java/lang/String" "COMPACT_STRINGS" "Z", Cond.initialized "java/lang/String", Cond.laysStatic "jdk/internal/util/Preconditions" "SIOOBE_FORMATTER" "Ljava/util/function/BiFunction;", Cond.initialized "jdk/internal/util/Preconditions", Cond.laysStatic Bundle.tN "UNASSIGNED_STACK" Bundle.steD, Cond.laysStatic Bundle.tN "SUPPRESSED_SENTINEL" Bundle.listD, Cond.initialized Bundle.tN, Cond.arrayOver (.array .int), Cond.arrayOver (.object "SmellCustoms$Person"), Cond.castable xNE xNE, Cond.arrayClass .int, Cond.arrayClass .byte, Cond.arrayClass .long, Cond.declares ⟨"java/lang/RuntimeException", "<init>", "()V"⟩, Cond.declares ⟨"java/lang/Exception", "<init>", "()V"⟩, Cond.declares ⟨"java/lang/Throwable", "<init>", "()V"⟩], w ∈ tables_1 := by decide +kernel
set_option maxRecDepth 100000 in
theorem tb_sr : ∀ q ∈ xSRL, Cond.stringRef q.1 q.2.1 q.2.2 ∈ tables_1 := by decide +kernel
set_option maxRecDepth 100000 in
theorem tb_nf : ∀ q ∈ xNFL, Cond.fieldLinkNest q.1 q.2.1 q.2.2.1 q.2.2.2.1 q.2.2.2.2.1 q.2.2.2.2.2 ∈ tables_1 := by decide +kernel
set_option maxRecDepth 100000 in
theorem tb_nm : ∀ q ∈ xNML, Cond.methodLinkNest q.1 q.2.1 q.2.2.1 q.2.2.2 ∈ tables_1 := by decide +kernel
set_option maxRecDepth 100000 in
theorem tb_in : ∀ q ∈ vwCl.map (fun c => (c.1, c.2.2)), ∃ n, Cond.instantiable q.1 n ∈ tables_1 := by
  intro q hq
  exact ⟨q.2, (show ∀ q ∈ vwCl.map (fun c => (c.1, c.2.2)), Cond.instantiable q.1 q.2 ∈ tables_1 by decide +kernel) q hq⟩
theorem ao_kA {s : State} {ty : FieldType} {c comp : ClassId} {k : Class} (h2 : s.vm.classes[c]? = some k) (h3 : k.kind = .array comp ty) : ArrOfT s c ty := fun n z => ⟨fun q hq => (by cases hq), k, h2, comp, h3⟩
/-- what stands at the law's start -/
theorem xst_start {s : State} {args : Array Value} {b L : Nat} {xs : Nat → Int32} (hts : ∀ w ∈ lw_tbl, w.before args s = true) (hX : va_X b L xs s s.heap) (hb : b < s.heap.size) (hL : L ≤ 3072) (hpr : prC.before args s = true) : ∃ G : xG, G.2.2.2.2.2 = s.heap.size ∧ scA G = b ∧ scN G = L ∧ xSt G s s.heap ∧ va_K G.1 vwCl (xtys G) s := by
  have hp := flat_of_before _ hpr
  have ht : ∀ w ∈ tables_1, w.before args s = true := fun w hw => hts w (List.mem_append_right _ hw)
  have hx : ∀ w ∈ xTBL, w.before args s = true := fun w hw => hts w (List.mem_filter.mp hw).1
  obtain ⟨A, hAdef⟩ : ∃ A : Nat → Prop, A = fun q => s.heap.size ≤ q := ⟨_, rfl⟩
  have hA : ∀ a : Nat, a < s.heap.size → ¬ A a := fun a h => by rw [hAdef]; exact Nat.not_le.mpr h
  have hcl : ∀ c : Nat, ∃ (cC : ClassId) (iS : Nat → Nat), ∀ q, vwCl[c]? = some q → u_Kn s q.1 q.2.1 q.2.2 cC iS := fun c => by
    cases hc : vwCl[c]? with
    | none => exact ⟨0, fun _ => 0, fun q hq => by cases hq⟩
    | some q =>
      obtain ⟨n, hn⟩ := tb_in (q.1, q.2.2) (List.mem_map.mpr ⟨q, List.mem_of_getElem? hc, rfl⟩)
      obtain ⟨cC, iS, hk⟩ := u_known (C := q.1) (T := q.2.1) (N := q.2.2) hx (xin c q.1 q.2.1 q.2.2 hc) (ht _ hn)
      exact ⟨cC, iS, fun q2 hq2 => by cases hq2; exact hk⟩
  obtain ⟨dC, hdC⟩ := Classical.skolem.mp hcl
  obtain ⟨dI, hdI⟩ := Classical.skolem.mp hdC
  have hty : ∀ t : Nat, ∃ cA : ClassId, t < 5 → ArrOfT s cA (xty t) ∧ va_RA s cA (xty t) := fun t => by
    by_cases h : t < 5
    · rcases (show t = 0 ∨ t = 1 ∨ t = 2 ∨ t = 3 ∨ t = 4 by omega) with rfl | rfl | rfl | rfl | rfl
      · obtain ⟨c, k, comp, h1, h2, h3⟩ := Cond.arrayClass_spec (ht _ (tb_ls (.arrayClass .int) (by simp)))
        exact ⟨c, fun _ => ⟨ao_kA h2 h3, h1⟩⟩
      · obtain ⟨c, k, comp, h1, h2, h3⟩ := Cond.arrayClass_spec (ht _ (tb_ls (.arrayClass .byte) (by simp)))
        exact ⟨c, fun _ => ⟨ao_kA h2 h3, h1⟩⟩
      · obtain ⟨c, k, comp, h1, h2, h3⟩ := Cond.arrayClass_spec (ht _ (tb_ls (.arrayClass .long) (by simp)))
        exact ⟨c, fun _ => ⟨ao_kA h2 h3, h1⟩⟩
      · obtain ⟨comp, c, k, h1, -, h3, h4, h5⟩ := Cond.arrayOver_spec (ht _ (tb_ls (.arrayOver (.object "SmellCustoms$Person")) (by simp)))
        exact ⟨c, fun _ => ⟨ao_kA h3 h4, k, comp, h3, h4, h1, h5⟩⟩
      · obtain ⟨comp, c, k, h1, -, h3, h4, h5⟩ := arrayOverA_spec (ht _ (tb_ls (.arrayOver (.array .int)) (by simp)))
        exact ⟨c, fun _ => ⟨ao_kA h3 h4, h5⟩⟩
    · exact ⟨0, fun z => absurd z h⟩
  obtain ⟨cT, hcT⟩ := Classical.skolem.mp hty
  have hstr : ∀ i : Nat, ∃ a t : Nat, i < 41 → (tmS i).eval args s none [] s = some (.ref a) ∧ va_O "java/lang/String" a A s s.heap ∧ va_OF "java/lang/String" "coder" "B" (.int 0) a A s s.heap ∧ va_OF "java/lang/String" "value" "[B" (.ref t) a A s s.heap ∧ va_T .byte t (xsb i).length (fun j => .int ((xsb i).getD j 0)) A s s.heap := fun i => by
    by_cases h : i < 41
    · obtain ⟨a, c, cell, k, q1, -⟩ := Cond.exactly_spec (hp _ (pr_ex i h))
      obtain ⟨t, q2, q3⟩ := va_Tof (f := fun j => .int ((xsb i).getD j 0)) (A := A) (xsb_sm i h) (hp _ (pr_ar i h)) (va_eqt (hp _ (pr_le i h))) (fun j hj => va_eqt (hp _ (pr_el i h j hj))) hA
      exact ⟨a, t, fun _ => ⟨q1, va_Oof (hp _ (pr_ex i h)) q1 hA, vk_OFof q1 (va_eqt (hp _ (pr_co i h))) hA, vk_OFof q1 q2 hA, q3⟩⟩
    · exact ⟨0, 0, fun z => absurd z h⟩
  obtain ⟨sa, hsa⟩ := Classical.skolem.mp hstr
  obtain ⟨sv, hsv⟩ := Classical.skolem.mp hsa
  obtain ⟨t1, e1, T1⟩ := va_Tof (f := fun j => .int (xFadesL.getD j 0)) (A := A) (N := 5) (by decide) (hp _ pr_fa.1) (va_eqt (hp _ pr_fa.2.1)) (fun j hj => va_eqt (hp _ (pr_fa.2.2 j hj))) hA
  obtain ⟨t2, e2, T2⟩ := va_Tof (f := fun j => .int (xRoomL.getD j 0)) (A := A) (N := 12) (by decide) (hp _ pr_ro.1) (va_eqt (hp _ pr_ro.2.1)) (fun j hj => va_eqt (hp _ (pr_ro.2.2 j hj))) hA
  have W : ∀ w, w ∈ tables_1 → w.before args s = true := ht
  have Z1 := va_Zof (A := A) (W _ (tb_ls (.laysStatic "SmellCustoms$Air" "FADES" "[I") (by simp))) (W _ (tb_ls (.initialized "SmellCustoms$Air") (by simp))) e1 hA
  have Z2 := va_Zof (A := A) (W _ (tb_ls (.laysStatic "SmellCustoms$Teller" "ROOM" "[I") (by simp))) (W _ (tb_ls (.initialized "SmellCustoms$Teller") (by simp))) e2 hA
  have Z3 := va_Zof (A := A) (W _ (tb_ls (.laysStatic "java/lang/String" "COMPACT_STRINGS" "Z") (by simp))) (W _ (tb_ls (.initialized "java/lang/String") (by simp))) (va_eqt (hp _ pr_st.1)) hA
  have Z4 := va_Zqof (A := A) (W _ (tb_ls (.laysStatic "jdk/internal/util/Preconditions" "SIOOBE_FORMATTER" "Ljava/util/function/BiFunction;") (by simp))) (W _ (tb_ls (.initialized "jdk/internal/util/Preconditions") (by simp))) (hp _ pr_st.2.1) hA
  have Z5 := vx_Zqof (A := A) (W _ (tb_ls (.laysStatic Bundle.tN "UNASSIGNED_STACK" Bundle.steD) (by simp))) (W _ (tb_ls (.initialized Bundle.tN) (by simp))) (hp _ pr_st.2.2.1) hA
  have Z6 := vx_Zqof (A := A) (W _ (tb_ls (.laysStatic Bundle.tN "SUPPRESSED_SENTINEL" Bundle.listD) (by simp))) (W _ (tb_ls (.initialized Bundle.tN) (by simp))) (hp _ pr_st.2.2.2) hA
  obtain ⟨scr, x1, x2, x3, x4, x5⟩ := hX
  have TS : va_T .int b L (fun j => .int (xs j)) A s s.heap := ⟨scr, x1, x2, x3, Nat.le_of_eq x4.symm, by rw [x4], x5, hA b hb⟩
  subst hAdef
  refine ⟨((dC, dI), cT, sa, sv, fun j => if j = 0 then t1 else if j = 1 then t2 else if j = 2 then b else if j = 3 then L else (xs (j - 4)).toBitVec.toNat, s.heap.size), rfl, rfl, rfl, ⟨fun i hi => (hsv i hi).2, fun k q hk => ?_, Z1, T1, Z2, T2, Z3, Z4, fun q hq => va_Nw.of rfl (W _ (tb_nf q hq)), fun q hq => va_Nw.of rfl (W _ (tb_nm q hq)), ⟨va_AOA.of (W _ (tb_ls (.arrayOver (.array .int)) (by simp))), va_AO.of (W _ (tb_ls (.arrayOver (.object "SmellCustoms$Person")) (by simp))), va_Nw.of rfl (W _ (tb_ls (.castable xNE xNE) (by simp))), fun c hc => ?_, Z5, Z6⟩, ?_⟩, ⟨fun c q hq => hdI c q hq, fun k q hq => ?_⟩⟩
  · have hk41 : k < 41 := (List.getElem?_eq_some_iff.mp hk).1
    have hq : xSRL.getD k ("", 0, "") = q := by rw [List.getD_eq_getElem?_getD, hk]; rfl
    have h1 := (hsv k hk41).1
    unfold tmS at h1
    rw [hq] at h1
    have hr := W _ (tb_sr q (List.mem_of_getElem? hk))
    exact vk_R.of (A := #[]) hr h1
  · simp only [List.mem_cons, List.not_mem_nil, or_false] at hc
    rcases hc with rfl | rfl | rfl
    · exact va_Nw.of rfl (W _ (tb_ls (.declares ⟨"java/lang/RuntimeException", "<init>", "()V"⟩) (by simp)))
    · exact va_Nw.of rfl (W _ (tb_ls (.declares ⟨"java/lang/Exception", "<init>", "()V"⟩) (by simp)))
    · exact va_Nw.of rfl (W _ (tb_ls (.declares ⟨"java/lang/Throwable", "<init>", "()V"⟩) (by simp)))
  · have e : (fun j => Value.int (nI ((fun j => if j = 0 then t1 else if j = 1 then t2 else if j = 2 then b else if j = 3 then L else (xs (j - 4)).toBitVec.toNat) (4 + j)))) = fun j => Value.int (xs j) := funext fun j => by
      show Value.int (nI (if 4 + j = 0 then t1 else if 4 + j = 1 then t2 else if 4 + j = 2 then b else if 4 + j = 3 then L else (xs (4 + j - 4)).toBitVec.toNat)) = _
      rw [if_neg (by omega), if_neg (by omega), if_neg (by omega), if_neg (by omega), Nat.add_sub_cancel_left, nI_bv]
    rw [e]
    exact TS
  · have hk5 : k < 5 := (List.getElem?_eq_some_iff.mp hq).1
    rcases (show k = 0 ∨ k = 1 ∨ k = 2 ∨ k = 3 ∨ k = 4 by omega) with rfl | rfl | rfl | rfl | rfl <;> cases hq
    · exact hcT 0 (by decide)
    · exact hcT 1 (by decide)
    · exact hcT 2 (by decide)
    · exact hcT 3 (by decide)
    · exact hcT 4 (by decide)
end M58
