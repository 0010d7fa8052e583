section XR
variable {G : xG} {y : xY} {d : Nat} {B : Nat × Nat} {pc : Nat} {ls : List (Nat × Option Value)} {st : List Value} {M : xM} {Q : xTg}
theorem x_iadd {a b : Int32} (hd : decode y.2.1 pc = .ok (.iadd, 1)) (k : X G y d B (pc + 1) ls (.int (a + b) :: st) M Q) : X G y d B pc ls (.int b :: .int a :: st) M Q := by
  intro p l e RM s m args below meth c H locs cells slots lsA hC hR hH hS hc hs hl
  exact lv_iadd hC.1 hC.2.1 hd (k p l e RM s m args below meth c H locs cells slots lsA hC hR hH hS hc hs hl)
theorem x_isub {a b : Int32} (hd : decode y.2.1 pc = .ok (.isub, 1)) (k : X G y d B (pc + 1) ls (.int (a - b) :: st) M Q) : X G y d B pc ls (.int b :: .int a :: st) M Q := by
  intro p l e RM s m args below meth c H locs cells slots lsA hC hR hH hS hc hs hl
  exact lv_isub hC.1 hC.2.1 hd (k p l e RM s m args below meth c H locs cells slots lsA hC hR hH hS hc hs hl)
theorem x_imul {a b : Int32} (hd : decode y.2.1 pc = .ok (.imul, 1)) (k : X G y d B (pc + 1) ls (.int (a * b) :: st) M Q) : X G y d B pc ls (.int b :: .int a :: st) M Q := by
  intro p l e RM s m args below meth c H locs cells slots lsA hC hR hH hS hc hs hl
  exact lv_imul hC.1 hC.2.1 hd (k p l e RM s m args below meth c H locs cells slots lsA hC hR hH hS hc hs hl)
theorem x_iand {a b : Int32} (hd : decode y.2.1 pc = .ok (.iand, 1)) (k : X G y d B (pc + 1) ls (.int (a &&& b) :: st) M Q) : X G y d B pc ls (.int b :: .int a :: st) M Q := by
  intro p l e RM s m args below meth c H locs cells slots lsA hC hR hH hS hc hs hl
  exact lv_iand hC.1 hC.2.1 hd (k p l e RM s m args below meth c H locs cells slots lsA hC hR hH hS hc hs hl)
theorem x_ior {a b : Int32} (hd : decode y.2.1 pc = .ok (.ior, 1)) (k : X G y d B (pc + 1) ls (.int (a ||| b) :: st) M Q) : X G y d B pc ls (.int b :: .int a :: st) M Q := by
  intro p l e RM s m args below meth c H locs cells slots lsA hC hR hH hS hc hs hl
  exact lv_ior hC.1 hC.2.1 hd (k p l e RM s m args below meth c H locs cells slots lsA hC hR hH hS hc hs hl)
theorem x_ixor {a b : Int32} (hd : decode y.2.1 pc = .ok (.ixor, 1)) (k : X G y d B (pc + 1) ls (.int (a ^^^ b) :: st) M Q) : X G y d B pc ls (.int b :: .int a :: st) M Q := by
  intro p l e RM s m args below meth c H locs cells slots lsA hC hR hH hS hc hs hl
  exact lv_ixor hC.1 hC.2.1 hd (k p l e RM s m args below meth c H locs cells slots lsA hC hR hH hS hc hs hl)
theorem x_ishl {a b : Int32} (hd : decode y.2.1 pc = .ok (.ishl, 1)) (k : X G y d B (pc + 1) ls (.int (a <<< (b &&& 31)) :: st) M Q) : X G y d B pc ls (.int b :: .int a :: st) M Q := by
  intro p l e RM s m args below meth c H locs cells slots lsA hC hR hH hS hc hs hl
  exact lv_ishl hC.1 hC.2.1 hd (k p l e RM s m args below meth c H locs cells slots lsA hC hR hH hS hc hs hl)
theorem x_ishr {a b : Int32} (hd : decode y.2.1 pc = .ok (.ishr, 1)) (k : X G y d B (pc + 1) ls (.int (a >>> (b &&& 31)) :: st) M Q) : X G y d B pc ls (.int b :: .int a :: st) M Q := by
  intro p l e RM s m args below meth c H locs cells slots lsA hC hR hH hS hc hs hl
  exact lv_ishr hC.1 hC.2.1 hd (k p l e RM s m args below meth c H locs cells slots lsA hC hR hH hS hc hs hl)
theorem x_iushr {a b v : Int32} (hd : decode y.2.1 pc = .ok (.iushr, 1)) (hv : (a.toUInt32 >>> (b.toUInt32 &&& Int32.toUInt32 31)).toInt32 = v) (k : X G y d B (pc + 1) ls (.int v :: st) M Q) : X G y d B pc ls (.int b :: .int a :: st) M Q := by
  intro p l e RM s m args below meth c H locs cells slots lsA hC hR hH hS hc hs hl
  exact lv_iushr hC.1 hC.2.1 hd hv (k p l e RM s m args below meth c H locs cells slots lsA hC hR hH hS hc hs hl)
theorem x_idiv {a b : Int32} (hd : decode y.2.1 pc = .ok (.idiv, 1)) (hne : ¬ b = 0) (k : X G y d B (pc + 1) ls (.int (a / b) :: st) M Q) : X G y d B pc ls (.int b :: .int a :: st) M Q := by
  intro p l e RM s m args below meth c H locs cells slots lsA hC hR hH hS hc hs hl
  exact lv_idiv hC.1 hC.2.1 hd hne (k p l e RM s m args below meth c H locs cells slots lsA hC hR hH hS hc hs hl)
theorem x_irem {a b : Int32} (hd : decode y.2.1 pc = .ok (.irem, 1)) (hne : ¬ b = 0) (k : X G y d B (pc + 1) ls (.int (a - a / b * b) :: st) M Q) : X G y d B pc ls (.int b :: .int a :: st) M Q := by
  intro p l e RM s m args below meth c H locs cells slots lsA hC hR hH hS hc hs hl
  exact lv_irem hC.1 hC.2.1 hd hne (k p l e RM s m args below meth c H locs cells slots lsA hC hR hH hS hc hs hl)
theorem x_ladd {a b : Int64} (hd : decode y.2.1 pc = .ok (.ladd, 1)) (k : X G y d B (pc + 1) ls (.long (a + b) :: st) M Q) : X G y d B pc ls (.long b :: .long a :: st) M Q := by
  intro p l e RM s m args below meth c H locs cells slots lsA hC hR hH hS hc hs hl
  exact lv_ladd hC.1 hC.2.1 hd (k p l e RM s m args below meth c H locs cells slots lsA hC hR hH hS hc hs hl)
theorem x_lsub {a b : Int64} (hd : decode y.2.1 pc = .ok (.lsub, 1)) (k : X G y d B (pc + 1) ls (.long (a - b) :: st) M Q) : X G y d B pc ls (.long b :: .long a :: st) M Q := by
  intro p l e RM s m args below meth c H locs cells slots lsA hC hR hH hS hc hs hl
  exact lv_lsub hC.1 hC.2.1 hd (k p l e RM s m args below meth c H locs cells slots lsA hC hR hH hS hc hs hl)
theorem x_lmul {a b : Int64} (hd : decode y.2.1 pc = .ok (.lmul, 1)) (k : X G y d B (pc + 1) ls (.long (a * b) :: st) M Q) : X G y d B pc ls (.long b :: .long a :: st) M Q := by
  intro p l e RM s m args below meth c H locs cells slots lsA hC hR hH hS hc hs hl
  exact lv_lmul hC.1 hC.2.1 hd (k p l e RM s m args below meth c H locs cells slots lsA hC hR hH hS hc hs hl)
theorem x_lor {a b : Int64} (hd : decode y.2.1 pc = .ok (.lor, 1)) (k : X G y d B (pc + 1) ls (.long (a ||| b) :: st) M Q) : X G y d B pc ls (.long b :: .long a :: st) M Q := by
  intro p l e RM s m args below meth c H locs cells slots lsA hC hR hH hS hc hs hl
  exact lv_lor hC.1 hC.2.1 hd (k p l e RM s m args below meth c H locs cells slots lsA hC hR hH hS hc hs hl)
theorem x_lrem {a b : Int64} (hd : decode y.2.1 pc = .ok (.lrem, 1)) (hne : ¬ b = 0) (k : X G y d B (pc + 1) ls (.long (a - a / b * b) :: st) M Q) : X G y d B pc ls (.long b :: .long a :: st) M Q := by
  intro p l e RM s m args below meth c H locs cells slots lsA hC hR hH hS hc hs hl
  exact lv_lrem hC.1 hC.2.1 hd hne (k p l e RM s m args below meth c H locs cells slots lsA hC hR hH hS hc hs hl)
theorem x_lshl {a v : Int64} {b : Int32} (hd : decode y.2.1 pc = .ok (.lshl, 1)) (hv : a <<< (b.toInt64 &&& 63) = v) (k : X G y d B (pc + 1) ls (.long v :: st) M Q) : X G y d B pc ls (.int b :: .long a :: st) M Q := by
  intro p l e RM s m args below meth c H locs cells slots lsA hC hR hH hS hc hs hl
  exact lv_lshl hC.1 hC.2.1 hd hv (k p l e RM s m args below meth c H locs cells slots lsA hC hR hH hS hc hs hl)
theorem x_i2l {a : Int32} {v : Int64} (hd : decode y.2.1 pc = .ok (.i2l, 1)) (hv : a.toInt64 = v) (k : X G y d B (pc + 1) ls (.long v :: st) M Q) : X G y d B pc ls (.int a :: st) M Q := by
  intro p l e RM s m args below meth c H locs cells slots lsA hC hR hH hS hc hs hl
  exact lv_i2l hC.1 hC.2.1 hd hv (k p l e RM s m args below meth c H locs cells slots lsA hC hR hH hS hc hs hl)
theorem x_l2i {a : Int64} {v : Int32} (hd : decode y.2.1 pc = .ok (.l2i, 1)) (hv : a.toInt32 = v) (k : X G y d B (pc + 1) ls (.int v :: st) M Q) : X G y d B pc ls (.long a :: st) M Q := by
  intro p l e RM s m args below meth c H locs cells slots lsA hC hR hH hS hc hs hl
  exact lv_l2i hC.1 hC.2.1 hd hv (k p l e RM s m args below meth c H locs cells slots lsA hC hR hH hS hc hs hl)
theorem x_i2b {a v : Int32} (hd : decode y.2.1 pc = .ok (.i2b, 1)) (hv : a.toInt8.toInt32 = v) (k : X G y d B (pc + 1) ls (.int v :: st) M Q) : X G y d B pc ls (.int a :: st) M Q := by
  intro p l e RM s m args below meth c H locs cells slots lsA hC hR hH hS hc hs hl
  exact lv_i2b hC.1 hC.2.1 hd hv (k p l e RM s m args below meth c H locs cells slots lsA hC hR hH hS hc hs hl)
theorem x_lcmp {a b : Int64} (hd : decode y.2.1 pc = .ok (.lcmp, 1)) (k : X G y d B (pc + 1) ls (.int (lg_cmp a b) :: st) M Q) : X G y d B pc ls (.long b :: .long a :: st) M Q := by
  intro p l e RM s m args below meth c H locs cells slots lsA hC hR hH hS hc hs hl
  exact W.lcmp hC.1 hC.2.1 hd (k p l e RM s m args below meth c H locs cells slots lsA hC hR hH hS hc hs hl)
theorem x_iconst {n : Int} {v : Int32} (hd : decode y.2.1 pc = .ok (.iconst n, 1)) (hv : Int32.ofInt n = v) (k : X G y d B (pc + 1) ls (.int v :: st) M Q) : X G y d B pc ls (st) M Q := by
  intro p l e RM s m args below meth c H locs cells slots lsA hC hR hH hS hc hs hl
  exact lv_iconst hC.1 hC.2.1 hd hv (k p l e RM s m args below meth c H locs cells slots lsA hC hR hH hS hc hs hl)
theorem x_bipush {n : Int} {v : Int32} (hd : decode y.2.1 pc = .ok (.bipush n, 2)) (hv : (Int8.ofInt n).toInt32 = v) (k : X G y d B (pc + 2) ls (.int v :: st) M Q) : X G y d B pc ls (st) M Q := by
  intro p l e RM s m args below meth c H locs cells slots lsA hC hR hH hS hc hs hl
  exact lv_bipush hC.1 hC.2.1 hd hv (k p l e RM s m args below meth c H locs cells slots lsA hC hR hH hS hc hs hl)
theorem x_sipush {n : Int} {v : Int32} (hd : decode y.2.1 pc = .ok (.sipush n, 3)) (hv : (Int16.ofInt n).toInt32 = v) (k : X G y d B (pc + 3) ls (.int v :: st) M Q) : X G y d B pc ls (st) M Q := by
  intro p l e RM s m args below meth c H locs cells slots lsA hC hR hH hS hc hs hl
  exact lv_sipush hC.1 hC.2.1 hd hv (k p l e RM s m args below meth c H locs cells slots lsA hC hR hH hS hc hs hl)
theorem x_lconst {n : Fin 2} {v : Int64} (hd : decode y.2.1 pc = .ok (.lconst n, 1)) (hv : Int64.ofNat (n : Nat) = v) (k : X G y d B (pc + 1) ls (.long v :: st) M Q) : X G y d B pc ls (st) M Q := by
  intro p l e RM s m args below meth c H locs cells slots lsA hC hR hH hS hc hs hl
  exact lv_lconst hC.1 hC.2.1 hd hv (k p l e RM s m args below meth c H locs cells slots lsA hC hR hH hS hc hs hl)
theorem x_dup {v : Value} (hd : decode y.2.1 pc = .ok (.dup, 1)) (hv : v.category = 1) (k : X G y d B (pc + 1) ls (v :: v :: st) M Q) : X G y d B pc ls (v :: st) M Q := by
  intro p l e RM s m args below meth c H locs cells slots lsA hC hR hH hS hc hs hl
  exact lv_dup hC.1 hC.2.1 hd hv (k p l e RM s m args below meth c H locs cells slots lsA hC hR hH hS hc hs hl)
theorem x_pop {v : Value} (hd : decode y.2.1 pc = .ok (.pop, 1)) (hv : v.category = 1) (k : X G y d B (pc + 1) ls (st) M Q) : X G y d B pc ls (v :: st) M Q := by
  intro p l e RM s m args below meth c H locs cells slots lsA hC hR hH hS hc hs hl
  exact lv_pop hC.1 hC.2.1 hd hv (k p l e RM s m args below meth c H locs cells slots lsA hC hR hH hS hc hs hl)
theorem x_dup2 {v u : Value} (hd : decode y.2.1 pc = .ok (.dup2, 1)) (hv : v.category = 1) (hu : u.category = 1) (k : X G y d B (pc + 1) ls (v :: u :: v :: u :: st) M Q) : X G y d B pc ls (v :: u :: st) M Q := by
  intro p l e RM s m args below meth c H locs cells slots lsA hC hR hH hS hc hs hl
  exact lv_dup2_11 hC.1 hC.2.1 hd hv hu (k p l e RM s m args below meth c H locs cells slots lsA hC hR hH hS hc hs hl)
theorem x_ldc {idx : Nat} {v : Int32} (hd : decode y.2.1 pc = .ok (.ldc idx, 2)) (hw : Cond.constant y.1.cls idx v ∈ xTBL) (k : X G y d B (pc + 2) ls (.int v :: st) M Q) : X G y d B pc ls st M Q := by
  intro p l e RM s m args below meth c H locs cells slots lsA hC hR hH hS hc hs hl
  exact lv_ldc hC.1 hC.2.1 hC.2.2.2.2.1 (hC.2.2.2.2.2.1 _ hw) hd (k p l e RM s m args below meth c H locs cells slots lsA hC hR hH hS hc hs hl)
theorem x_ldc2 {idx : Nat} {v : Int64} (hd : decode y.2.1 pc = .ok (.ldc2_w idx, 3)) (hw : Cond.constantLong y.1.cls idx v ∈ xTBL) (k : X G y d B (pc + 3) ls (.long v :: st) M Q) : X G y d B pc ls st M Q := by
  intro p l e RM s m args below meth c H locs cells slots lsA hC hR hH hS hc hs hl
  exact lv_ldc2 hC.1 hC.2.1 hC.2.2.2.2.1 (hC.2.2.2.2.2.1 _ hw) hd (k p l e RM s m args below meth c H locs cells slots lsA hC hR hH hS hc hs hl)
theorem x_ldcS {idx n : Nat} {tx : String} (hd : decode y.2.1 pc = .ok (.ldc idx, 2)) (hw : xSRL[n]? = some (y.1.cls, idx, tx)) (k : X G y d B (pc + 2) ls (.ref (G.2.2.1 n) :: st) M Q) : X G y d B pc ls st M Q := by
  intro p l e RM s m args below meth c H locs cells slots lsA hC hR hH hS hc hs hl
  exact va_ldcS hC.1 hC.2.1 hC.2.2.2.2.1 (hC.2.2.2.2.2.2.2.2.2.1.2.1 n _ hw) hd (k p l e RM s m args below meth c H locs cells slots lsA hC hR hH hS hc hs hl)
theorem x_ldcSw {idx n : Nat} {tx : String} (hd : decode y.2.1 pc = .ok (.ldc_w idx, 3)) (hw : xSRL[n]? = some (y.1.cls, idx, tx)) (k : X G y d B (pc + 3) ls (.ref (G.2.2.1 n) :: st) M Q) : X G y d B pc ls st M Q := by
  intro p l e RM s m args below meth c H locs cells slots lsA hC hR hH hS hc hs hl
  intro T hT Xs
  obtain ⟨t, a1, b1⟩ := k p l e RM s m args below meth c H locs cells slots lsA hC hR hH hS hc hs hl T hT Xs
  have hZ := hC.2.2.2.2.2.2.2.2.2.1.2.1 n _ hw
  exact ⟨t, Xs.ldcStringW hC.1 hC.2.2.2.2.1 (text := tx) (a := G.2.2.1 n) hZ.1 hZ.2 (g := F0 m pc lsA st) rfl (by rw [hC.2.1]; exact hd) t a1, b1⟩
theorem x_if_eq {a : Int32} {off : Int} (tgt : Nat) (hd : decode y.2.1 pc = .ok (.ifCond .eq off, 3)) (ht : (pc : Int) + off = (tgt : Int)) (kt : a = 0 → X G y d B tgt ls st M Q) (kf : ¬ a = 0 → X G y d B (pc + 3) ls st M Q) : X G y d B pc ls (.int a :: st) M Q := by
  intro p l e RM s m args below meth c H locs cells slots lsA hC hR hH hS hc hs hl
  exact lv_if_eq hC.1 hC.2.1 hd ht (fun h => kt h p l e RM s m args below meth c H locs cells slots lsA hC hR hH hS hc hs hl) (fun h => kf h p l e RM s m args below meth c H locs cells slots lsA hC hR hH hS hc hs hl)
theorem x_if_ne {a : Int32} {off : Int} (tgt : Nat) (hd : decode y.2.1 pc = .ok (.ifCond .ne off, 3)) (ht : (pc : Int) + off = (tgt : Int)) (kt : ¬ a = 0 → X G y d B tgt ls st M Q) (kf : a = 0 → X G y d B (pc + 3) ls st M Q) : X G y d B pc ls (.int a :: st) M Q := by
  intro p l e RM s m args below meth c H locs cells slots lsA hC hR hH hS hc hs hl
  exact lv_if_ne hC.1 hC.2.1 hd ht (fun h => kt h p l e RM s m args below meth c H locs cells slots lsA hC hR hH hS hc hs hl) (fun h => kf h p l e RM s m args below meth c H locs cells slots lsA hC hR hH hS hc hs hl)
theorem x_if_lt {a : Int32} {off : Int} (tgt : Nat) (hd : decode y.2.1 pc = .ok (.ifCond .lt off, 3)) (ht : (pc : Int) + off = (tgt : Int)) (kt : a < 0 → X G y d B tgt ls st M Q) (kf : ¬ a < 0 → X G y d B (pc + 3) ls st M Q) : X G y d B pc ls (.int a :: st) M Q := by
  intro p l e RM s m args below meth c H locs cells slots lsA hC hR hH hS hc hs hl
  exact lv_if_lt hC.1 hC.2.1 hd ht (fun h => kt h p l e RM s m args below meth c H locs cells slots lsA hC hR hH hS hc hs hl) (fun h => kf h p l e RM s m args below meth c H locs cells slots lsA hC hR hH hS hc hs hl)
theorem x_if_ge {a : Int32} {off : Int} (tgt : Nat) (hd : decode y.2.1 pc = .ok (.ifCond .ge off, 3)) (ht : (pc : Int) + off = (tgt : Int)) (kt : 0 ≤ a → X G y d B tgt ls st M Q) (kf : ¬ 0 ≤ a → X G y d B (pc + 3) ls st M Q) : X G y d B pc ls (.int a :: st) M Q := by
  intro p l e RM s m args below meth c H locs cells slots lsA hC hR hH hS hc hs hl
  exact lv_if_ge hC.1 hC.2.1 hd ht (fun h => kt h p l e RM s m args below meth c H locs cells slots lsA hC hR hH hS hc hs hl) (fun h => kf h p l e RM s m args below meth c H locs cells slots lsA hC hR hH hS hc hs hl)
theorem x_if_gt {a : Int32} {off : Int} (tgt : Nat) (hd : decode y.2.1 pc = .ok (.ifCond .gt off, 3)) (ht : (pc : Int) + off = (tgt : Int)) (kt : 0 < a → X G y d B tgt ls st M Q) (kf : ¬ 0 < a → X G y d B (pc + 3) ls st M Q) : X G y d B pc ls (.int a :: st) M Q := by
  intro p l e RM s m args below meth c H locs cells slots lsA hC hR hH hS hc hs hl
  exact lv_if_gt hC.1 hC.2.1 hd ht (fun h => kt h p l e RM s m args below meth c H locs cells slots lsA hC hR hH hS hc hs hl) (fun h => kf h p l e RM s m args below meth c H locs cells slots lsA hC hR hH hS hc hs hl)
theorem x_if_le {a : Int32} {off : Int} (tgt : Nat) (hd : decode y.2.1 pc = .ok (.ifCond .le off, 3)) (ht : (pc : Int) + off = (tgt : Int)) (kt : a ≤ 0 → X G y d B tgt ls st M Q) (kf : ¬ a ≤ 0 → X G y d B (pc + 3) ls st M Q) : X G y d B pc ls (.int a :: st) M Q := by
  intro p l e RM s m args below meth c H locs cells slots lsA hC hR hH hS hc hs hl
  exact lv_if_le hC.1 hC.2.1 hd ht (fun h => kt h p l e RM s m args below meth c H locs cells slots lsA hC hR hH hS hc hs hl) (fun h => kf h p l e RM s m args below meth c H locs cells slots lsA hC hR hH hS hc hs hl)
theorem x_ic_eq {a b : Int32} {off : Int} (tgt : Nat) (hd : decode y.2.1 pc = .ok (.if_icmp .eq off, 3)) (ht : (pc : Int) + off = (tgt : Int)) (kt : a = b → X G y d B tgt ls st M Q) (kf : ¬ a = b → X G y d B (pc + 3) ls st M Q) : X G y d B pc ls (.int b :: .int a :: st) M Q := by
  intro p l e RM s m args below meth c H locs cells slots lsA hC hR hH hS hc hs hl
  exact lv_icmp_eq hC.1 hC.2.1 hd ht (fun h => kt h p l e RM s m args below meth c H locs cells slots lsA hC hR hH hS hc hs hl) (fun h => kf h p l e RM s m args below meth c H locs cells slots lsA hC hR hH hS hc hs hl)
theorem x_ic_ne {a b : Int32} {off : Int} (tgt : Nat) (hd : decode y.2.1 pc = .ok (.if_icmp .ne off, 3)) (ht : (pc : Int) + off = (tgt : Int)) (kt : ¬ a = b → X G y d B tgt ls st M Q) (kf : a = b → X G y d B (pc + 3) ls st M Q) : X G y d B pc ls (.int b :: .int a :: st) M Q := by
  intro p l e RM s m args below meth c H locs cells slots lsA hC hR hH hS hc hs hl
  exact lv_icmp_ne hC.1 hC.2.1 hd ht (fun h => kt h p l e RM s m args below meth c H locs cells slots lsA hC hR hH hS hc hs hl) (fun h => kf h p l e RM s m args below meth c H locs cells slots lsA hC hR hH hS hc hs hl)
theorem x_ic_lt {a b : Int32} {off : Int} (tgt : Nat) (hd : decode y.2.1 pc = .ok (.if_icmp .lt off, 3)) (ht : (pc : Int) + off = (tgt : Int)) (kt : a < b → X G y d B tgt ls st M Q) (kf : ¬ a < b → X G y d B (pc + 3) ls st M Q) : X G y d B pc ls (.int b :: .int a :: st) M Q := by
  intro p l e RM s m args below meth c H locs cells slots lsA hC hR hH hS hc hs hl
  exact lv_icmp_lt hC.1 hC.2.1 hd ht (fun h => kt h p l e RM s m args below meth c H locs cells slots lsA hC hR hH hS hc hs hl) (fun h => kf h p l e RM s m args below meth c H locs cells slots lsA hC hR hH hS hc hs hl)
theorem x_ic_ge {a b : Int32} {off : Int} (tgt : Nat) (hd : decode y.2.1 pc = .ok (.if_icmp .ge off, 3)) (ht : (pc : Int) + off = (tgt : Int)) (kt : b ≤ a → X G y d B tgt ls st M Q) (kf : ¬ b ≤ a → X G y d B (pc + 3) ls st M Q) : X G y d B pc ls (.int b :: .int a :: st) M Q := by
  intro p l e RM s m args below meth c H locs cells slots lsA hC hR hH hS hc hs hl
  exact lv_icmp_ge hC.1 hC.2.1 hd ht (fun h => kt h p l e RM s m args below meth c H locs cells slots lsA hC hR hH hS hc hs hl) (fun h => kf h p l e RM s m args below meth c H locs cells slots lsA hC hR hH hS hc hs hl)
theorem x_ic_gt {a b : Int32} {off : Int} (tgt : Nat) (hd : decode y.2.1 pc = .ok (.if_icmp .gt off, 3)) (ht : (pc : Int) + off = (tgt : Int)) (kt : b < a → X G y d B tgt ls st M Q) (kf : ¬ b < a → X G y d B (pc + 3) ls st M Q) : X G y d B pc ls (.int b :: .int a :: st) M Q := by
  intro p l e RM s m args below meth c H locs cells slots lsA hC hR hH hS hc hs hl
  exact lv_icmp_gt hC.1 hC.2.1 hd ht (fun h => kt h p l e RM s m args below meth c H locs cells slots lsA hC hR hH hS hc hs hl) (fun h => kf h p l e RM s m args below meth c H locs cells slots lsA hC hR hH hS hc hs hl)
theorem x_ic_le {a b : Int32} {off : Int} (tgt : Nat) (hd : decode y.2.1 pc = .ok (.if_icmp .le off, 3)) (ht : (pc : Int) + off = (tgt : Int)) (kt : a ≤ b → X G y d B tgt ls st M Q) (kf : ¬ a ≤ b → X G y d B (pc + 3) ls st M Q) : X G y d B pc ls (.int b :: .int a :: st) M Q := by
  intro p l e RM s m args below meth c H locs cells slots lsA hC hR hH hS hc hs hl
  exact lv_icmp_le hC.1 hC.2.1 hd ht (fun h => kt h p l e RM s m args below meth c H locs cells slots lsA hC hR hH hS hc hs hl) (fun h => kf h p l e RM s m args below meth c H locs cells slots lsA hC hR hH hS hc hs hl)
theorem x_goto {off : Int} (tgt : Nat) (hd : decode y.2.1 pc = .ok (.goto off, 3)) (ht : (pc : Int) + off = (tgt : Int)) (k : X G y d B tgt ls st M Q) : X G y d B pc ls st M Q := by
  intro p l e RM s m args below meth c H locs cells slots lsA hC hR hH hS hc hs hl
  exact lv_goto hC.1 hC.2.1 hd ht (k p l e RM s m args below meth c H locs cells slots lsA hC hR hH hS hc hs hl)
theorem x_ifnull {a : Nat} {off : Int} (hd : decode y.2.1 pc = .ok (.ifnull off, 3)) (k : X G y d B (pc + 3) ls st M Q) : X G y d B pc ls (.ref a :: st) M Q := by
  intro p l e RM s m args below meth c H locs cells slots lsA hC hR hH hS hc hs hl
  exact lv_ifnull hC.1 hC.2.1 hd (k p l e RM s m args below meth c H locs cells slots lsA hC hR hH hS hc hs hl)
theorem x_ifnullN {off : Int} (tgt : Nat) (hd : decode y.2.1 pc = .ok (.ifnull off, 3)) (ht : (pc : Int) + off = (tgt : Int)) (k : X G y d B tgt ls st M Q) : X G y d B pc ls (.null :: st) M Q := by
  intro p l e RM s m args below meth c H locs cells slots lsA hC hR hH hS hc hs hl
  exact lv_ifnullN hC.1 hC.2.1 hd ht (k p l e RM s m args below meth c H locs cells slots lsA hC hR hH hS hc hs hl)
theorem x_ifnonnull {a : Nat} {off : Int} (tgt : Nat) (hd : decode y.2.1 pc = .ok (.ifnonnull off, 3)) (ht : (pc : Int) + off = (tgt : Int)) (k : X G y d B tgt ls st M Q) : X G y d B pc ls (.ref a :: st) M Q := by
  intro p l e RM s m args below meth c H locs cells slots lsA hC hR hH hS hc hs hl
  exact lv_ifnonnull hC.1 hC.2.1 hd ht (k p l e RM s m args below meth c H locs cells slots lsA hC hR hH hS hc hs hl)
theorem x_ifnonnullN {off : Int} (hd : decode y.2.1 pc = .ok (.ifnonnull off, 3)) (k : X G y d B (pc + 3) ls st M Q) : X G y d B pc ls (.null :: st) M Q := by
  intro p l e RM s m args below meth c H locs cells slots lsA hC hR hH hS hc hs hl
  exact lv_ifnonnullN hC.1 hC.2.1 hd (k p l e RM s m args below meth c H locs cells slots lsA hC hR hH hS hc hs hl)
theorem x_tswOut {dflt lo hi : Int} {offs : Array Int} {len : Nat} {a : Int32} (tgt : Nat) (hd : decode y.2.1 pc = .ok (.tableswitch dflt lo hi offs, len)) (h : a.toInt < lo ∨ hi < a.toInt) (ht : (pc : Int) + dflt = (tgt : Int)) (k : X G y d B tgt ls st M Q) : X G y d B pc ls (.int a :: st) M Q := by
  intro p l e RM s m args below meth c H locs cells slots lsA hC hR hH hS hc hs hl
  exact lv_tableOut hC.1 hC.2.1 hd h ht (k p l e RM s m args below meth c H locs cells slots lsA hC hR hH hS hc hs hl)
theorem x_tswIn {dflt lo hi off : Int} {offs : Array Int} {len : Nat} {a : Int32} (tgt : Nat) (hd : decode y.2.1 pc = .ok (.tableswitch dflt lo hi offs, len)) (h1 : ¬ a.toInt < lo) (h2 : ¬ hi < a.toInt) (ho : offs[(a.toInt - lo).toNat]? = some off) (ht : (pc : Int) + off = (tgt : Int)) (k : X G y d B tgt ls st M Q) : X G y d B pc ls (.int a :: st) M Q := by
  intro p l e RM s m args below meth c H locs cells slots lsA hC hR hH hS hc hs hl
  exact lv_tableIn hC.1 hC.2.1 hd h1 h2 ho ht (k p l e RM s m args below meth c H locs cells slots lsA hC hR hH hS hc hs hl)
theorem x_iload_n {i : Fin 4} {v : Int32} (hd : decode y.2.1 pc = .ok (.iload_n i, 1)) (hv : xlk ls i.val = some (.int v)) (k : X G y d B (pc + 1) ls (.int v :: st) M Q) : X G y d B pc ls st M Q := by
  intro p l e RM s m args below meth c H locs cells slots lsA hC hR hH hS hc hs hl
  exact lv_iload_n hC.1 hC.2.1 hd rfl (hl.2.2 _ _ hv) (k p l e RM s m args below meth c H locs cells slots lsA hC hR hH hS hc hs hl)
theorem x_iload {i : Nat} {v : Int32} (hd : decode y.2.1 pc = .ok (.iload i, 2)) (hv : xlk ls i = some (.int v)) (k : X G y d B (pc + 2) ls (.int v :: st) M Q) : X G y d B pc ls st M Q := by
  intro p l e RM s m args below meth c H locs cells slots lsA hC hR hH hS hc hs hl
  exact lv_iload hC.1 hC.2.1 hd (hl.2.2 _ _ hv) (k p l e RM s m args below meth c H locs cells slots lsA hC hR hH hS hc hs hl)
theorem x_lload_n {i : Fin 4} {v : Int64} (hd : decode y.2.1 pc = .ok (.lload_n i, 1)) (hv : xlk ls i.val = some (.long v)) (k : X G y d B (pc + 1) ls (.long v :: st) M Q) : X G y d B pc ls st M Q := by
  intro p l e RM s m args below meth c H locs cells slots lsA hC hR hH hS hc hs hl
  exact lv_lload_n hC.1 hC.2.1 hd rfl (hl.2.2 _ _ hv) (k p l e RM s m args below meth c H locs cells slots lsA hC hR hH hS hc hs hl)
theorem x_lload {i : Nat} {v : Int64} (hd : decode y.2.1 pc = .ok (.lload i, 2)) (hv : xlk ls i = some (.long v)) (k : X G y d B (pc + 2) ls (.long v :: st) M Q) : X G y d B pc ls st M Q := by
  intro p l e RM s m args below meth c H locs cells slots lsA hC hR hH hS hc hs hl
  exact lv_lload hC.1 hC.2.1 hd (hl.2.2 _ _ hv) (k p l e RM s m args below meth c H locs cells slots lsA hC hR hH hS hc hs hl)
theorem x_aload_n {i : Fin 4} {v : Nat} (hd : decode y.2.1 pc = .ok (.aload_n i, 1)) (hv : xlk ls i.val = some (.ref v)) (k : X G y d B (pc + 1) ls (.ref v :: st) M Q) : X G y d B pc ls st M Q := by
  intro p l e RM s m args below meth c H locs cells slots lsA hC hR hH hS hc hs hl
  exact lv_aload_n hC.1 hC.2.1 hd rfl (hl.2.2 _ _ hv) (k p l e RM s m args below meth c H locs cells slots lsA hC hR hH hS hc hs hl)
theorem x_aload {i : Nat} {v : Nat} (hd : decode y.2.1 pc = .ok (.aload i, 2)) (hv : xlk ls i = some (.ref v)) (k : X G y d B (pc + 2) ls (.ref v :: st) M Q) : X G y d B pc ls st M Q := by
  intro p l e RM s m args below meth c H locs cells slots lsA hC hR hH hS hc hs hl
  exact lv_aload hC.1 hC.2.1 hd (hl.2.2 _ _ hv) (k p l e RM s m args below meth c H locs cells slots lsA hC hR hH hS hc hs hl)

def xfull (lsA : Array Slot) : List (Nat × Value) := (List.range lsA.size).filterMap (fun j => match lsA[j]? with | some (Slot.val v) => some (j, v) | _ => none)
theorem xfull_mem {lsA : Array Slot} {j : Nat} {v : Value} (h : lsA[j]? = some (.val v)) : (j, v) ∈ xfull lsA := by
  unfold xfull
  refine List.mem_filterMap.mpr ⟨j, List.mem_range.mpr (Array.getElem?_eq_some_iff.mp h).1, ?_⟩
  rw [h]
theorem xfull_has {lsA : Array Slot} {n : Nat} {ls : List (Nat × Option Value)} (h : xL lsA n ls) : lv_has lsA n (xfull lsA) := by
  refine ⟨h.1, h.2.1, fun q hq => ?_⟩
  unfold xfull at hq
  obtain ⟨j, -, hj⟩ := List.mem_filterMap.mp hq
  cases hx : lsA[j]? with
  | none => rw [hx] at hj; cases hj
  | some z =>
    rw [hx] at hj
    cases z with
    | val v => cases hj; exact hx
    | _ => cases hj
def x2 (ls : List (Nat × Option Value)) (i : Nat) : Bool := match i with
  | 0 => false
  | j + 1 => match xlk ls j with
    | some (.long _) => true
    | some (.double _) => true
    | _ => false
theorem x2_of {ls : List (Nat × Option Value)} {i j : Nat} {v : Value} (h : x2 ls i = false) (hj : j + 1 = i) (hv : xlk ls j = some v) : ¬ v.category = 2 := by
  subst hj
  unfold x2 at h
  simp only [hv] at h
  intro hc
  cases v <;> simp_all [Value.category]
theorem xL_st1 {lsA ls' : Array Slot} {n : Nat} {ls : List (Nat × Option Value)} {i : Nat} {v : Value} (h : xL lsA n ls) (hx : x2 ls i = false) (h' : lv_has ls' n ((i, v) :: (xfull lsA).filter (fun q => !(q.1 == i) && !(q.1 + 1 == i && q.2.category == 2)))) : xL ls' n ((i, some v) :: ls) := by
  refine ⟨h'.1, h'.2.1, fun j w hj => ?_⟩
  unfold xlk at hj
  cases hb : Nat.beq i j with
  | true =>
    rw [hb] at hj
    cases hj
    rw [← Nat.eq_of_beq_eq_true hb]
    exact h'.2.2 (i, v) List.mem_cons_self
  | false =>
    rw [hb] at hj
    have hne : ¬ j = i := fun e => by rw [e] at hb; simp at hb
    refine h'.2.2 (j, w) (List.mem_cons_of_mem _ (List.mem_filter.mpr ⟨xfull_mem (h.2.2 j w hj), ?_⟩))
    have h2 : ¬ (j + 1 = i ∧ w.category = 2) := fun z => x2_of hx z.1 hj z.2
    simp only [Bool.and_eq_true, Bool.not_eq_true', beq_eq_false_iff_ne, ne_eq, Bool.and_eq_false_iff]
    refine ⟨hne, ?_⟩
    by_cases q : j + 1 = i
    · exact Or.inr (fun z => h2 ⟨q, z⟩)
    · exact Or.inl q
theorem xL_st2 {lsA ls' : Array Slot} {n : Nat} {ls : List (Nat × Option Value)} {i : Nat} {v : Value} (h : xL lsA n ls) (hx : x2 ls i = false) (h' : lv_has ls' n ((i, v) :: (xfull lsA).filter (fun q => !(q.1 == i) && (!(q.1 == i + 1) && !(q.1 + 1 == i && q.2.category == 2))))) : xL ls' n ((i, some v) :: (i + 1, none) :: ls) := by
  refine ⟨h'.1, h'.2.1, fun j w hj => ?_⟩
  unfold xlk at hj
  cases hb : Nat.beq i j with
  | true =>
    rw [hb] at hj
    cases hj
    rw [← Nat.eq_of_beq_eq_true hb]
    exact h'.2.2 (i, v) List.mem_cons_self
  | false =>
    rw [hb] at hj
    have hne : ¬ j = i := fun e => by rw [e] at hb; simp at hb
    unfold xlk at hj
    cases hb2 : Nat.beq (i + 1) j with
    | true => rw [hb2] at hj; cases hj
    | false =>
      rw [hb2] at hj
      have hne2 : ¬ j = i + 1 := fun e => by rw [e] at hb2; simp at hb2
      refine h'.2.2 (j, w) (List.mem_cons_of_mem _ (List.mem_filter.mpr ⟨xfull_mem (h.2.2 j w hj), ?_⟩))
      have h2 : ¬ (j + 1 = i ∧ w.category = 2) := fun z => x2_of hx z.1 hj z.2
      simp only [Bool.and_eq_true, Bool.not_eq_true', beq_eq_false_iff_ne, ne_eq, Bool.and_eq_false_iff]
      refine ⟨hne, hne2, ?_⟩
      by_cases q : j + 1 = i
      · exact Or.inr (fun z => h2 ⟨q, z⟩)
      · exact Or.inl q

theorem x_istore_n {i : Fin 4} {v : Int32} (hd : decode y.2.1 pc = .ok (.istore_n i, 1)) (hi : i.val < y.2.2.1) (hx : x2 ls i.val = false) (k : X G y d B (pc + 1) ((i.val, some (.int v)) :: ls) st M Q) : X G y d B pc ls (.int v :: st) M Q := by
  intro p l e RM s m args below meth c H locs cells slots lsA hC hR hH hS hc hs hl
  exact lv_istore_n hC.1 hC.2.1 hd rfl (xfull_has hl) hi rfl (fun ls2 h2 => k p l e RM s m args below meth c H locs cells slots ls2 hC hR hH hS hc hs (xL_st1 hl hx h2))
theorem x_istore {i : Nat} {v : Int32} (hd : decode y.2.1 pc = .ok (.istore i, 2)) (hi : i < y.2.2.1) (hx : x2 ls i = false) (k : X G y d B (pc + 2) ((i, some (.int v)) :: ls) st M Q) : X G y d B pc ls (.int v :: st) M Q := by
  intro p l e RM s m args below meth c H locs cells slots lsA hC hR hH hS hc hs hl
  exact lv_istore hC.1 hC.2.1 hd (xfull_has hl) hi rfl (fun ls2 h2 => k p l e RM s m args below meth c H locs cells slots ls2 hC hR hH hS hc hs (xL_st1 hl hx h2))
theorem x_astore_n {i : Fin 4} {v : Nat} (hd : decode y.2.1 pc = .ok (.astore_n i, 1)) (hi : i.val < y.2.2.1) (hx : x2 ls i.val = false) (k : X G y d B (pc + 1) ((i.val, some (.ref v)) :: ls) st M Q) : X G y d B pc ls (.ref v :: st) M Q := by
  intro p l e RM s m args below meth c H locs cells slots lsA hC hR hH hS hc hs hl
  exact lv_astore_n hC.1 hC.2.1 hd rfl (xfull_has hl) hi rfl (fun ls2 h2 => k p l e RM s m args below meth c H locs cells slots ls2 hC hR hH hS hc hs (xL_st1 hl hx h2))
theorem x_astore {i : Nat} {v : Nat} (hd : decode y.2.1 pc = .ok (.astore i, 2)) (hi : i < y.2.2.1) (hx : x2 ls i = false) (k : X G y d B (pc + 2) ((i, some (.ref v)) :: ls) st M Q) : X G y d B pc ls (.ref v :: st) M Q := by
  intro p l e RM s m args below meth c H locs cells slots lsA hC hR hH hS hc hs hl
  exact lv_astore hC.1 hC.2.1 hd (xfull_has hl) hi rfl (fun ls2 h2 => k p l e RM s m args below meth c H locs cells slots ls2 hC hR hH hS hc hs (xL_st1 hl hx h2))
theorem x_lstore_n {i : Fin 4} {v : Int64} (hd : decode y.2.1 pc = .ok (.lstore_n i, 1)) (hi : i.val + 1 < y.2.2.1) (hx : x2 ls i.val = false) (k : X G y d B (pc + 1) ((i.val, some (.long v)) :: (i.val + 1, none) :: ls) st M Q) : X G y d B pc ls (.long v :: st) M Q := by
  intro p l e RM s m args below meth c H locs cells slots lsA hC hR hH hS hc hs hl
  exact lv_lstore_n hC.1 hC.2.1 hd rfl (xfull_has hl) hi rfl (fun ls2 h2 => k p l e RM s m args below meth c H locs cells slots ls2 hC hR hH hS hc hs (xL_st2 hl hx h2))
theorem x_iinc {i : Nat} {n : Int} {a v : Int32} (hd : decode y.2.1 pc = .ok (.iinc i n, 3)) (ha : xlk ls i = some (.int a)) (hv : a + Int32.ofInt n = v) (hi : i < y.2.2.1) (hx : x2 ls i = false) (k : X G y d B (pc + 3) ((i, some (.int v)) :: ls) st M Q) : X G y d B pc ls st M Q := by
  intro p l e RM s m args below meth c H locs cells slots lsA hC hR hH hS hc hs hl
  obtain ⟨j, hj⟩ := List.getElem?_of_mem (xfull_mem (hl.2.2 _ _ ha))
  exact lv_iinc hC.1 hC.2.1 hd (xfull_has hl) hj hv hi rfl (fun ls2 h2 => k p l e RM s m args below meth c H locs cells slots ls2 hC hR hH hS hc hs (xL_st1 hl hx h2))

def xsub : List (Nat × Option Value) → List (Nat × Option Value) → Prop
  | [], _ => True
  | q :: t, ls => xlk ls q.1 = q.2 ∧ xsub t ls
theorem xsub_lk : ∀ {l ls : List (Nat × Option Value)} {i : Nat} {v : Value}, xsub l ls → xlk l i = some v → xlk ls i = some v
  | [], ls, i, v, _, h => by simp [xlk] at h
  | (k, z) :: t, ls, i, v, hs, h => by
    unfold xlk at h
    cases hb : Nat.beq k i with
    | true =>
      rw [hb] at h
      have e := Nat.eq_of_beq_eq_true hb
      subst e
      exact hs.1.trans h
    | false =>
      rw [hb] at h
      exact xsub_lk hs.2 h
theorem x_ls {ls' : List (Nat × Option Value)} (h : xsub ls' ls) (k : X G y d B pc ls' st M Q) : X G y d B pc ls st M Q := by
  intro p l e RM s m args below meth c H locs cells slots lsA hC hR hH hS hc hs hl
  exact k p l e RM s m args below meth c H locs cells slots lsA hC hR hH hS hc hs ⟨hl.1, hl.2.1, fun i v hi => hl.2.2 i v (xsub_lk h hi)⟩
theorem x_wk {Q1 Q' : Option Value → xM → Prop} (k : X G y d B pc ls st M (xT G Q')) (h : ∀ v M', Q' v M' → Q1 v M') : X G y d B pc ls st M (xT G Q1) := by
  intro p l e RM s m args below meth c H locs cells slots lsA hC hR hH hS hc hs hl
  intro T hT Xs
  obtain ⟨t, h1, o, h2, h3, ⟨⟨v, M', e1, e2, e3⟩, h4⟩, h5⟩ := k p l e RM s m args below meth c H locs cells slots lsA hC hR hH hS hc hs hl T hT Xs
  exact ⟨t, h1, o, h2, h3, ⟨⟨v, M', e1, h v M' e2, e3⟩, h4⟩, h5⟩

theorem x_iret {v : Int32} {Q1 : Option Value → xM → Prop} (hd : decode y.2.1 pc = .ok (.ireturn, 1)) (hr : y.2.2.2 = some .int) (hq : Q1 (some (.int v)) M) : X G y d B pc ls ([.int v]) M (xT G Q1) := by
  intro p l e RM s m args below meth c H locs cells slots lsA hC hR hH hS hc hs hl
  refine W.widen (k := RM.cells) (n := RM.slots) (Nat.le_trans (Nat.le_add_right _ _) hc) (Nat.le_trans (Nat.le_add_right _ _) hs) ?_
  exact W.iret hC.1 hC.2.1 (hC.2.2.1.trans hr) (fun t ht _ => ⟨⟨_, M, rfl, hq, by rw [ht]; exact hH⟩, hS.F ht⟩) hS.2.2 hd hC.2.2.2.2.2.2.1
theorem x_zret {v : Int32} {ty : FieldType} {Q1 : Option Value → xM → Prop} (hd : decode y.2.1 pc = .ok (.ireturn, 1)) (hr : y.2.2.2 = some ty) (hn : narrow ty (.int v) = .int v) (hq : Q1 (some (.int v)) M) : X G y d B pc ls ([.int v]) M (xT G Q1) := by
  intro p l e RM s m args below meth c H locs cells slots lsA hC hR hH hS hc hs hl
  refine W.widen (k := RM.cells) (n := RM.slots) (Nat.le_trans (Nat.le_add_right _ _) hc) (Nat.le_trans (Nat.le_add_right _ _) hs) ?_
  exact W.zret hC.1 hC.2.1 (hC.2.2.1.trans hr) hn (fun t ht _ => ⟨⟨_, M, rfl, hq, by rw [ht]; exact hH⟩, hS.F ht⟩) hS.2.2 hd hC.2.2.2.2.2.2.1
theorem x_vret {Q1 : Option Value → xM → Prop} (hd : decode y.2.1 pc = .ok (.return_, 1)) (hr : y.2.2.2 = none) (hq : Q1 (none) M) : X G y d B pc ls ([]) M (xT G Q1) := by
  intro p l e RM s m args below meth c H locs cells slots lsA hC hR hH hS hc hs hl
  refine W.widen (k := RM.cells) (n := RM.slots) (Nat.le_trans (Nat.le_add_right _ _) hc) (Nat.le_trans (Nat.le_add_right _ _) hs) ?_
  exact W.vret hC.1 hC.2.1 (hC.2.2.1.trans hr) (fun t ht _ => ⟨⟨_, M, rfl, hq, by rw [ht]; exact hH⟩, hS.F ht⟩) hS.2.2 hd hC.2.2.2.2.2.2.1
theorem x_lret {v : Int64} {Q1 : Option Value → xM → Prop} (hd : decode y.2.1 pc = .ok (.lreturn, 1)) (hr : y.2.2.2 = some .long) (hq : Q1 (some (.long v)) M) : X G y d B pc ls ([.long v]) M (xT G Q1) := by
  intro p l e RM s m args below meth c H locs cells slots lsA hC hR hH hS hc hs hl
  refine W.widen (k := RM.cells) (n := RM.slots) (Nat.le_trans (Nat.le_add_right _ _) hc) (Nat.le_trans (Nat.le_add_right _ _) hs) ?_
  exact W.lret hC.1 hC.2.1 (hC.2.2.1.trans hr) (fun t ht _ => ⟨⟨_, M, rfl, hq, by rw [ht]; exact hH⟩, hS.F ht⟩) hS.2.2 hd hC.2.2.2.2.2.2.1
theorem x_aret {a : Nat} {rt : FieldType} {Q1 : Option Value → xM → Prop} (hd : decode y.2.1 pc = .ok (.areturn, 1)) (hr : y.2.2.2 = some rt) (hrt : (∃ n, rt = .object n) ∨ ∃ t, rt = .array t) (hq : Q1 (some (.ref a)) M) : X G y d B pc ls ([.ref a]) M (xT G Q1) := by
  intro p l e RM s m args below meth c H locs cells slots lsA hC hR hH hS hc hs hl
  refine W.widen (k := RM.cells) (n := RM.slots) (Nat.le_trans (Nat.le_add_right _ _) hc) (Nat.le_trans (Nat.le_add_right _ _) hs) ?_
  exact W.aret hC.1 hC.2.1 (hC.2.2.1.trans hr) hrt (Or.inr ⟨a, rfl⟩) (fun t ht _ => ⟨⟨_, M, rfl, hq, by rw [ht]; exact hH⟩, hS.F ht⟩) hS.2.2 hd hC.2.2.2.2.2.2.1
end XR
