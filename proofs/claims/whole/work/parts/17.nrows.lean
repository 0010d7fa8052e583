theorem li_m1 : Int32.ofInt (-1) = -1 := by decide
theorem li_0 : Int32.ofInt (0) = nI 0 := by decide
theorem li_1 : Int32.ofInt (1) = nI 1 := by decide
theorem li_2 : Int32.ofInt (2) = nI 2 := by decide
theorem li_3 : Int32.ofInt (3) = nI 3 := by decide
theorem li_4 : Int32.ofInt (4) = nI 4 := by decide
theorem li_5 : Int32.ofInt (5) = nI 5 := by decide
theorem lb_m2 : (Int8.ofInt (-2)).toInt32 = -2 := by decide
theorem lb_6 : (Int8.ofInt (6)).toInt32 = nI 6 := by decide
theorem lb_7 : (Int8.ofInt (7)).toInt32 = nI 7 := by decide
theorem lb_8 : (Int8.ofInt (8)).toInt32 = nI 8 := by decide
theorem lb_9 : (Int8.ofInt (9)).toInt32 = nI 9 := by decide
theorem lb_10 : (Int8.ofInt (10)).toInt32 = nI 10 := by decide
theorem lb_11 : (Int8.ofInt (11)).toInt32 = nI 11 := by decide
theorem lb_12 : (Int8.ofInt (12)).toInt32 = nI 12 := by decide
theorem lb_13 : (Int8.ofInt (13)).toInt32 = nI 13 := by decide
theorem lb_16 : (Int8.ofInt (16)).toInt32 = nI 16 := by decide
theorem lb_18 : (Int8.ofInt (18)).toInt32 = nI 18 := by decide
theorem lb_20 : (Int8.ofInt (20)).toInt32 = nI 20 := by decide
theorem lb_24 : (Int8.ofInt (24)).toInt32 = nI 24 := by decide
theorem lb_28 : (Int8.ofInt (28)).toInt32 = nI 28 := by decide
theorem lb_32 : (Int8.ofInt (32)).toInt32 = nI 32 := by decide
theorem lb_36 : (Int8.ofInt (36)).toInt32 = nI 36 := by decide
theorem lb_40 : (Int8.ofInt (40)).toInt32 = nI 40 := by decide
theorem lb_44 : (Int8.ofInt (44)).toInt32 = nI 44 := by decide
theorem lb_48 : (Int8.ofInt (48)).toInt32 = nI 48 := by decide
theorem lb_57 : (Int8.ofInt (57)).toInt32 = nI 57 := by decide
theorem lb_59 : (Int8.ofInt (59)).toInt32 = nI 59 := by decide
theorem lb_60 : (Int8.ofInt (60)).toInt32 = nI 60 := by decide
theorem lb_63 : (Int8.ofInt (63)).toInt32 = nI 63 := by decide
theorem lb_65 : (Int8.ofInt (65)).toInt32 = nI 65 := by decide
theorem lb_74 : (Int8.ofInt (74)).toInt32 = nI 74 := by decide
theorem lb_75 : (Int8.ofInt (75)).toInt32 = nI 75 := by decide
theorem lb_97 : (Int8.ofInt (97)).toInt32 = nI 97 := by decide
theorem lb_99 : (Int8.ofInt (99)).toInt32 = nI 99 := by decide
theorem lb_108 : (Int8.ofInt (108)).toInt32 = nI 108 := by decide
theorem lb_122 : (Int8.ofInt (122)).toInt32 = nI 122 := by decide
theorem lS_200 : (Int16.ofInt (200)).toInt32 = nI 200 := by decide
theorem lS_255 : (Int16.ofInt (255)).toInt32 = nI 255 := by decide
theorem lS_390 : (Int16.ofInt (390)).toInt32 = nI 390 := by decide
theorem lS_540 : (Int16.ofInt (540)).toInt32 = nI 540 := by decide
theorem lS_576 : (Int16.ofInt (576)).toInt32 = nI 576 := by decide
theorem lS_1100 : (Int16.ofInt (1100)).toInt32 = nI 1100 := by decide

section XN
variable {G : xG} {y : xY} {d : Nat} {B : Nat × Nat} {pc : Nat} {ls : List (Nat × Option Value)} {st : List Value} {M : xM} {Q : xTg} {a b : Nat}
theorem x_iaddN (hd : decode y.2.1 pc = .ok (.iadd, 1)) (k : X G y d B (pc + 1) ls (.int (nI (a + b)) :: st) M Q) : X G y d B pc ls (.int (nI b) :: .int (nI a) :: st) M Q := x_iadd hd (by rw [nI_add]; exact k)
theorem x_imulN (hd : decode y.2.1 pc = .ok (.imul, 1)) (k : X G y d B (pc + 1) ls (.int (nI (a * b)) :: st) M Q) : X G y d B pc ls (.int (nI b) :: .int (nI a) :: st) M Q := x_imul hd (by rw [pk_mul]; exact k)
theorem x_isubN (hd : decode y.2.1 pc = .ok (.isub, 1)) (h : b ≤ a) (k : X G y d B (pc + 1) ls (.int (nI (a - b)) :: st) M Q) : X G y d B pc ls (.int (nI b) :: .int (nI a) :: st) M Q := x_isub hd (by rw [pk_sub h]; exact k)
theorem nI_nz {n : Nat} (h0 : 0 < n) (h : n < 2 ^ 31) : ¬ nI n = 0 := nI_ne0 h0 h
theorem x_idivN (hd : decode y.2.1 pc = .ok (.idiv, 1)) (ha : a < 2 ^ 31) (h0 : 0 < b) (hb : b < 2 ^ 31) (k : X G y d B (pc + 1) ls (.int (nI (a / b)) :: st) M Q) : X G y d B pc ls (.int (nI b) :: .int (nI a) :: st) M Q := x_idiv hd (nI_ne0 h0 hb) (by rw [pk_div ha h0 hb]; exact k)
theorem x_iremN (hd : decode y.2.1 pc = .ok (.irem, 1)) (ha : a < 2 ^ 31) (h0 : 0 < b) (hb : b < 2 ^ 31) (k : X G y d B (pc + 1) ls (.int (nI (a % b)) :: st) M Q) : X G y d B pc ls (.int (nI b) :: .int (nI a) :: st) M Q := x_irem hd (nI_ne0 h0 hb) (by rw [pk_rem ha h0 hb]; exact k)
theorem x_iincN {i : Nat} {n : Int} (m : Nat) (hd : decode y.2.1 pc = .ok (.iinc i n, 3)) (hm : Int32.ofInt n = nI m) (ha : xlk ls i = some (.int (nI a))) (hi : i < y.2.2.1) (hx : x2 ls i = false) (k : X G y d B (pc + 3) ((i, some (.int (nI (a + m)))) :: ls) st M Q) : X G y d B pc ls st M Q := x_iinc hd ha (by rw [hm, nI_add]) hi hx k
/-- another name for what stands on top -/
theorem x_top {u v : Int32} (h : u = v) (k : X G y d B pc ls (.int v :: st) M Q) : X G y d B pc ls (.int u :: st) M Q := by subst h; exact k
theorem x_topL {u v : Int64} (h : u = v) (k : X G y d B pc ls (.long v :: st) M Q) : X G y d B pc ls (.long u :: st) M Q := by subst h; exact k
theorem x_snd {u v : Int32} {t : Value} (h : u = v) (k : X G y d B pc ls (t :: .int v :: st) M Q) : X G y d B pc ls (t :: .int u :: st) M Q := by subst h; exact k
/-- memory under another name -/
theorem x_mem {ad : Nat → Nat → Nat} {nb : Nat} {b r : Option Nat} {I I' : Nat → Nat → Nat → Int32} {L : Nat → Nat → Nat → Int64} (h : I = I') (k : X G y d B pc ls st (MM ad nb b r I' L) Q) : X G y d B pc ls st (MM ad nb b r I L) Q := by subst h; exact k

theorem x_icN_eq {off : Int} (tgt : Nat) (hd : decode y.2.1 pc = .ok (.if_icmp .eq off, 3)) (ht : (pc : Int) + off = (tgt : Int)) (ha : a < 2 ^ 31) (hb : b < 2 ^ 31) (kt : a = b → X G y d B tgt ls st M Q) (kf : a ≠ b → X G y d B (pc + 3) ls st M Q) : X G y d B pc ls (.int (nI b) :: .int (nI a) :: st) M Q := x_ic_eq tgt hd ht (fun h => kt ((nI_eq ha hb).mp h)) (fun h => kf (fun e => h ((nI_eq ha hb).mpr e)))
theorem x_icN_ne {off : Int} (tgt : Nat) (hd : decode y.2.1 pc = .ok (.if_icmp .ne off, 3)) (ht : (pc : Int) + off = (tgt : Int)) (ha : a < 2 ^ 31) (hb : b < 2 ^ 31) (kt : a ≠ b → X G y d B tgt ls st M Q) (kf : a = b → X G y d B (pc + 3) ls st M Q) : X G y d B pc ls (.int (nI b) :: .int (nI a) :: st) M Q := x_ic_ne tgt hd ht (fun h => kt (fun e => h ((nI_eq ha hb).mpr e))) (fun h => kf ((nI_eq ha hb).mp h))
theorem x_icN_lt {off : Int} (tgt : Nat) (hd : decode y.2.1 pc = .ok (.if_icmp .lt off, 3)) (ht : (pc : Int) + off = (tgt : Int)) (ha : a < 2 ^ 31) (hb : b < 2 ^ 31) (kt : a < b → X G y d B tgt ls st M Q) (kf : b ≤ a → X G y d B (pc + 3) ls st M Q) : X G y d B pc ls (.int (nI b) :: .int (nI a) :: st) M Q := x_ic_lt tgt hd ht (fun h => kt ((nI_ltI ha hb).mp h)) (fun h => kf (Nat.not_lt.mp (fun e => h ((nI_ltI ha hb).mpr e))))
theorem x_icN_ge {off : Int} (tgt : Nat) (hd : decode y.2.1 pc = .ok (.if_icmp .ge off, 3)) (ht : (pc : Int) + off = (tgt : Int)) (ha : a < 2 ^ 31) (hb : b < 2 ^ 31) (kt : b ≤ a → X G y d B tgt ls st M Q) (kf : a < b → X G y d B (pc + 3) ls st M Q) : X G y d B pc ls (.int (nI b) :: .int (nI a) :: st) M Q := x_ic_ge tgt hd ht (fun h => kt ((nI_leI hb ha).mp h)) (fun h => kf (Nat.not_le.mp (fun e => h ((nI_leI hb ha).mpr e))))
theorem x_icN_gt {off : Int} (tgt : Nat) (hd : decode y.2.1 pc = .ok (.if_icmp .gt off, 3)) (ht : (pc : Int) + off = (tgt : Int)) (ha : a < 2 ^ 31) (hb : b < 2 ^ 31) (kt : b < a → X G y d B tgt ls st M Q) (kf : a ≤ b → X G y d B (pc + 3) ls st M Q) : X G y d B pc ls (.int (nI b) :: .int (nI a) :: st) M Q := x_ic_gt tgt hd ht (fun h => kt ((nI_ltI hb ha).mp h)) (fun h => kf (Nat.not_lt.mp (fun e => h ((nI_ltI hb ha).mpr e))))
theorem x_icN_le {off : Int} (tgt : Nat) (hd : decode y.2.1 pc = .ok (.if_icmp .le off, 3)) (ht : (pc : Int) + off = (tgt : Int)) (ha : a < 2 ^ 31) (hb : b < 2 ^ 31) (kt : a ≤ b → X G y d B tgt ls st M Q) (kf : b < a → X G y d B (pc + 3) ls st M Q) : X G y d B pc ls (.int (nI b) :: .int (nI a) :: st) M Q := x_ic_le tgt hd ht (fun h => kt ((nI_leI ha hb).mp h)) (fun h => kf (Nat.not_le.mp (fun e => h ((nI_leI ha hb).mpr e))))
theorem x_ifN_eq {off : Int} (tgt : Nat) (hd : decode y.2.1 pc = .ok (.ifCond .eq off, 3)) (ht : (pc : Int) + off = (tgt : Int)) (ha : a < 2 ^ 31) (kt : a = 0 → X G y d B tgt ls st M Q) (kf : 0 < a → X G y d B (pc + 3) ls st M Q) : X G y d B pc ls (.int (nI a) :: st) M Q := x_if_eq tgt hd ht (fun h => kt ((nI_eq ha (by omega)).mp (show nI a = nI 0 from h))) (fun h => kf (Nat.pos_of_ne_zero (fun e => h (by rw [e]; rfl))))
theorem x_ifN_ne {off : Int} (tgt : Nat) (hd : decode y.2.1 pc = .ok (.ifCond .ne off, 3)) (ht : (pc : Int) + off = (tgt : Int)) (ha : a < 2 ^ 31) (kt : 0 < a → X G y d B tgt ls st M Q) (kf : a = 0 → X G y d B (pc + 3) ls st M Q) : X G y d B pc ls (.int (nI a) :: st) M Q := x_if_ne tgt hd ht (fun h => kt (Nat.pos_of_ne_zero (fun e => h (by rw [e]; rfl)))) (fun h => kf ((nI_eq ha (by omega)).mp (show nI a = nI 0 from h)))
theorem x_ifN_gt {off : Int} (tgt : Nat) (hd : decode y.2.1 pc = .ok (.ifCond .gt off, 3)) (ht : (pc : Int) + off = (tgt : Int)) (ha : a < 2 ^ 31) (kt : 0 < a → X G y d B tgt ls st M Q) (kf : a = 0 → X G y d B (pc + 3) ls st M Q) : X G y d B pc ls (.int (nI a) :: st) M Q := x_if_gt tgt hd ht (fun h => kt ((nI_ltI (a := 0) (by omega) ha).mp h)) (fun h => kf (Nat.eq_zero_of_not_pos (fun e => h ((nI_ltI (a := 0) (by omega) ha).mpr e))))
theorem x_ifN_le {off : Int} (tgt : Nat) (hd : decode y.2.1 pc = .ok (.ifCond .le off, 3)) (ht : (pc : Int) + off = (tgt : Int)) (ha : a < 2 ^ 31) (kt : a = 0 → X G y d B tgt ls st M Q) (kf : 0 < a → X G y d B (pc + 3) ls st M Q) : X G y d B pc ls (.int (nI a) :: st) M Q := x_if_le tgt hd ht (fun h => kt (Nat.le_zero.mp ((nI_leI (b := 0) ha (by omega)).mp h))) (fun h => kf (Nat.pos_of_ne_zero (fun e => h (by rw [e]; decide))))
theorem x_ifN_lt {off : Int} (tgt : Nat) (hd : decode y.2.1 pc = .ok (.ifCond .lt off, 3)) (ht : (pc : Int) + off = (tgt : Int)) (ha : a < 2 ^ 31) (kf : True → X G y d B (pc + 3) ls st M Q) : X G y d B pc ls (.int (nI a) :: st) M Q := x_if_lt tgt hd ht (fun h => absurd h (nI_pos ha)) (fun _ => kf trivial)
theorem x_ifN_ge {off : Int} (tgt : Nat) (hd : decode y.2.1 pc = .ok (.ifCond .ge off, 3)) (ht : (pc : Int) + off = (tgt : Int)) (ha : a < 2 ^ 31) (kt : True → X G y d B tgt ls st M Q) : X G y d B pc ls (.int (nI a) :: st) M Q := x_if_ge tgt hd ht (fun _ => kt trivial) (fun h => absurd (nI_pos' ha) h)
end XN
