/-- the references, once all is made; b, r: which border of the model stands, is read -/
def RRL (ad : Nat → Nat → Nat) (b r : Option Nat) : List (Nat → Nat → Option Nat) := [fun i k => match k with | 0 => some (ad 2 0) | 1 => some (ad 44 0) | 4 => some (ad 45 0) | 5 => some (ad 42 0) | 7 => some (ad 46 0) | _ => none, fun i k => match k with | 0 => some (ad 2 0) | 1 => some (ad 41 0) | _ => none, fun i k => match k with | 0 => some (ad 16 i) | 1 => some (ad 17 i) | 2 => some (ad 18 i) | 3 => some (ad 19 i) | 4 => some (ad 20 i) | 5 => some (ad 21 i) | 6 => some (ad 22 i) | 7 => some (ad 30 i) | 8 => some (ad 32 i) | 9 => some (ad 23 i) | 10 => some (ad 24 i) | 11 => some (ad 25 i) | 12 => some (ad 34 i) | 13 => some (ad 26 i) | 14 => some (ad 36 i) | 15 => some (ad 27 i) | 16 => some (ad 28 i) | 17 => some (ad 29 i) | _ => none, fun i k => match k with | 0 => some (ad 2 0) | 1 => some (ad 1 0) | 2 => some (ad 10 0) | 5 => some (ad 62 0) | _ => none, fun i k => match k with | 3 => some (ad 43 i) | _ => none, fun i k => match k with | 0 => some (ad 2 0) | 1 => some (ad 9 0) | 3 => some (ad 60 0) | 4 => some (ad 61 0) | _ => none, fun i k => match k with | 0 => some (ad 2 1) | 3 => some (ad 7 0) | 4 => some (ad 38 0) | 5 => some (ad 39 0) | 6 => some (ad 40 0) | _ => none, fun i k => match k with | 0 => some (ad 14 0) | _ => none, fun i k => match k with | 0 => some (ad 2 0) | 1 => some (ad 1 0) | 6 => some (ad 56 0) | 7 => some (ad 57 0) | 8 => some (ad 58 0) | _ => none, fun i k => match k with | 0 => some (ad 2 0) | 1 => some (ad 1 0) | 2 => some (ad 0 0) | 3 => some (ad 47 0) | _ => none, fun i k => match k with | 0 => some (ad 2 0) | 1 => some (ad 1 0) | 3 => some (ad 48 0) | 4 => some (ad 49 0) | 5 => some (ad 51 0) | 6 => some (ad 53 0) | 7 => some (ad 54 0) | 8 => some (ad 55 0) | _ => none, fun i k => match k with | 0 => some (ad 14 0) | 2 => some (ad 2 0) | 3 => some (ad 6 0) | 4 => some (ad 1 0) | 5 => some (ad 0 0) | 6 => some (ad 9 0) | 7 => some (ad 10 0) | 8 => some (ad 8 0) | 9 => some (ad 5 0) | 10 => some (ad 3 0) | 11 => some (ad 15 0) | _ => none, fun i k => match k with | 13 => some (ad 64 i) | 14 => some (ad 65 i) | 15 => some (ad 66 i) | 16 => some (ad 67 i) | 17 => some (ad 68 i) | 18 => some (ad 69 i) | 19 => some (ad 70 i) | 20 => some (ad 71 i) | 21 => some (ad 72 i) | 22 => some (ad 73 i) | 23 => some (ad 74 i) | 24 => some (ad 75 i) | 25 => some (ad 76 i) | 26 => some (ad 77 i) | 27 => some (ad 78 i) | 28 => some (ad 79 i) | 29 => some (ad 80 i) | 30 => some (ad 81 i) | 31 => some (ad 82 i) | 32 => some (ad 83 i) | _ => none, fun i k => match k with | 3 => if i = 0 then (b).map (ad 12) else none | 4 => if i = 0 then (r).map (ad 12) else none | 5 => some (ad 84 0) | 16 => some (ad 85 0) | 17 => some (ad 86 0) | 18 => some (ad 87 0) | 21 => some (ad 88 0) | 22 => some (ad 89 0) | 23 => some (ad 90 0) | 24 => some (ad 91 0) | 25 => some (ad 92 0) | 26 => some (ad 93 0) | 27 => some (ad 94 0) | 28 => some (ad 95 0) | 29 => some (ad 96 0) | 30 => some (ad 97 0) | 32 => some (ad 98 0) | 33 => some (ad 99 0) | 38 => some (ad 100 0) | 39 => some (ad 101 0) | 40 => some (ad 102 0) | _ => none, fun _ _ => none, fun _ _ => none, fun _ _ => none, fun _ _ => none, fun _ _ => none, fun _ _ => none, fun _ _ => none, fun _ _ => none, fun _ _ => none, fun _ _ => none, fun _ _ => none, fun _ _ => none, fun _ _ => none, fun _ _ => none, fun _ _ => none, fun _ _ => none, fun i k => if k < 6 then some (ad 31 (k + 6 * i)) else none, fun _ _ => none, fun i k => if k < 6 then some (ad 33 (k + 6 * i)) else none, fun _ _ => none, fun i k => if k < 4 then some (ad 35 (k + 4 * i)) else none, fun _ _ => none, fun i k => if k < 4 then some (ad 37 (k + 4 * i)) else none, fun _ _ => none, fun _ _ => none, fun _ _ => none, fun _ _ => none, fun _ _ => none, fun _ _ => none, fun _ _ => none, fun i k => if k < 4 then some (ad 4 k) else none, fun i k => if k < 16 then some (ad 4 (k + 4)) else none, fun i k => if k < 12 then some (ad 4 (k + 20)) else none, fun _ _ => none, fun _ _ => none, fun i k => if k < 65 then some (ad 50 k) else none, fun _ _ => none, fun i k => if k < 65 then some (ad 52 k) else none, fun _ _ => none, fun _ _ => none, fun _ _ => none, fun _ _ => none, fun _ _ => none, fun _ _ => none, fun i k => if k < 4 then some (ad 59 k) else none, fun _ _ => none, fun _ _ => none, fun _ _ => none, fun i k => if k < 65 then some (ad 63 k) else none, fun _ _ => none, fun _ _ => none, fun _ _ => none, fun _ _ => none, fun _ _ => none, fun _ _ => none, fun _ _ => none, fun _ _ => none, fun _ _ => none, fun _ _ => none, fun _ _ => none, fun _ _ => none, fun _ _ => none, fun _ _ => none, fun _ _ => none, fun _ _ => none, fun _ _ => none, fun _ _ => none, fun _ _ => none, fun _ _ => none, fun _ _ => none, fun _ _ => none, fun _ _ => none, fun _ _ => none, fun _ _ => none, fun _ _ => none, fun _ _ => none, fun _ _ => none, fun _ _ => none, fun _ _ => none, fun _ _ => none, fun _ _ => none, fun _ _ => none, fun _ _ => none, fun _ _ => none, fun _ _ => none, fun _ _ => none, fun _ _ => none, fun _ _ => none, fun _ _ => none, fun _ _ => none]
def RR (ad : Nat → Nat → Nat) (b r : Option Nat) (s i k : Nat) : Option Nat := (RRL ad b r).getD s (fun _ _ => none) i k
def CCL (nb : Nat) : List Nat := [1, 1, 2, 1, 32, 1, 1, 1, 1, 1, 1, 1, nb, 1, 1, 1, 2, 2, 2, 2, 2, 2, 2, 2, 2, 2, 2, 2, 2, 2, 2, 12, 2, 12, 2, 8, 2, 8, 1, 1, 1, 1, 1, 32, 1, 1, 1, 1, 1, 1, 65, 1, 65, 1, 1, 1, 1, 1, 1, 4, 1, 1, 1, 65, nb, nb, nb, nb, nb, nb, nb, nb, nb, nb, nb, nb, nb, nb, nb, nb, nb, nb, nb, nb, 1, 1, 1, 1, 1, 1, 1, 1, 1, 1, 1, 1, 1, 1, 1, 1, 1, 1, 1, 1]
def CC (nb : Nat) (s : Nat) : Nat := (CCL nb).getD s 0
/-- memory as it stands -/
abbrev MM (ad : Nat → Nat → Nat) (nb : Nat) (b r : Option Nat) (I : Nat → Nat → Nat → Int32) (L : Nat → Nat → Nat → Int64) : xM := (ad, CC nb, I, L, RR ad b r)
section XF
variable {G : xG} {y : xY} {d : Nat} {B : Nat × Nat} {pc idx i nb : Nat} {ls : List (Nat × Option Value)} {st : List Value} {Q : xTg} {ad : Nat → Nat → Nat} {I : Nat → Nat → Nat → Int32} {L : Nat → Nat → Nat → Int64} {b r : Option Nat}
theorem g_Acts_border (hf : xFL y.1.cls idx 0 0) (hd : decode y.2.1 pc = .ok (.getfield idx, 3)) (kk : X G y d B (pc + 3) ls (.ref (ad 2 0) :: st) (MM ad nb b r I L) Q) : X G y d B pc ls (.ref (ad 0 0) :: st) (MM ad nb b r I L) Q := x_get hf hd rfl rfl (Nat.le_of_ble_eq_true rfl) kk
theorem g_Acts_now (hf : xFL y.1.cls idx 0 1) (hd : decode y.2.1 pc = .ok (.getfield idx, 3)) (kk : X G y d B (pc + 3) ls (.ref (ad 44 0) :: st) (MM ad nb b r I L) Q) : X G y d B pc ls (.ref (ad 0 0) :: st) (MM ad nb b r I L) Q := x_get hf hd rfl rfl (Nat.le_of_ble_eq_true rfl) kk
theorem g_Acts_kept (hf : xFL y.1.cls idx 0 2) (hd : decode y.2.1 pc = .ok (.getfield idx, 3)) (kk : X G y d B (pc + 3) ls (.int (I 0 0 2) :: st) (MM ad nb b r I L) Q) : X G y d B pc ls (.ref (ad 0 0) :: st) (MM ad nb b r I L) Q := x_get hf hd rfl rfl (Nat.le_of_ble_eq_true rfl) kk
theorem p_Acts_kept {v : Int32} (hf : xFL y.1.cls idx 0 2) (hd : decode y.2.1 pc = .ok (.putfield idx, 3)) (kk : X G y d B (pc + 3) ls st (MM ad nb b r (xu I 0 0 2 v) L) Q) : X G y d B pc ls (.int v :: .ref (ad 0 0) :: st) (MM ad nb b r I L) Q := x_putI hf hd rfl rfl rfl (Nat.le_of_ble_eq_true rfl) kk
theorem g_Acts_marks (hf : xFL y.1.cls idx 0 3) (hd : decode y.2.1 pc = .ok (.getfield idx, 3)) (kk : X G y d B (pc + 3) ls (.int (I 0 0 3) :: st) (MM ad nb b r I L) Q) : X G y d B pc ls (.ref (ad 0 0) :: st) (MM ad nb b r I L) Q := x_get hf hd rfl rfl (Nat.le_of_ble_eq_true rfl) kk
theorem p_Acts_marks {v : Int32} (hf : xFL y.1.cls idx 0 3) (hd : decode y.2.1 pc = .ok (.putfield idx, 3)) (kk : X G y d B (pc + 3) ls st (MM ad nb b r (xu I 0 0 3 v) L) Q) : X G y d B pc ls (.int v :: .ref (ad 0 0) :: st) (MM ad nb b r I L) Q := x_putI hf hd rfl rfl rfl (Nat.le_of_ble_eq_true rfl) kk
theorem g_Acts_before (hf : xFL y.1.cls idx 0 4) (hd : decode y.2.1 pc = .ok (.getfield idx, 3)) (kk : X G y d B (pc + 3) ls (.ref (ad 45 0) :: st) (MM ad nb b r I L) Q) : X G y d B pc ls (.ref (ad 0 0) :: st) (MM ad nb b r I L) Q := x_get hf hd rfl rfl (Nat.le_of_ble_eq_true rfl) kk
theorem g_Acts_whose (hf : xFL y.1.cls idx 0 5) (hd : decode y.2.1 pc = .ok (.getfield idx, 3)) (kk : X G y d B (pc + 3) ls (.ref (ad 42 0) :: st) (MM ad nb b r I L) Q) : X G y d B pc ls (.ref (ad 0 0) :: st) (MM ad nb b r I L) Q := x_get hf hd rfl rfl (Nat.le_of_ble_eq_true rfl) kk
theorem g_Acts_next (hf : xFL y.1.cls idx 0 6) (hd : decode y.2.1 pc = .ok (.getfield idx, 3)) (kk : X G y d B (pc + 3) ls (.int (I 0 0 6) :: st) (MM ad nb b r I L) Q) : X G y d B pc ls (.ref (ad 0 0) :: st) (MM ad nb b r I L) Q := x_get hf hd rfl rfl (Nat.le_of_ble_eq_true rfl) kk
theorem p_Acts_next {v : Int32} (hf : xFL y.1.cls idx 0 6) (hd : decode y.2.1 pc = .ok (.putfield idx, 3)) (kk : X G y d B (pc + 3) ls st (MM ad nb b r (xu I 0 0 6 v) L) Q) : X G y d B pc ls (.int v :: .ref (ad 0 0) :: st) (MM ad nb b r I L) Q := x_putI hf hd rfl rfl rfl (Nat.le_of_ble_eq_true rfl) kk
theorem g_Acts_marked (hf : xFL y.1.cls idx 0 7) (hd : decode y.2.1 pc = .ok (.getfield idx, 3)) (kk : X G y d B (pc + 3) ls (.ref (ad 46 0) :: st) (MM ad nb b r I L) Q) : X G y d B pc ls (.ref (ad 0 0) :: st) (MM ad nb b r I L) Q := x_get hf hd rfl rfl (Nat.le_of_ble_eq_true rfl) kk
theorem g_Air_border (hf : xFL y.1.cls idx 1 0) (hd : decode y.2.1 pc = .ok (.getfield idx, 3)) (kk : X G y d B (pc + 3) ls (.ref (ad 2 0) :: st) (MM ad nb b r I L) Q) : X G y d B pc ls (.ref (ad 1 0) :: st) (MM ad nb b r I L) Q := x_get hf hd rfl rfl (Nat.le_of_ble_eq_true rfl) kk
theorem g_Air_strong (hf : xFL y.1.cls idx 1 1) (hd : decode y.2.1 pc = .ok (.getfield idx, 3)) (kk : X G y d B (pc + 3) ls (.ref (ad 41 0) :: st) (MM ad nb b r I L) Q) : X G y d B pc ls (.ref (ad 1 0) :: st) (MM ad nb b r I L) Q := x_get hf hd rfl rfl (Nat.le_of_ble_eq_true rfl) kk
theorem g_Air_veil (hf : xFL y.1.cls idx 1 2) (hd : decode y.2.1 pc = .ok (.getfield idx, 3)) (kk : X G y d B (pc + 3) ls (.int (I 1 0 2) :: st) (MM ad nb b r I L) Q) : X G y d B pc ls (.ref (ad 1 0) :: st) (MM ad nb b r I L) Q := x_get hf hd rfl rfl (Nat.le_of_ble_eq_true rfl) kk
theorem p_Air_veil {v : Int32} (hf : xFL y.1.cls idx 1 2) (hd : decode y.2.1 pc = .ok (.putfield idx, 3)) (kk : X G y d B (pc + 3) ls st (MM ad nb b r (xu I 1 0 2 v) L) Q) : X G y d B pc ls (.int v :: .ref (ad 1 0) :: st) (MM ad nb b r I L) Q := x_putI hf hd rfl rfl rfl (Nat.le_of_ble_eq_true rfl) kk
theorem g_Border_sizes (hf : xFL y.1.cls idx 2 0) (hd : decode y.2.1 pc = .ok (.getfield idx, 3)) (hi : i < 2) (kk : X G y d B (pc + 3) ls (.ref (ad 16 i) :: st) (MM ad nb b r I L) Q) : X G y d B pc ls (.ref (ad 2 i) :: st) (MM ad nb b r I L) Q := x_get hf hd rfl rfl hi kk
theorem g_Border_landDuty (hf : xFL y.1.cls idx 2 1) (hd : decode y.2.1 pc = .ok (.getfield idx, 3)) (hi : i < 2) (kk : X G y d B (pc + 3) ls (.ref (ad 17 i) :: st) (MM ad nb b r I L) Q) : X G y d B pc ls (.ref (ad 2 i) :: st) (MM ad nb b r I L) Q := x_get hf hd rfl rfl hi kk
theorem g_Border_smellKind (hf : xFL y.1.cls idx 2 2) (hd : decode y.2.1 pc = .ok (.getfield idx, 3)) (hi : i < 2) (kk : X G y d B (pc + 3) ls (.ref (ad 18 i) :: st) (MM ad nb b r I L) Q) : X G y d B pc ls (.ref (ad 2 i) :: st) (MM ad nb b r I L) Q := x_get hf hd rfl rfl hi kk
theorem g_Border_smellLand (hf : xFL y.1.cls idx 2 3) (hd : decode y.2.1 pc = .ok (.getfield idx, 3)) (hi : i < 2) (kk : X G y d B (pc + 3) ls (.ref (ad 19 i) :: st) (MM ad nb b r I L) Q) : X G y d B pc ls (.ref (ad 2 i) :: st) (MM ad nb b r I L) Q := x_get hf hd rfl rfl hi kk
theorem g_Border_noseSkill (hf : xFL y.1.cls idx 2 4) (hd : decode y.2.1 pc = .ok (.getfield idx, 3)) (hi : i < 2) (kk : X G y d B (pc + 3) ls (.ref (ad 20 i) :: st) (MM ad nb b r I L) Q) : X G y d B pc ls (.ref (ad 2 i) :: st) (MM ad nb b r I L) Q := x_get hf hd rfl rfl hi kk
theorem g_Border_placeLand (hf : xFL y.1.cls idx 2 5) (hd : decode y.2.1 pc = .ok (.getfield idx, 3)) (hi : i < 2) (kk : X G y d B (pc + 3) ls (.ref (ad 21 i) :: st) (MM ad nb b r I L) Q) : X G y d B pc ls (.ref (ad 2 i) :: st) (MM ad nb b r I L) Q := x_get hf hd rfl rfl hi kk
theorem g_Border_placeNose (hf : xFL y.1.cls idx 2 6) (hd : decode y.2.1 pc = .ok (.getfield idx, 3)) (hi : i < 2) (kk : X G y d B (pc + 3) ls (.ref (ad 22 i) :: st) (MM ad nb b r I L) Q) : X G y d B pc ls (.ref (ad 2 i) :: st) (MM ad nb b r I L) Q := x_get hf hd rfl rfl hi kk
theorem g_Border_hours (hf : xFL y.1.cls idx 2 7) (hd : decode y.2.1 pc = .ok (.getfield idx, 3)) (hi : i < 2) (kk : X G y d B (pc + 3) ls (.ref (ad 30 i) :: st) (MM ad nb b r I L) Q) : X G y d B pc ls (.ref (ad 2 i) :: st) (MM ad nb b r I L) Q := x_get hf hd rfl rfl hi kk
theorem g_Border_leaves (hf : xFL y.1.cls idx 2 8) (hd : decode y.2.1 pc = .ok (.getfield idx, 3)) (hi : i < 2) (kk : X G y d B (pc + 3) ls (.ref (ad 32 i) :: st) (MM ad nb b r I L) Q) : X G y d B pc ls (.ref (ad 2 i) :: st) (MM ad nb b r I L) Q := x_get hf hd rfl rfl hi kk
theorem g_Border_sort (hf : xFL y.1.cls idx 2 9) (hd : decode y.2.1 pc = .ok (.getfield idx, 3)) (hi : i < 2) (kk : X G y d B (pc + 3) ls (.ref (ad 23 i) :: st) (MM ad nb b r I L) Q) : X G y d B pc ls (.ref (ad 2 i) :: st) (MM ad nb b r I L) Q := x_get hf hd rfl rfl hi kk
theorem g_Border_home (hf : xFL y.1.cls idx 2 10) (hd : decode y.2.1 pc = .ok (.getfield idx, 3)) (hi : i < 2) (kk : X G y d B (pc + 3) ls (.ref (ad 24 i) :: st) (MM ad nb b r I L) Q) : X G y d B pc ls (.ref (ad 2 i) :: st) (MM ad nb b r I L) Q := x_get hf hd rfl rfl hi kk
theorem g_Border_start (hf : xFL y.1.cls idx 2 11) (hd : decode y.2.1 pc = .ok (.getfield idx, 3)) (hi : i < 2) (kk : X G y d B (pc + 3) ls (.ref (ad 25 i) :: st) (MM ad nb b r I L) Q) : X G y d B pc ls (.ref (ad 2 i) :: st) (MM ad nb b r I L) Q := x_get hf hd rfl rfl hi kk
theorem g_Border_on (hf : xFL y.1.cls idx 2 12) (hd : decode y.2.1 pc = .ok (.getfield idx, 3)) (hi : i < 2) (kk : X G y d B (pc + 3) ls (.ref (ad 34 i) :: st) (MM ad nb b r I L) Q) : X G y d B pc ls (.ref (ad 2 i) :: st) (MM ad nb b r I L) Q := x_get hf hd rfl rfl hi kk
theorem g_Border_walkLength (hf : xFL y.1.cls idx 2 13) (hd : decode y.2.1 pc = .ok (.getfield idx, 3)) (hi : i < 2) (kk : X G y d B (pc + 3) ls (.ref (ad 26 i) :: st) (MM ad nb b r I L) Q) : X G y d B pc ls (.ref (ad 2 i) :: st) (MM ad nb b r I L) Q := x_get hf hd rfl rfl hi kk
theorem g_Border_walk (hf : xFL y.1.cls idx 2 14) (hd : decode y.2.1 pc = .ok (.getfield idx, 3)) (hi : i < 2) (kk : X G y d B (pc + 3) ls (.ref (ad 36 i) :: st) (MM ad nb b r I L) Q) : X G y d B pc ls (.ref (ad 2 i) :: st) (MM ad nb b r I L) Q := x_get hf hd rfl rfl hi kk
theorem g_Border_askedOf (hf : xFL y.1.cls idx 2 15) (hd : decode y.2.1 pc = .ok (.getfield idx, 3)) (hi : i < 2) (kk : X G y d B (pc + 3) ls (.ref (ad 27 i) :: st) (MM ad nb b r I L) Q) : X G y d B pc ls (.ref (ad 2 i) :: st) (MM ad nb b r I L) Q := x_get hf hd rfl rfl hi kk
theorem g_Border_askedWhole (hf : xFL y.1.cls idx 2 16) (hd : decode y.2.1 pc = .ok (.getfield idx, 3)) (hi : i < 2) (kk : X G y d B (pc + 3) ls (.ref (ad 28 i) :: st) (MM ad nb b r I L) Q) : X G y d B pc ls (.ref (ad 2 i) :: st) (MM ad nb b r I L) Q := x_get hf hd rfl rfl hi kk
theorem g_Border_whiff (hf : xFL y.1.cls idx 2 17) (hd : decode y.2.1 pc = .ok (.getfield idx, 3)) (hi : i < 2) (kk : X G y d B (pc + 3) ls (.ref (ad 29 i) :: st) (MM ad nb b r I L) Q) : X G y d B pc ls (.ref (ad 2 i) :: st) (MM ad nb b r I L) Q := x_get hf hd rfl rfl hi kk
theorem g_Game_border (hf : xFL y.1.cls idx 3 0) (hd : decode y.2.1 pc = .ok (.getfield idx, 3)) (kk : X G y d B (pc + 3) ls (.ref (ad 2 0) :: st) (MM ad nb b r I L) Q) : X G y d B pc ls (.ref (ad 3 0) :: st) (MM ad nb b r I L) Q := x_get hf hd rfl rfl (Nat.le_of_ble_eq_true rfl) kk
theorem g_Game_air (hf : xFL y.1.cls idx 3 1) (hd : decode y.2.1 pc = .ok (.getfield idx, 3)) (kk : X G y d B (pc + 3) ls (.ref (ad 1 0) :: st) (MM ad nb b r I L) Q) : X G y d B pc ls (.ref (ad 3 0) :: st) (MM ad nb b r I L) Q := x_get hf hd rfl rfl (Nat.le_of_ble_eq_true rfl) kk
theorem g_Game_ways (hf : xFL y.1.cls idx 3 2) (hd : decode y.2.1 pc = .ok (.getfield idx, 3)) (kk : X G y d B (pc + 3) ls (.ref (ad 10 0) :: st) (MM ad nb b r I L) Q) : X G y d B pc ls (.ref (ad 3 0) :: st) (MM ad nb b r I L) Q := x_get hf hd rfl rfl (Nat.le_of_ble_eq_true rfl) kk
theorem g_Game_rests (hf : xFL y.1.cls idx 3 3) (hd : decode y.2.1 pc = .ok (.getfield idx, 3)) (kk : X G y d B (pc + 3) ls (.int (I 3 0 3) :: st) (MM ad nb b r I L) Q) : X G y d B pc ls (.ref (ad 3 0) :: st) (MM ad nb b r I L) Q := x_get hf hd rfl rfl (Nat.le_of_ble_eq_true rfl) kk
theorem p_Game_rests {v : Int32} (hf : xFL y.1.cls idx 3 3) (hd : decode y.2.1 pc = .ok (.putfield idx, 3)) (kk : X G y d B (pc + 3) ls st (MM ad nb b r (xu I 3 0 3 v) L) Q) : X G y d B pc ls (.int v :: .ref (ad 3 0) :: st) (MM ad nb b r I L) Q := x_putI hf hd rfl rfl rfl (Nat.le_of_ble_eq_true rfl) kk
theorem g_Game_firstDuty (hf : xFL y.1.cls idx 3 4) (hd : decode y.2.1 pc = .ok (.getfield idx, 3)) (kk : X G y d B (pc + 3) ls (.int (I 3 0 4) :: st) (MM ad nb b r I L) Q) : X G y d B pc ls (.ref (ad 3 0) :: st) (MM ad nb b r I L) Q := x_get hf hd rfl rfl (Nat.le_of_ble_eq_true rfl) kk
theorem p_Game_firstDuty {v : Int32} (hf : xFL y.1.cls idx 3 4) (hd : decode y.2.1 pc = .ok (.putfield idx, 3)) (kk : X G y d B (pc + 3) ls st (MM ad nb b r (xu I 3 0 4 v) L) Q) : X G y d B pc ls (.int v :: .ref (ad 3 0) :: st) (MM ad nb b r I L) Q := x_putI hf hd rfl rfl rfl (Nat.le_of_ble_eq_true rfl) kk
theorem g_Game_pays (hf : xFL y.1.cls idx 3 5) (hd : decode y.2.1 pc = .ok (.getfield idx, 3)) (kk : X G y d B (pc + 3) ls (.ref (ad 62 0) :: st) (MM ad nb b r I L) Q) : X G y d B pc ls (.ref (ad 3 0) :: st) (MM ad nb b r I L) Q := x_get hf hd rfl rfl (Nat.le_of_ble_eq_true rfl) kk
theorem g_Person_place (hf : xFL y.1.cls idx 4 0) (hd : decode y.2.1 pc = .ok (.getfield idx, 3)) (hi : i < 32) (kk : X G y d B (pc + 3) ls (.int (I 4 i 0) :: st) (MM ad nb b r I L) Q) : X G y d B pc ls (.ref (ad 4 i) :: st) (MM ad nb b r I L) Q := x_get hf hd rfl rfl hi kk
theorem p_Person_place {v : Int32} (hf : xFL y.1.cls idx 4 0) (hd : decode y.2.1 pc = .ok (.putfield idx, 3)) (hi : i < 32) (kk : X G y d B (pc + 3) ls st (MM ad nb b r (xu I 4 i 0 v) L) Q) : X G y d B pc ls (.int v :: .ref (ad 4 i) :: st) (MM ad nb b r I L) Q := x_putI hf hd rfl rfl rfl hi kk
theorem g_Person_paid (hf : xFL y.1.cls idx 4 1) (hd : decode y.2.1 pc = .ok (.getfield idx, 3)) (hi : i < 32) (kk : X G y d B (pc + 3) ls (.int (I 4 i 1) :: st) (MM ad nb b r I L) Q) : X G y d B pc ls (.ref (ad 4 i) :: st) (MM ad nb b r I L) Q := x_get hf hd rfl rfl hi kk
theorem p_Person_paid {v : Int32} (hf : xFL y.1.cls idx 4 1) (hd : decode y.2.1 pc = .ok (.putfield idx, 3)) (hi : i < 32) (kk : X G y d B (pc + 3) ls st (MM ad nb b r (xu I 4 i 1 v) L) Q) : X G y d B pc ls (.int v :: .ref (ad 4 i) :: st) (MM ad nb b r I L) Q := x_putI hf hd rfl rfl rfl hi kk
theorem g_Person_hours (hf : xFL y.1.cls idx 4 2) (hd : decode y.2.1 pc = .ok (.getfield idx, 3)) (hi : i < 32) (kk : X G y d B (pc + 3) ls (.int (I 4 i 2) :: st) (MM ad nb b r I L) Q) : X G y d B pc ls (.ref (ad 4 i) :: st) (MM ad nb b r I L) Q := x_get hf hd rfl rfl hi kk
theorem p_Person_hours {v : Int32} (hf : xFL y.1.cls idx 4 2) (hd : decode y.2.1 pc = .ok (.putfield idx, 3)) (hi : i < 32) (kk : X G y d B (pc + 3) ls st (MM ad nb b r (xu I 4 i 2 v) L) Q) : X G y d B pc ls (.int v :: .ref (ad 4 i) :: st) (MM ad nb b r I L) Q := x_putI hf hd rfl rfl rfl hi kk
theorem g_Person_halves (hf : xFL y.1.cls idx 4 3) (hd : decode y.2.1 pc = .ok (.getfield idx, 3)) (hi : i < 32) (kk : X G y d B (pc + 3) ls (.ref (ad 43 i) :: st) (MM ad nb b r I L) Q) : X G y d B pc ls (.ref (ad 4 i) :: st) (MM ad nb b r I L) Q := x_get hf hd rfl rfl hi kk
theorem g_Posting_border (hf : xFL y.1.cls idx 5 0) (hd : decode y.2.1 pc = .ok (.getfield idx, 3)) (kk : X G y d B (pc + 3) ls (.ref (ad 2 0) :: st) (MM ad nb b r I L) Q) : X G y d B pc ls (.ref (ad 5 0) :: st) (MM ad nb b r I L) Q := x_get hf hd rfl rfl (Nat.le_of_ble_eq_true rfl) kk
theorem g_Posting_walks (hf : xFL y.1.cls idx 5 1) (hd : decode y.2.1 pc = .ok (.getfield idx, 3)) (kk : X G y d B (pc + 3) ls (.ref (ad 9 0) :: st) (MM ad nb b r I L) Q) : X G y d B pc ls (.ref (ad 5 0) :: st) (MM ad nb b r I L) Q := x_get hf hd rfl rfl (Nat.le_of_ble_eq_true rfl) kk
theorem g_Posting_most (hf : xFL y.1.cls idx 5 2) (hd : decode y.2.1 pc = .ok (.getfield idx, 3)) (kk : X G y d B (pc + 3) ls (.int (I 5 0 2) :: st) (MM ad nb b r I L) Q) : X G y d B pc ls (.ref (ad 5 0) :: st) (MM ad nb b r I L) Q := x_get hf hd rfl rfl (Nat.le_of_ble_eq_true rfl) kk
theorem p_Posting_most {v : Int32} (hf : xFL y.1.cls idx 5 2) (hd : decode y.2.1 pc = .ok (.putfield idx, 3)) (kk : X G y d B (pc + 3) ls st (MM ad nb b r (xu I 5 0 2 v) L) Q) : X G y d B pc ls (.int v :: .ref (ad 5 0) :: st) (MM ad nb b r I L) Q := x_putI hf hd rfl rfl rfl (Nat.le_of_ble_eq_true rfl) kk
theorem g_Posting_best (hf : xFL y.1.cls idx 5 3) (hd : decode y.2.1 pc = .ok (.getfield idx, 3)) (kk : X G y d B (pc + 3) ls (.ref (ad 60 0) :: st) (MM ad nb b r I L) Q) : X G y d B pc ls (.ref (ad 5 0) :: st) (MM ad nb b r I L) Q := x_get hf hd rfl rfl (Nat.le_of_ble_eq_true rfl) kk
theorem g_Posting_noses (hf : xFL y.1.cls idx 5 4) (hd : decode y.2.1 pc = .ok (.getfield idx, 3)) (kk : X G y d B (pc + 3) ls (.ref (ad 61 0) :: st) (MM ad nb b r I L) Q) : X G y d B pc ls (.ref (ad 5 0) :: st) (MM ad nb b r I L) Q := x_get hf hd rfl rfl (Nat.le_of_ble_eq_true rfl) kk
theorem g_Teller_draft (hf : xFL y.1.cls idx 6 0) (hd : decode y.2.1 pc = .ok (.getfield idx, 3)) (kk : X G y d B (pc + 3) ls (.ref (ad 2 1) :: st) (MM ad nb b r I L) Q) : X G y d B pc ls (.ref (ad 6 0) :: st) (MM ad nb b r I L) Q := x_get hf hd rfl rfl (Nat.le_of_ble_eq_true rfl) kk
theorem g_Teller_fault (hf : xFL y.1.cls idx 6 1) (hd : decode y.2.1 pc = .ok (.getfield idx, 3)) (kk : X G y d B (pc + 3) ls (.int (I 6 0 1) :: st) (MM ad nb b r I L) Q) : X G y d B pc ls (.ref (ad 6 0) :: st) (MM ad nb b r I L) Q := x_get hf hd rfl rfl (Nat.le_of_ble_eq_true rfl) kk
theorem p_Teller_fault {v : Int32} (hf : xFL y.1.cls idx 6 1) (hd : decode y.2.1 pc = .ok (.putfield idx, 3)) (kk : X G y d B (pc + 3) ls st (MM ad nb b r (xu I 6 0 1 v) L) Q) : X G y d B pc ls (.int v :: .ref (ad 6 0) :: st) (MM ad nb b r I L) Q := x_putI hf hd rfl rfl rfl (Nat.le_of_ble_eq_true rfl) kk
theorem g_Teller_faultAt (hf : xFL y.1.cls idx 6 2) (hd : decode y.2.1 pc = .ok (.getfield idx, 3)) (kk : X G y d B (pc + 3) ls (.int (I 6 0 2) :: st) (MM ad nb b r I L) Q) : X G y d B pc ls (.ref (ad 6 0) :: st) (MM ad nb b r I L) Q := x_get hf hd rfl rfl (Nat.le_of_ble_eq_true rfl) kk
theorem p_Teller_faultAt {v : Int32} (hf : xFL y.1.cls idx 6 2) (hd : decode y.2.1 pc = .ok (.putfield idx, 3)) (kk : X G y d B (pc + 3) ls st (MM ad nb b r (xu I 6 0 2 v) L) Q) : X G y d B pc ls (.int v :: .ref (ad 6 0) :: st) (MM ad nb b r I L) Q := x_putI hf hd rfl rfl rfl (Nat.le_of_ble_eq_true rfl) kk
theorem g_Teller_tokens (hf : xFL y.1.cls idx 6 3) (hd : decode y.2.1 pc = .ok (.getfield idx, 3)) (kk : X G y d B (pc + 3) ls (.ref (ad 7 0) :: st) (MM ad nb b r I L) Q) : X G y d B pc ls (.ref (ad 6 0) :: st) (MM ad nb b r I L) Q := x_get hf hd rfl rfl (Nat.le_of_ble_eq_true rfl) kk
theorem g_Teller_names (hf : xFL y.1.cls idx 6 4) (hd : decode y.2.1 pc = .ok (.getfield idx, 3)) (kk : X G y d B (pc + 3) ls (.ref (ad 38 0) :: st) (MM ad nb b r I L) Q) : X G y d B pc ls (.ref (ad 6 0) :: st) (MM ad nb b r I L) Q := x_get hf hd rfl rfl (Nat.le_of_ble_eq_true rfl) kk
theorem g_Teller_nameSorts (hf : xFL y.1.cls idx 6 5) (hd : decode y.2.1 pc = .ok (.getfield idx, 3)) (kk : X G y d B (pc + 3) ls (.ref (ad 39 0) :: st) (MM ad nb b r I L) Q) : X G y d B pc ls (.ref (ad 6 0) :: st) (MM ad nb b r I L) Q := x_get hf hd rfl rfl (Nat.le_of_ble_eq_true rfl) kk
theorem g_Teller_nameNumbers (hf : xFL y.1.cls idx 6 6) (hd : decode y.2.1 pc = .ok (.getfield idx, 3)) (kk : X G y d B (pc + 3) ls (.ref (ad 40 0) :: st) (MM ad nb b r I L) Q) : X G y d B pc ls (.ref (ad 6 0) :: st) (MM ad nb b r I L) Q := x_get hf hd rfl rfl (Nat.le_of_ble_eq_true rfl) kk
theorem g_Teller_named (hf : xFL y.1.cls idx 6 7) (hd : decode y.2.1 pc = .ok (.getfield idx, 3)) (kk : X G y d B (pc + 3) ls (.int (I 6 0 7) :: st) (MM ad nb b r I L) Q) : X G y d B pc ls (.ref (ad 6 0) :: st) (MM ad nb b r I L) Q := x_get hf hd rfl rfl (Nat.le_of_ble_eq_true rfl) kk
theorem p_Teller_named {v : Int32} (hf : xFL y.1.cls idx 6 7) (hd : decode y.2.1 pc = .ok (.putfield idx, 3)) (kk : X G y d B (pc + 3) ls st (MM ad nb b r (xu I 6 0 7 v) L) Q) : X G y d B pc ls (.int v :: .ref (ad 6 0) :: st) (MM ad nb b r I L) Q := x_putI hf hd rfl rfl rfl (Nat.le_of_ble_eq_true rfl) kk
theorem g_Teller_found (hf : xFL y.1.cls idx 6 8) (hd : decode y.2.1 pc = .ok (.getfield idx, 3)) (kk : X G y d B (pc + 3) ls (.int (I 6 0 8) :: st) (MM ad nb b r I L) Q) : X G y d B pc ls (.ref (ad 6 0) :: st) (MM ad nb b r I L) Q := x_get hf hd rfl rfl (Nat.le_of_ble_eq_true rfl) kk
theorem p_Teller_found {v : Int32} (hf : xFL y.1.cls idx 6 8) (hd : decode y.2.1 pc = .ok (.putfield idx, 3)) (kk : X G y d B (pc + 3) ls st (MM ad nb b r (xu I 6 0 8 v) L) Q) : X G y d B pc ls (.int v :: .ref (ad 6 0) :: st) (MM ad nb b r I L) Q := x_putI hf hd rfl rfl rfl (Nat.le_of_ble_eq_true rfl) kk
theorem g_Teller_foundAt (hf : xFL y.1.cls idx 6 9) (hd : decode y.2.1 pc = .ok (.getfield idx, 3)) (kk : X G y d B (pc + 3) ls (.int (I 6 0 9) :: st) (MM ad nb b r I L) Q) : X G y d B pc ls (.ref (ad 6 0) :: st) (MM ad nb b r I L) Q := x_get hf hd rfl rfl (Nat.le_of_ble_eq_true rfl) kk
theorem p_Teller_foundAt {v : Int32} (hf : xFL y.1.cls idx 6 9) (hd : decode y.2.1 pc = .ok (.putfield idx, 3)) (kk : X G y d B (pc + 3) ls st (MM ad nb b r (xu I 6 0 9 v) L) Q) : X G y d B pc ls (.int v :: .ref (ad 6 0) :: st) (MM ad nb b r I L) Q := x_putI hf hd rfl rfl rfl (Nat.le_of_ble_eq_true rfl) kk
theorem g_Tokens_tape (hf : xFL y.1.cls idx 7 0) (hd : decode y.2.1 pc = .ok (.getfield idx, 3)) (kk : X G y d B (pc + 3) ls (.ref (ad 14 0) :: st) (MM ad nb b r I L) Q) : X G y d B pc ls (.ref (ad 7 0) :: st) (MM ad nb b r I L) Q := x_get hf hd rfl rfl (Nat.le_of_ble_eq_true rfl) kk
theorem g_Tokens_end (hf : xFL y.1.cls idx 7 1) (hd : decode y.2.1 pc = .ok (.getfield idx, 3)) (kk : X G y d B (pc + 3) ls (.int (I 7 0 1) :: st) (MM ad nb b r I L) Q) : X G y d B pc ls (.ref (ad 7 0) :: st) (MM ad nb b r I L) Q := x_get hf hd rfl rfl (Nat.le_of_ble_eq_true rfl) kk
theorem p_Tokens_end {v : Int32} (hf : xFL y.1.cls idx 7 1) (hd : decode y.2.1 pc = .ok (.putfield idx, 3)) (kk : X G y d B (pc + 3) ls st (MM ad nb b r (xu I 7 0 1 v) L) Q) : X G y d B pc ls (.int v :: .ref (ad 7 0) :: st) (MM ad nb b r I L) Q := x_putI hf hd rfl rfl rfl (Nat.le_of_ble_eq_true rfl) kk
theorem g_Tokens_after (hf : xFL y.1.cls idx 7 2) (hd : decode y.2.1 pc = .ok (.getfield idx, 3)) (kk : X G y d B (pc + 3) ls (.int (I 7 0 2) :: st) (MM ad nb b r I L) Q) : X G y d B pc ls (.ref (ad 7 0) :: st) (MM ad nb b r I L) Q := x_get hf hd rfl rfl (Nat.le_of_ble_eq_true rfl) kk
theorem p_Tokens_after {v : Int32} (hf : xFL y.1.cls idx 7 2) (hd : decode y.2.1 pc = .ok (.putfield idx, 3)) (kk : X G y d B (pc + 3) ls st (MM ad nb b r (xu I 7 0 2 v) L) Q) : X G y d B pc ls (.int v :: .ref (ad 7 0) :: st) (MM ad nb b r I L) Q := x_putI hf hd rfl rfl rfl (Nat.le_of_ble_eq_true rfl) kk
theorem g_Tokens_kind (hf : xFL y.1.cls idx 7 3) (hd : decode y.2.1 pc = .ok (.getfield idx, 3)) (kk : X G y d B (pc + 3) ls (.int (I 7 0 3) :: st) (MM ad nb b r I L) Q) : X G y d B pc ls (.ref (ad 7 0) :: st) (MM ad nb b r I L) Q := x_get hf hd rfl rfl (Nat.le_of_ble_eq_true rfl) kk
theorem p_Tokens_kind {v : Int32} (hf : xFL y.1.cls idx 7 3) (hd : decode y.2.1 pc = .ok (.putfield idx, 3)) (kk : X G y d B (pc + 3) ls st (MM ad nb b r (xu I 7 0 3 v) L) Q) : X G y d B pc ls (.int v :: .ref (ad 7 0) :: st) (MM ad nb b r I L) Q := x_putI hf hd rfl rfl rfl (Nat.le_of_ble_eq_true rfl) kk
theorem g_Tokens_at (hf : xFL y.1.cls idx 7 4) (hd : decode y.2.1 pc = .ok (.getfield idx, 3)) (kk : X G y d B (pc + 3) ls (.int (I 7 0 4) :: st) (MM ad nb b r I L) Q) : X G y d B pc ls (.ref (ad 7 0) :: st) (MM ad nb b r I L) Q := x_get hf hd rfl rfl (Nat.le_of_ble_eq_true rfl) kk
theorem p_Tokens_at {v : Int32} (hf : xFL y.1.cls idx 7 4) (hd : decode y.2.1 pc = .ok (.putfield idx, 3)) (kk : X G y d B (pc + 3) ls st (MM ad nb b r (xu I 7 0 4 v) L) Q) : X G y d B pc ls (.int v :: .ref (ad 7 0) :: st) (MM ad nb b r I L) Q := x_putI hf hd rfl rfl rfl (Nat.le_of_ble_eq_true rfl) kk
theorem g_Tokens_value (hf : xFL y.1.cls idx 7 5) (hd : decode y.2.1 pc = .ok (.getfield idx, 3)) (kk : X G y d B (pc + 3) ls (.long (L 7 0 5) :: st) (MM ad nb b r I L) Q) : X G y d B pc ls (.ref (ad 7 0) :: st) (MM ad nb b r I L) Q := x_get hf hd rfl rfl (Nat.le_of_ble_eq_true rfl) kk
theorem p_Tokens_value {v : Int64} (hf : xFL y.1.cls idx 7 5) (hd : decode y.2.1 pc = .ok (.putfield idx, 3)) (kk : X G y d B (pc + 3) ls st (MM ad nb b r I (xu L 7 0 5 v)) Q) : X G y d B pc ls (.long v :: .ref (ad 7 0) :: st) (MM ad nb b r I L) Q := x_putL hf hd rfl rfl rfl (Nat.le_of_ble_eq_true rfl) kk
theorem g_Trace_border (hf : xFL y.1.cls idx 8 0) (hd : decode y.2.1 pc = .ok (.getfield idx, 3)) (kk : X G y d B (pc + 3) ls (.ref (ad 2 0) :: st) (MM ad nb b r I L) Q) : X G y d B pc ls (.ref (ad 8 0) :: st) (MM ad nb b r I L) Q := x_get hf hd rfl rfl (Nat.le_of_ble_eq_true rfl) kk
theorem g_Trace_air (hf : xFL y.1.cls idx 8 1) (hd : decode y.2.1 pc = .ok (.getfield idx, 3)) (kk : X G y d B (pc + 3) ls (.ref (ad 1 0) :: st) (MM ad nb b r I L) Q) : X G y d B pc ls (.ref (ad 8 0) :: st) (MM ad nb b r I L) Q := x_get hf hd rfl rfl (Nat.le_of_ble_eq_true rfl) kk
theorem g_Trace_rows (hf : xFL y.1.cls idx 8 2) (hd : decode y.2.1 pc = .ok (.getfield idx, 3)) (kk : X G y d B (pc + 3) ls (.int (I 8 0 2) :: st) (MM ad nb b r I L) Q) : X G y d B pc ls (.ref (ad 8 0) :: st) (MM ad nb b r I L) Q := x_get hf hd rfl rfl (Nat.le_of_ble_eq_true rfl) kk
theorem p_Trace_rows {v : Int32} (hf : xFL y.1.cls idx 8 2) (hd : decode y.2.1 pc = .ok (.putfield idx, 3)) (kk : X G y d B (pc + 3) ls st (MM ad nb b r (xu I 8 0 2 v) L) Q) : X G y d B pc ls (.int v :: .ref (ad 8 0) :: st) (MM ad nb b r I L) Q := x_putI hf hd rfl rfl rfl (Nat.le_of_ble_eq_true rfl) kk
theorem g_Trace_inSome (hf : xFL y.1.cls idx 8 3) (hd : decode y.2.1 pc = .ok (.getfield idx, 3)) (kk : X G y d B (pc + 3) ls (.int (I 8 0 3) :: st) (MM ad nb b r I L) Q) : X G y d B pc ls (.ref (ad 8 0) :: st) (MM ad nb b r I L) Q := x_get hf hd rfl rfl (Nat.le_of_ble_eq_true rfl) kk
theorem p_Trace_inSome {v : Int32} (hf : xFL y.1.cls idx 8 3) (hd : decode y.2.1 pc = .ok (.putfield idx, 3)) (kk : X G y d B (pc + 3) ls st (MM ad nb b r (xu I 8 0 3 v) L) Q) : X G y d B pc ls (.int v :: .ref (ad 8 0) :: st) (MM ad nb b r I L) Q := x_putI hf hd rfl rfl rfl (Nat.le_of_ble_eq_true rfl) kk
theorem g_Trace_inAll (hf : xFL y.1.cls idx 8 4) (hd : decode y.2.1 pc = .ok (.getfield idx, 3)) (kk : X G y d B (pc + 3) ls (.int (I 8 0 4) :: st) (MM ad nb b r I L) Q) : X G y d B pc ls (.ref (ad 8 0) :: st) (MM ad nb b r I L) Q := x_get hf hd rfl rfl (Nat.le_of_ble_eq_true rfl) kk
theorem p_Trace_inAll {v : Int32} (hf : xFL y.1.cls idx 8 4) (hd : decode y.2.1 pc = .ok (.putfield idx, 3)) (kk : X G y d B (pc + 3) ls st (MM ad nb b r (xu I 8 0 4 v) L) Q) : X G y d B pc ls (.int v :: .ref (ad 8 0) :: st) (MM ad nb b r I L) Q := x_putI hf hd rfl rfl rfl (Nat.le_of_ble_eq_true rfl) kk
theorem g_Trace_firstLength (hf : xFL y.1.cls idx 8 5) (hd : decode y.2.1 pc = .ok (.getfield idx, 3)) (kk : X G y d B (pc + 3) ls (.int (I 8 0 5) :: st) (MM ad nb b r I L) Q) : X G y d B pc ls (.ref (ad 8 0) :: st) (MM ad nb b r I L) Q := x_get hf hd rfl rfl (Nat.le_of_ble_eq_true rfl) kk
theorem p_Trace_firstLength {v : Int32} (hf : xFL y.1.cls idx 8 5) (hd : decode y.2.1 pc = .ok (.putfield idx, 3)) (kk : X G y d B (pc + 3) ls st (MM ad nb b r (xu I 8 0 5 v) L) Q) : X G y d B pc ls (.int v :: .ref (ad 8 0) :: st) (MM ad nb b r I L) Q := x_putI hf hd rfl rfl rfl (Nat.le_of_ble_eq_true rfl) kk
theorem g_Trace_first (hf : xFL y.1.cls idx 8 6) (hd : decode y.2.1 pc = .ok (.getfield idx, 3)) (kk : X G y d B (pc + 3) ls (.ref (ad 56 0) :: st) (MM ad nb b r I L) Q) : X G y d B pc ls (.ref (ad 8 0) :: st) (MM ad nb b r I L) Q := x_get hf hd rfl rfl (Nat.le_of_ble_eq_true rfl) kk
theorem g_Trace_row (hf : xFL y.1.cls idx 8 7) (hd : decode y.2.1 pc = .ok (.getfield idx, 3)) (kk : X G y d B (pc + 3) ls (.ref (ad 57 0) :: st) (MM ad nb b r I L) Q) : X G y d B pc ls (.ref (ad 8 0) :: st) (MM ad nb b r I L) Q := x_get hf hd rfl rfl (Nat.le_of_ble_eq_true rfl) kk
theorem g_Trace_halves (hf : xFL y.1.cls idx 8 8) (hd : decode y.2.1 pc = .ok (.getfield idx, 3)) (kk : X G y d B (pc + 3) ls (.ref (ad 58 0) :: st) (MM ad nb b r I L) Q) : X G y d B pc ls (.ref (ad 8 0) :: st) (MM ad nb b r I L) Q := x_get hf hd rfl rfl (Nat.le_of_ble_eq_true rfl) kk
theorem g_Walks_border (hf : xFL y.1.cls idx 9 0) (hd : decode y.2.1 pc = .ok (.getfield idx, 3)) (kk : X G y d B (pc + 3) ls (.ref (ad 2 0) :: st) (MM ad nb b r I L) Q) : X G y d B pc ls (.ref (ad 9 0) :: st) (MM ad nb b r I L) Q := x_get hf hd rfl rfl (Nat.le_of_ble_eq_true rfl) kk
theorem g_Walks_air (hf : xFL y.1.cls idx 9 1) (hd : decode y.2.1 pc = .ok (.getfield idx, 3)) (kk : X G y d B (pc + 3) ls (.ref (ad 1 0) :: st) (MM ad nb b r I L) Q) : X G y d B pc ls (.ref (ad 9 0) :: st) (MM ad nb b r I L) Q := x_get hf hd rfl rfl (Nat.le_of_ble_eq_true rfl) kk
theorem g_Walks_acts (hf : xFL y.1.cls idx 9 2) (hd : decode y.2.1 pc = .ok (.getfield idx, 3)) (kk : X G y d B (pc + 3) ls (.ref (ad 0 0) :: st) (MM ad nb b r I L) Q) : X G y d B pc ls (.ref (ad 9 0) :: st) (MM ad nb b r I L) Q := x_get hf hd rfl rfl (Nat.le_of_ble_eq_true rfl) kk
theorem g_Walks_askedAt (hf : xFL y.1.cls idx 9 3) (hd : decode y.2.1 pc = .ok (.getfield idx, 3)) (kk : X G y d B (pc + 3) ls (.ref (ad 47 0) :: st) (MM ad nb b r I L) Q) : X G y d B pc ls (.ref (ad 9 0) :: st) (MM ad nb b r I L) Q := x_get hf hd rfl rfl (Nat.le_of_ble_eq_true rfl) kk
theorem g_Walks_total (hf : xFL y.1.cls idx 9 4) (hd : decode y.2.1 pc = .ok (.getfield idx, 3)) (kk : X G y d B (pc + 3) ls (.int (I 9 0 4) :: st) (MM ad nb b r I L) Q) : X G y d B pc ls (.ref (ad 9 0) :: st) (MM ad nb b r I L) Q := x_get hf hd rfl rfl (Nat.le_of_ble_eq_true rfl) kk
theorem p_Walks_total {v : Int32} (hf : xFL y.1.cls idx 9 4) (hd : decode y.2.1 pc = .ok (.putfield idx, 3)) (kk : X G y d B (pc + 3) ls st (MM ad nb b r (xu I 9 0 4 v) L) Q) : X G y d B pc ls (.int v :: .ref (ad 9 0) :: st) (MM ad nb b r I L) Q := x_putI hf hd rfl rfl rfl (Nat.le_of_ble_eq_true rfl) kk
theorem g_Ways_border (hf : xFL y.1.cls idx 10 0) (hd : decode y.2.1 pc = .ok (.getfield idx, 3)) (kk : X G y d B (pc + 3) ls (.ref (ad 2 0) :: st) (MM ad nb b r I L) Q) : X G y d B pc ls (.ref (ad 10 0) :: st) (MM ad nb b r I L) Q := x_get hf hd rfl rfl (Nat.le_of_ble_eq_true rfl) kk
theorem g_Ways_air (hf : xFL y.1.cls idx 10 1) (hd : decode y.2.1 pc = .ok (.getfield idx, 3)) (kk : X G y d B (pc + 3) ls (.ref (ad 1 0) :: st) (MM ad nb b r I L) Q) : X G y d B pc ls (.ref (ad 10 0) :: st) (MM ad nb b r I L) Q := x_get hf hd rfl rfl (Nat.le_of_ble_eq_true rfl) kk
theorem g_Ways_count (hf : xFL y.1.cls idx 10 2) (hd : decode y.2.1 pc = .ok (.getfield idx, 3)) (kk : X G y d B (pc + 3) ls (.int (I 10 0 2) :: st) (MM ad nb b r I L) Q) : X G y d B pc ls (.ref (ad 10 0) :: st) (MM ad nb b r I L) Q := x_get hf hd rfl rfl (Nat.le_of_ble_eq_true rfl) kk
theorem p_Ways_count {v : Int32} (hf : xFL y.1.cls idx 10 2) (hd : decode y.2.1 pc = .ok (.putfield idx, 3)) (kk : X G y d B (pc + 3) ls st (MM ad nb b r (xu I 10 0 2 v) L) Q) : X G y d B pc ls (.int v :: .ref (ad 10 0) :: st) (MM ad nb b r I L) Q := x_putI hf hd rfl rfl rfl (Nat.le_of_ble_eq_true rfl) kk
theorem g_Ways_lengths (hf : xFL y.1.cls idx 10 3) (hd : decode y.2.1 pc = .ok (.getfield idx, 3)) (kk : X G y d B (pc + 3) ls (.ref (ad 48 0) :: st) (MM ad nb b r I L) Q) : X G y d B pc ls (.ref (ad 10 0) :: st) (MM ad nb b r I L) Q := x_get hf hd rfl rfl (Nat.le_of_ble_eq_true rfl) kk
theorem g_Ways_stops (hf : xFL y.1.cls idx 10 4) (hd : decode y.2.1 pc = .ok (.getfield idx, 3)) (kk : X G y d B (pc + 3) ls (.ref (ad 49 0) :: st) (MM ad nb b r I L) Q) : X G y d B pc ls (.ref (ad 10 0) :: st) (MM ad nb b r I L) Q := x_get hf hd rfl rfl (Nat.le_of_ble_eq_true rfl) kk
theorem g_Ways_arrivals (hf : xFL y.1.cls idx 10 5) (hd : decode y.2.1 pc = .ok (.getfield idx, 3)) (kk : X G y d B (pc + 3) ls (.ref (ad 51 0) :: st) (MM ad nb b r I L) Q) : X G y d B pc ls (.ref (ad 10 0) :: st) (MM ad nb b r I L) Q := x_get hf hd rfl rfl (Nat.le_of_ble_eq_true rfl) kk
theorem g_Ways_duties (hf : xFL y.1.cls idx 10 6) (hd : decode y.2.1 pc = .ok (.getfield idx, 3)) (kk : X G y d B (pc + 3) ls (.ref (ad 53 0) :: st) (MM ad nb b r I L) Q) : X G y d B pc ls (.ref (ad 10 0) :: st) (MM ad nb b r I L) Q := x_get hf hd rfl rfl (Nat.le_of_ble_eq_true rfl) kk
theorem g_Ways_way (hf : xFL y.1.cls idx 10 7) (hd : decode y.2.1 pc = .ok (.getfield idx, 3)) (kk : X G y d B (pc + 3) ls (.ref (ad 54 0) :: st) (MM ad nb b r I L) Q) : X G y d B pc ls (.ref (ad 10 0) :: st) (MM ad nb b r I L) Q := x_get hf hd rfl rfl (Nat.le_of_ble_eq_true rfl) kk
theorem g_Ways_clock (hf : xFL y.1.cls idx 10 8) (hd : decode y.2.1 pc = .ok (.getfield idx, 3)) (kk : X G y d B (pc + 3) ls (.ref (ad 55 0) :: st) (MM ad nb b r I L) Q) : X G y d B pc ls (.ref (ad 10 0) :: st) (MM ad nb b r I L) Q := x_get hf hd rfl rfl (Nat.le_of_ble_eq_true rfl) kk
theorem g_X_tape (hf : xFL y.1.cls idx 11 0) (hd : decode y.2.1 pc = .ok (.getfield idx, 3)) (kk : X G y d B (pc + 3) ls (.ref (ad 14 0) :: st) (MM ad nb b r I L) Q) : X G y d B pc ls (.ref (ad 11 0) :: st) (MM ad nb b r I L) Q := x_get hf hd rfl rfl (Nat.le_of_ble_eq_true rfl) kk
theorem g_X_taped (hf : xFL y.1.cls idx 11 1) (hd : decode y.2.1 pc = .ok (.getfield idx, 3)) (kk : X G y d B (pc + 3) ls (.int (I 11 0 1) :: st) (MM ad nb b r I L) Q) : X G y d B pc ls (.ref (ad 11 0) :: st) (MM ad nb b r I L) Q := x_get hf hd rfl rfl (Nat.le_of_ble_eq_true rfl) kk
theorem p_X_taped {v : Int32} (hf : xFL y.1.cls idx 11 1) (hd : decode y.2.1 pc = .ok (.putfield idx, 3)) (kk : X G y d B (pc + 3) ls st (MM ad nb b r (xu I 11 0 1 v) L) Q) : X G y d B pc ls (.int v :: .ref (ad 11 0) :: st) (MM ad nb b r I L) Q := x_putI hf hd rfl rfl rfl (Nat.le_of_ble_eq_true rfl) kk
theorem g_X_told (hf : xFL y.1.cls idx 11 2) (hd : decode y.2.1 pc = .ok (.getfield idx, 3)) (kk : X G y d B (pc + 3) ls (.ref (ad 2 0) :: st) (MM ad nb b r I L) Q) : X G y d B pc ls (.ref (ad 11 0) :: st) (MM ad nb b r I L) Q := x_get hf hd rfl rfl (Nat.le_of_ble_eq_true rfl) kk
theorem g_X_teller (hf : xFL y.1.cls idx 11 3) (hd : decode y.2.1 pc = .ok (.getfield idx, 3)) (kk : X G y d B (pc + 3) ls (.ref (ad 6 0) :: st) (MM ad nb b r I L) Q) : X G y d B pc ls (.ref (ad 11 0) :: st) (MM ad nb b r I L) Q := x_get hf hd rfl rfl (Nat.le_of_ble_eq_true rfl) kk
theorem g_X_air (hf : xFL y.1.cls idx 11 4) (hd : decode y.2.1 pc = .ok (.getfield idx, 3)) (kk : X G y d B (pc + 3) ls (.ref (ad 1 0) :: st) (MM ad nb b r I L) Q) : X G y d B pc ls (.ref (ad 11 0) :: st) (MM ad nb b r I L) Q := x_get hf hd rfl rfl (Nat.le_of_ble_eq_true rfl) kk
theorem g_X_acts (hf : xFL y.1.cls idx 11 5) (hd : decode y.2.1 pc = .ok (.getfield idx, 3)) (kk : X G y d B (pc + 3) ls (.ref (ad 0 0) :: st) (MM ad nb b r I L) Q) : X G y d B pc ls (.ref (ad 11 0) :: st) (MM ad nb b r I L) Q := x_get hf hd rfl rfl (Nat.le_of_ble_eq_true rfl) kk
theorem g_X_walks (hf : xFL y.1.cls idx 11 6) (hd : decode y.2.1 pc = .ok (.getfield idx, 3)) (kk : X G y d B (pc + 3) ls (.ref (ad 9 0) :: st) (MM ad nb b r I L) Q) : X G y d B pc ls (.ref (ad 11 0) :: st) (MM ad nb b r I L) Q := x_get hf hd rfl rfl (Nat.le_of_ble_eq_true rfl) kk
theorem g_X_ways (hf : xFL y.1.cls idx 11 7) (hd : decode y.2.1 pc = .ok (.getfield idx, 3)) (kk : X G y d B (pc + 3) ls (.ref (ad 10 0) :: st) (MM ad nb b r I L) Q) : X G y d B pc ls (.ref (ad 11 0) :: st) (MM ad nb b r I L) Q := x_get hf hd rfl rfl (Nat.le_of_ble_eq_true rfl) kk
theorem g_X_trace (hf : xFL y.1.cls idx 11 8) (hd : decode y.2.1 pc = .ok (.getfield idx, 3)) (kk : X G y d B (pc + 3) ls (.ref (ad 8 0) :: st) (MM ad nb b r I L) Q) : X G y d B pc ls (.ref (ad 11 0) :: st) (MM ad nb b r I L) Q := x_get hf hd rfl rfl (Nat.le_of_ble_eq_true rfl) kk
theorem g_X_posting (hf : xFL y.1.cls idx 11 9) (hd : decode y.2.1 pc = .ok (.getfield idx, 3)) (kk : X G y d B (pc + 3) ls (.ref (ad 5 0) :: st) (MM ad nb b r I L) Q) : X G y d B pc ls (.ref (ad 11 0) :: st) (MM ad nb b r I L) Q := x_get hf hd rfl rfl (Nat.le_of_ble_eq_true rfl) kk
theorem g_X_game (hf : xFL y.1.cls idx 11 10) (hd : decode y.2.1 pc = .ok (.getfield idx, 3)) (kk : X G y d B (pc + 3) ls (.ref (ad 3 0) :: st) (MM ad nb b r I L) Q) : X G y d B pc ls (.ref (ad 11 0) :: st) (MM ad nb b r I L) Q := x_get hf hd rfl rfl (Nat.le_of_ble_eq_true rfl) kk
theorem g_X_trial (hf : xFL y.1.cls idx 11 11) (hd : decode y.2.1 pc = .ok (.getfield idx, 3)) (kk : X G y d B (pc + 3) ls (.ref (ad 15 0) :: st) (MM ad nb b r I L) Q) : X G y d B pc ls (.ref (ad 11 0) :: st) (MM ad nb b r I L) Q := x_get hf hd rfl rfl (Nat.le_of_ble_eq_true rfl) kk
theorem g_X_trouble (hf : xFL y.1.cls idx 11 12) (hd : decode y.2.1 pc = .ok (.getfield idx, 3)) (kk : X G y d B (pc + 3) ls (.int (I 11 0 12) :: st) (MM ad nb b r I L) Q) : X G y d B pc ls (.ref (ad 11 0) :: st) (MM ad nb b r I L) Q := x_get hf hd rfl rfl (Nat.le_of_ble_eq_true rfl) kk
theorem p_X_trouble {v : Int32} (hf : xFL y.1.cls idx 11 12) (hd : decode y.2.1 pc = .ok (.putfield idx, 3)) (kk : X G y d B (pc + 3) ls st (MM ad nb b r (xu I 11 0 12 v) L) Q) : X G y d B pc ls (.int v :: .ref (ad 11 0) :: st) (MM ad nb b r I L) Q := x_putI hf hd rfl rfl rfl (Nat.le_of_ble_eq_true rfl) kk
theorem g_X_fault (hf : xFL y.1.cls idx 11 13) (hd : decode y.2.1 pc = .ok (.getfield idx, 3)) (kk : X G y d B (pc + 3) ls (.int (I 11 0 13) :: st) (MM ad nb b r I L) Q) : X G y d B pc ls (.ref (ad 11 0) :: st) (MM ad nb b r I L) Q := x_get hf hd rfl rfl (Nat.le_of_ble_eq_true rfl) kk
theorem p_X_fault {v : Int32} (hf : xFL y.1.cls idx 11 13) (hd : decode y.2.1 pc = .ok (.putfield idx, 3)) (kk : X G y d B (pc + 3) ls st (MM ad nb b r (xu I 11 0 13 v) L) Q) : X G y d B pc ls (.int v :: .ref (ad 11 0) :: st) (MM ad nb b r I L) Q := x_putI hf hd rfl rfl rfl (Nat.le_of_ble_eq_true rfl) kk
theorem g_X_faultAt (hf : xFL y.1.cls idx 11 14) (hd : decode y.2.1 pc = .ok (.getfield idx, 3)) (kk : X G y d B (pc + 3) ls (.int (I 11 0 14) :: st) (MM ad nb b r I L) Q) : X G y d B pc ls (.ref (ad 11 0) :: st) (MM ad nb b r I L) Q := x_get hf hd rfl rfl (Nat.le_of_ble_eq_true rfl) kk
theorem p_X_faultAt {v : Int32} (hf : xFL y.1.cls idx 11 14) (hd : decode y.2.1 pc = .ok (.putfield idx, 3)) (kk : X G y d B (pc + 3) ls st (MM ad nb b r (xu I 11 0 14 v) L) Q) : X G y d B pc ls (.int v :: .ref (ad 11 0) :: st) (MM ad nb b r I L) Q := x_putI hf hd rfl rfl rfl (Nat.le_of_ble_eq_true rfl) kk
theorem g_MB_wind (hf : xFL y.1.cls idx 12 0) (hd : decode y.2.1 pc = .ok (.getfield idx, 3)) (hi : i < nb) (kk : X G y d B (pc + 3) ls (.int (I 12 i 0) :: st) (MM ad nb b r I L) Q) : X G y d B pc ls (.ref (ad 12 i) :: st) (MM ad nb b r I L) Q := x_get hf hd rfl rfl hi kk
theorem p_MB_wind {v : Int32} (hf : xFL y.1.cls idx 12 0) (hd : decode y.2.1 pc = .ok (.putfield idx, 3)) (hi : i < nb) (kk : X G y d B (pc + 3) ls st (MM ad nb b r (xu I 12 i 0 v) L) Q) : X G y d B pc ls (.int v :: .ref (ad 12 i) :: st) (MM ad nb b r I L) Q := x_putI hf hd rfl rfl rfl hi kk
theorem g_MB_lands (hf : xFL y.1.cls idx 12 1) (hd : decode y.2.1 pc = .ok (.getfield idx, 3)) (hi : i < nb) (kk : X G y d B (pc + 3) ls (.int (I 12 i 1) :: st) (MM ad nb b r I L) Q) : X G y d B pc ls (.ref (ad 12 i) :: st) (MM ad nb b r I L) Q := x_get hf hd rfl rfl hi kk
theorem p_MB_lands {v : Int32} (hf : xFL y.1.cls idx 12 1) (hd : decode y.2.1 pc = .ok (.putfield idx, 3)) (hi : i < nb) (kk : X G y d B (pc + 3) ls st (MM ad nb b r (xu I 12 i 1 v) L) Q) : X G y d B pc ls (.int v :: .ref (ad 12 i) :: st) (MM ad nb b r I L) Q := x_putI hf hd rfl rfl rfl hi kk
theorem g_MB_smells (hf : xFL y.1.cls idx 12 2) (hd : decode y.2.1 pc = .ok (.getfield idx, 3)) (hi : i < nb) (kk : X G y d B (pc + 3) ls (.int (I 12 i 2) :: st) (MM ad nb b r I L) Q) : X G y d B pc ls (.ref (ad 12 i) :: st) (MM ad nb b r I L) Q := x_get hf hd rfl rfl hi kk
theorem p_MB_smells {v : Int32} (hf : xFL y.1.cls idx 12 2) (hd : decode y.2.1 pc = .ok (.putfield idx, 3)) (hi : i < nb) (kk : X G y d B (pc + 3) ls st (MM ad nb b r (xu I 12 i 2 v) L) Q) : X G y d B pc ls (.int v :: .ref (ad 12 i) :: st) (MM ad nb b r I L) Q := x_putI hf hd rfl rfl rfl hi kk
theorem g_MB_noses (hf : xFL y.1.cls idx 12 3) (hd : decode y.2.1 pc = .ok (.getfield idx, 3)) (hi : i < nb) (kk : X G y d B (pc + 3) ls (.int (I 12 i 3) :: st) (MM ad nb b r I L) Q) : X G y d B pc ls (.ref (ad 12 i) :: st) (MM ad nb b r I L) Q := x_get hf hd rfl rfl hi kk
theorem p_MB_noses {v : Int32} (hf : xFL y.1.cls idx 12 3) (hd : decode y.2.1 pc = .ok (.putfield idx, 3)) (hi : i < nb) (kk : X G y d B (pc + 3) ls st (MM ad nb b r (xu I 12 i 3 v) L) Q) : X G y d B pc ls (.int v :: .ref (ad 12 i) :: st) (MM ad nb b r I L) Q := x_putI hf hd rfl rfl rfl hi kk
theorem g_MB_places (hf : xFL y.1.cls idx 12 4) (hd : decode y.2.1 pc = .ok (.getfield idx, 3)) (hi : i < nb) (kk : X G y d B (pc + 3) ls (.int (I 12 i 4) :: st) (MM ad nb b r I L) Q) : X G y d B pc ls (.ref (ad 12 i) :: st) (MM ad nb b r I L) Q := x_get hf hd rfl rfl hi kk
theorem p_MB_places {v : Int32} (hf : xFL y.1.cls idx 12 4) (hd : decode y.2.1 pc = .ok (.putfield idx, 3)) (hi : i < nb) (kk : X G y d B (pc + 3) ls st (MM ad nb b r (xu I 12 i 4 v) L) Q) : X G y d B pc ls (.int v :: .ref (ad 12 i) :: st) (MM ad nb b r I L) Q := x_putI hf hd rfl rfl rfl hi kk
theorem g_MB_paths (hf : xFL y.1.cls idx 12 5) (hd : decode y.2.1 pc = .ok (.getfield idx, 3)) (hi : i < nb) (kk : X G y d B (pc + 3) ls (.int (I 12 i 5) :: st) (MM ad nb b r I L) Q) : X G y d B pc ls (.ref (ad 12 i) :: st) (MM ad nb b r I L) Q := x_get hf hd rfl rfl hi kk
theorem p_MB_paths {v : Int32} (hf : xFL y.1.cls idx 12 5) (hd : decode y.2.1 pc = .ok (.putfield idx, 3)) (hi : i < nb) (kk : X G y d B (pc + 3) ls st (MM ad nb b r (xu I 12 i 5 v) L) Q) : X G y d B pc ls (.int v :: .ref (ad 12 i) :: st) (MM ad nb b r I L) Q := x_putI hf hd rfl rfl rfl hi kk
theorem g_MB_left (hf : xFL y.1.cls idx 12 6) (hd : decode y.2.1 pc = .ok (.getfield idx, 3)) (hi : i < nb) (kk : X G y d B (pc + 3) ls (.int (I 12 i 6) :: st) (MM ad nb b r I L) Q) : X G y d B pc ls (.ref (ad 12 i) :: st) (MM ad nb b r I L) Q := x_get hf hd rfl rfl hi kk
theorem p_MB_left {v : Int32} (hf : xFL y.1.cls idx 12 6) (hd : decode y.2.1 pc = .ok (.putfield idx, 3)) (hi : i < nb) (kk : X G y d B (pc + 3) ls st (MM ad nb b r (xu I 12 i 6 v) L) Q) : X G y d B pc ls (.int v :: .ref (ad 12 i) :: st) (MM ad nb b r I L) Q := x_putI hf hd rfl rfl rfl hi kk
theorem g_MB_travellers (hf : xFL y.1.cls idx 12 7) (hd : decode y.2.1 pc = .ok (.getfield idx, 3)) (hi : i < nb) (kk : X G y d B (pc + 3) ls (.int (I 12 i 7) :: st) (MM ad nb b r I L) Q) : X G y d B pc ls (.ref (ad 12 i) :: st) (MM ad nb b r I L) Q := x_get hf hd rfl rfl hi kk
theorem p_MB_travellers {v : Int32} (hf : xFL y.1.cls idx 12 7) (hd : decode y.2.1 pc = .ok (.putfield idx, 3)) (hi : i < nb) (kk : X G y d B (pc + 3) ls st (MM ad nb b r (xu I 12 i 7 v) L) Q) : X G y d B pc ls (.int v :: .ref (ad 12 i) :: st) (MM ad nb b r I L) Q := x_putI hf hd rfl rfl rfl hi kk
theorem g_MB_ons (hf : xFL y.1.cls idx 12 8) (hd : decode y.2.1 pc = .ok (.getfield idx, 3)) (hi : i < nb) (kk : X G y d B (pc + 3) ls (.int (I 12 i 8) :: st) (MM ad nb b r I L) Q) : X G y d B pc ls (.ref (ad 12 i) :: st) (MM ad nb b r I L) Q := x_get hf hd rfl rfl hi kk
theorem p_MB_ons {v : Int32} (hf : xFL y.1.cls idx 12 8) (hd : decode y.2.1 pc = .ok (.putfield idx, 3)) (hi : i < nb) (kk : X G y d B (pc + 3) ls st (MM ad nb b r (xu I 12 i 8 v) L) Q) : X G y d B pc ls (.int v :: .ref (ad 12 i) :: st) (MM ad nb b r I L) Q := x_putI hf hd rfl rfl rfl hi kk
theorem g_MB_walks (hf : xFL y.1.cls idx 12 9) (hd : decode y.2.1 pc = .ok (.getfield idx, 3)) (hi : i < nb) (kk : X G y d B (pc + 3) ls (.int (I 12 i 9) :: st) (MM ad nb b r I L) Q) : X G y d B pc ls (.ref (ad 12 i) :: st) (MM ad nb b r I L) Q := x_get hf hd rfl rfl hi kk
theorem p_MB_walks {v : Int32} (hf : xFL y.1.cls idx 12 9) (hd : decode y.2.1 pc = .ok (.putfield idx, 3)) (hi : i < nb) (kk : X G y d B (pc + 3) ls st (MM ad nb b r (xu I 12 i 9 v) L) Q) : X G y d B pc ls (.int v :: .ref (ad 12 i) :: st) (MM ad nb b r I L) Q := x_putI hf hd rfl rfl rfl hi kk
theorem g_MB_asks (hf : xFL y.1.cls idx 12 10) (hd : decode y.2.1 pc = .ok (.getfield idx, 3)) (hi : i < nb) (kk : X G y d B (pc + 3) ls (.int (I 12 i 10) :: st) (MM ad nb b r I L) Q) : X G y d B pc ls (.ref (ad 12 i) :: st) (MM ad nb b r I L) Q := x_get hf hd rfl rfl hi kk
theorem p_MB_asks {v : Int32} (hf : xFL y.1.cls idx 12 10) (hd : decode y.2.1 pc = .ok (.putfield idx, 3)) (hi : i < nb) (kk : X G y d B (pc + 3) ls st (MM ad nb b r (xu I 12 i 10 v) L) Q) : X G y d B pc ls (.int v :: .ref (ad 12 i) :: st) (MM ad nb b r I L) Q := x_putI hf hd rfl rfl rfl hi kk
theorem g_MB_whiffs (hf : xFL y.1.cls idx 12 11) (hd : decode y.2.1 pc = .ok (.getfield idx, 3)) (hi : i < nb) (kk : X G y d B (pc + 3) ls (.int (I 12 i 11) :: st) (MM ad nb b r I L) Q) : X G y d B pc ls (.ref (ad 12 i) :: st) (MM ad nb b r I L) Q := x_get hf hd rfl rfl hi kk
theorem p_MB_whiffs {v : Int32} (hf : xFL y.1.cls idx 12 11) (hd : decode y.2.1 pc = .ok (.putfield idx, 3)) (hi : i < nb) (kk : X G y d B (pc + 3) ls st (MM ad nb b r (xu I 12 i 11 v) L) Q) : X G y d B pc ls (.int v :: .ref (ad 12 i) :: st) (MM ad nb b r I L) Q := x_putI hf hd rfl rfl rfl hi kk
theorem g_MB_names (hf : xFL y.1.cls idx 12 12) (hd : decode y.2.1 pc = .ok (.getfield idx, 3)) (hi : i < nb) (kk : X G y d B (pc + 3) ls (.int (I 12 i 12) :: st) (MM ad nb b r I L) Q) : X G y d B pc ls (.ref (ad 12 i) :: st) (MM ad nb b r I L) Q := x_get hf hd rfl rfl hi kk
theorem p_MB_names {v : Int32} (hf : xFL y.1.cls idx 12 12) (hd : decode y.2.1 pc = .ok (.putfield idx, 3)) (hi : i < nb) (kk : X G y d B (pc + 3) ls st (MM ad nb b r (xu I 12 i 12 v) L) Q) : X G y d B pc ls (.int v :: .ref (ad 12 i) :: st) (MM ad nb b r I L) Q := x_putI hf hd rfl rfl rfl hi kk
theorem g_MB_duty (hf : xFL y.1.cls idx 12 13) (hd : decode y.2.1 pc = .ok (.getfield idx, 3)) (hi : i < nb) (kk : X G y d B (pc + 3) ls (.ref (ad 64 i) :: st) (MM ad nb b r I L) Q) : X G y d B pc ls (.ref (ad 12 i) :: st) (MM ad nb b r I L) Q := x_get hf hd rfl rfl hi kk
theorem g_MB_kind (hf : xFL y.1.cls idx 12 14) (hd : decode y.2.1 pc = .ok (.getfield idx, 3)) (hi : i < nb) (kk : X G y d B (pc + 3) ls (.ref (ad 65 i) :: st) (MM ad nb b r I L) Q) : X G y d B pc ls (.ref (ad 12 i) :: st) (MM ad nb b r I L) Q := x_get hf hd rfl rfl hi kk
theorem g_MB_from (hf : xFL y.1.cls idx 12 15) (hd : decode y.2.1 pc = .ok (.getfield idx, 3)) (hi : i < nb) (kk : X G y d B (pc + 3) ls (.ref (ad 66 i) :: st) (MM ad nb b r I L) Q) : X G y d B pc ls (.ref (ad 12 i) :: st) (MM ad nb b r I L) Q := x_get hf hd rfl rfl hi kk
theorem g_MB_skill (hf : xFL y.1.cls idx 12 16) (hd : decode y.2.1 pc = .ok (.getfield idx, 3)) (hi : i < nb) (kk : X G y d B (pc + 3) ls (.ref (ad 67 i) :: st) (MM ad nb b r I L) Q) : X G y d B pc ls (.ref (ad 12 i) :: st) (MM ad nb b r I L) Q := x_get hf hd rfl rfl hi kk
theorem g_MB_landOf (hf : xFL y.1.cls idx 12 17) (hd : decode y.2.1 pc = .ok (.getfield idx, 3)) (hi : i < nb) (kk : X G y d B (pc + 3) ls (.ref (ad 68 i) :: st) (MM ad nb b r I L) Q) : X G y d B pc ls (.ref (ad 12 i) :: st) (MM ad nb b r I L) Q := x_get hf hd rfl rfl hi kk
theorem g_MB_noseOf (hf : xFL y.1.cls idx 12 18) (hd : decode y.2.1 pc = .ok (.getfield idx, 3)) (hi : i < nb) (kk : X G y d B (pc + 3) ls (.ref (ad 69 i) :: st) (MM ad nb b r I L) Q) : X G y d B pc ls (.ref (ad 12 i) :: st) (MM ad nb b r I L) Q := x_get hf hd rfl rfl hi kk
theorem g_MB_hours (hf : xFL y.1.cls idx 12 19) (hd : decode y.2.1 pc = .ok (.getfield idx, 3)) (hi : i < nb) (kk : X G y d B (pc + 3) ls (.ref (ad 70 i) :: st) (MM ad nb b r I L) Q) : X G y d B pc ls (.ref (ad 12 i) :: st) (MM ad nb b r I L) Q := x_get hf hd rfl rfl hi kk
theorem g_MB_leaves (hf : xFL y.1.cls idx 12 20) (hd : decode y.2.1 pc = .ok (.getfield idx, 3)) (hi : i < nb) (kk : X G y d B (pc + 3) ls (.ref (ad 71 i) :: st) (MM ad nb b r I L) Q) : X G y d B pc ls (.ref (ad 12 i) :: st) (MM ad nb b r I L) Q := x_get hf hd rfl rfl hi kk
theorem g_MB_sortOf (hf : xFL y.1.cls idx 12 21) (hd : decode y.2.1 pc = .ok (.getfield idx, 3)) (hi : i < nb) (kk : X G y d B (pc + 3) ls (.ref (ad 72 i) :: st) (MM ad nb b r I L) Q) : X G y d B pc ls (.ref (ad 12 i) :: st) (MM ad nb b r I L) Q := x_get hf hd rfl rfl hi kk
theorem g_MB_home (hf : xFL y.1.cls idx 12 22) (hd : decode y.2.1 pc = .ok (.getfield idx, 3)) (hi : i < nb) (kk : X G y d B (pc + 3) ls (.ref (ad 73 i) :: st) (MM ad nb b r I L) Q) : X G y d B pc ls (.ref (ad 12 i) :: st) (MM ad nb b r I L) Q := x_get hf hd rfl rfl hi kk
theorem g_MB_at (hf : xFL y.1.cls idx 12 23) (hd : decode y.2.1 pc = .ok (.getfield idx, 3)) (hi : i < nb) (kk : X G y d B (pc + 3) ls (.ref (ad 74 i) :: st) (MM ad nb b r I L) Q) : X G y d B pc ls (.ref (ad 12 i) :: st) (MM ad nb b r I L) Q := x_get hf hd rfl rfl hi kk
theorem g_MB_on (hf : xFL y.1.cls idx 12 24) (hd : decode y.2.1 pc = .ok (.getfield idx, 3)) (hi : i < nb) (kk : X G y d B (pc + 3) ls (.ref (ad 75 i) :: st) (MM ad nb b r I L) Q) : X G y d B pc ls (.ref (ad 12 i) :: st) (MM ad nb b r I L) Q := x_get hf hd rfl rfl hi kk
theorem g_MB_walkSize (hf : xFL y.1.cls idx 12 25) (hd : decode y.2.1 pc = .ok (.getfield idx, 3)) (hi : i < nb) (kk : X G y d B (pc + 3) ls (.ref (ad 76 i) :: st) (MM ad nb b r I L) Q) : X G y d B pc ls (.ref (ad 12 i) :: st) (MM ad nb b r I L) Q := x_get hf hd rfl rfl hi kk
theorem g_MB_walk (hf : xFL y.1.cls idx 12 26) (hd : decode y.2.1 pc = .ok (.getfield idx, 3)) (hi : i < nb) (kk : X G y d B (pc + 3) ls (.ref (ad 77 i) :: st) (MM ad nb b r I L) Q) : X G y d B pc ls (.ref (ad 12 i) :: st) (MM ad nb b r I L) Q := x_get hf hd rfl rfl hi kk
theorem g_MB_askedOf (hf : xFL y.1.cls idx 12 27) (hd : decode y.2.1 pc = .ok (.getfield idx, 3)) (hi : i < nb) (kk : X G y d B (pc + 3) ls (.ref (ad 78 i) :: st) (MM ad nb b r I L) Q) : X G y d B pc ls (.ref (ad 12 i) :: st) (MM ad nb b r I L) Q := x_get hf hd rfl rfl hi kk
theorem g_MB_askedMuch (hf : xFL y.1.cls idx 12 28) (hd : decode y.2.1 pc = .ok (.getfield idx, 3)) (hi : i < nb) (kk : X G y d B (pc + 3) ls (.ref (ad 79 i) :: st) (MM ad nb b r I L) Q) : X G y d B pc ls (.ref (ad 12 i) :: st) (MM ad nb b r I L) Q := x_get hf hd rfl rfl hi kk
theorem g_MB_whiff (hf : xFL y.1.cls idx 12 29) (hd : decode y.2.1 pc = .ok (.getfield idx, 3)) (hi : i < nb) (kk : X G y d B (pc + 3) ls (.ref (ad 80 i) :: st) (MM ad nb b r I L) Q) : X G y d B pc ls (.ref (ad 12 i) :: st) (MM ad nb b r I L) Q := x_get hf hd rfl rfl hi kk
theorem g_MB_name (hf : xFL y.1.cls idx 12 30) (hd : decode y.2.1 pc = .ok (.getfield idx, 3)) (hi : i < nb) (kk : X G y d B (pc + 3) ls (.ref (ad 81 i) :: st) (MM ad nb b r I L) Q) : X G y d B pc ls (.ref (ad 12 i) :: st) (MM ad nb b r I L) Q := x_get hf hd rfl rfl hi kk
theorem g_MB_nameSort (hf : xFL y.1.cls idx 12 31) (hd : decode y.2.1 pc = .ok (.getfield idx, 3)) (hi : i < nb) (kk : X G y d B (pc + 3) ls (.ref (ad 82 i) :: st) (MM ad nb b r I L) Q) : X G y d B pc ls (.ref (ad 12 i) :: st) (MM ad nb b r I L) Q := x_get hf hd rfl rfl hi kk
theorem g_MB_numberOf (hf : xFL y.1.cls idx 12 32) (hd : decode y.2.1 pc = .ok (.getfield idx, 3)) (hi : i < nb) (kk : X G y d B (pc + 3) ls (.ref (ad 83 i) :: st) (MM ad nb b r I L) Q) : X G y d B pc ls (.ref (ad 12 i) :: st) (MM ad nb b r I L) Q := x_get hf hd rfl rfl hi kk
theorem g_M_thrown (hf : xFL y.1.cls idx 13 0) (hd : decode y.2.1 pc = .ok (.getfield idx, 3)) (kk : X G y d B (pc + 3) ls (.int (I 13 0 0) :: st) (MM ad nb b r I L) Q) : X G y d B pc ls (.ref (ad 13 0) :: st) (MM ad nb b r I L) Q := x_get hf hd rfl rfl (Nat.le_of_ble_eq_true rfl) kk
theorem p_M_thrown {v : Int32} (hf : xFL y.1.cls idx 13 0) (hd : decode y.2.1 pc = .ok (.putfield idx, 3)) (kk : X G y d B (pc + 3) ls st (MM ad nb b r (xu I 13 0 0 v) L) Q) : X G y d B pc ls (.int v :: .ref (ad 13 0) :: st) (MM ad nb b r I L) Q := x_putI hf hd rfl rfl rfl (Nat.le_of_ble_eq_true rfl) kk
theorem g_M_trouble (hf : xFL y.1.cls idx 13 1) (hd : decode y.2.1 pc = .ok (.getfield idx, 3)) (kk : X G y d B (pc + 3) ls (.int (I 13 0 1) :: st) (MM ad nb b r I L) Q) : X G y d B pc ls (.ref (ad 13 0) :: st) (MM ad nb b r I L) Q := x_get hf hd rfl rfl (Nat.le_of_ble_eq_true rfl) kk
theorem p_M_trouble {v : Int32} (hf : xFL y.1.cls idx 13 1) (hd : decode y.2.1 pc = .ok (.putfield idx, 3)) (kk : X G y d B (pc + 3) ls st (MM ad nb b r (xu I 13 0 1 v) L) Q) : X G y d B pc ls (.int v :: .ref (ad 13 0) :: st) (MM ad nb b r I L) Q := x_putI hf hd rfl rfl rfl (Nat.le_of_ble_eq_true rfl) kk
theorem g_M_where (hf : xFL y.1.cls idx 13 2) (hd : decode y.2.1 pc = .ok (.getfield idx, 3)) (kk : X G y d B (pc + 3) ls (.int (I 13 0 2) :: st) (MM ad nb b r I L) Q) : X G y d B pc ls (.ref (ad 13 0) :: st) (MM ad nb b r I L) Q := x_get hf hd rfl rfl (Nat.le_of_ble_eq_true rfl) kk
theorem p_M_where {v : Int32} (hf : xFL y.1.cls idx 13 2) (hd : decode y.2.1 pc = .ok (.putfield idx, 3)) (kk : X G y d B (pc + 3) ls st (MM ad nb b r (xu I 13 0 2 v) L) Q) : X G y d B pc ls (.int v :: .ref (ad 13 0) :: st) (MM ad nb b r I L) Q := x_putI hf hd rfl rfl rfl (Nat.le_of_ble_eq_true rfl) kk
theorem g_M_border {n : Nat} (hn : b = some n) (hf : xFL y.1.cls idx 13 3) (hd : decode y.2.1 pc = .ok (.getfield idx, 3)) (kk : X G y d B (pc + 3) ls (.ref (ad 12 n) :: st) (MM ad nb b r I L) Q) : X G y d B pc ls (.ref (ad 13 0) :: st) (MM ad nb b r I L) Q := by subst hn; exact x_get hf hd rfl rfl (Nat.le_of_ble_eq_true rfl) kk
theorem g_M_borderN (hn : b = none) (hf : xFL y.1.cls idx 13 3) (hd : decode y.2.1 pc = .ok (.getfield idx, 3)) (kk : X G y d B (pc + 3) ls (.null :: st) (MM ad nb b r I L) Q) : X G y d B pc ls (.ref (ad 13 0) :: st) (MM ad nb b r I L) Q := by subst hn; exact x_get hf hd rfl rfl (Nat.le_of_ble_eq_true rfl) kk
theorem g_M_read {n : Nat} (hn : r = some n) (hf : xFL y.1.cls idx 13 4) (hd : decode y.2.1 pc = .ok (.getfield idx, 3)) (kk : X G y d B (pc + 3) ls (.ref (ad 12 n) :: st) (MM ad nb b r I L) Q) : X G y d B pc ls (.ref (ad 13 0) :: st) (MM ad nb b r I L) Q := by subst hn; exact x_get hf hd rfl rfl (Nat.le_of_ble_eq_true rfl) kk
theorem g_M_readN (hn : r = none) (hf : xFL y.1.cls idx 13 4) (hd : decode y.2.1 pc = .ok (.getfield idx, 3)) (kk : X G y d B (pc + 3) ls (.null :: st) (MM ad nb b r I L) Q) : X G y d B pc ls (.ref (ad 13 0) :: st) (MM ad nb b r I L) Q := by subst hn; exact x_get hf hd rfl rfl (Nat.le_of_ble_eq_true rfl) kk
theorem g_M_tape (hf : xFL y.1.cls idx 13 5) (hd : decode y.2.1 pc = .ok (.getfield idx, 3)) (kk : X G y d B (pc + 3) ls (.ref (ad 84 0) :: st) (MM ad nb b r I L) Q) : X G y d B pc ls (.ref (ad 13 0) :: st) (MM ad nb b r I L) Q := x_get hf hd rfl rfl (Nat.le_of_ble_eq_true rfl) kk
theorem g_M_taped (hf : xFL y.1.cls idx 13 6) (hd : decode y.2.1 pc = .ok (.getfield idx, 3)) (kk : X G y d B (pc + 3) ls (.int (I 13 0 6) :: st) (MM ad nb b r I L) Q) : X G y d B pc ls (.ref (ad 13 0) :: st) (MM ad nb b r I L) Q := x_get hf hd rfl rfl (Nat.le_of_ble_eq_true rfl) kk
theorem p_M_taped {v : Int32} (hf : xFL y.1.cls idx 13 6) (hd : decode y.2.1 pc = .ok (.putfield idx, 3)) (kk : X G y d B (pc + 3) ls st (MM ad nb b r (xu I 13 0 6 v) L) Q) : X G y d B pc ls (.int v :: .ref (ad 13 0) :: st) (MM ad nb b r I L) Q := x_putI hf hd rfl rfl rfl (Nat.le_of_ble_eq_true rfl) kk
theorem g_M_size (hf : xFL y.1.cls idx 13 7) (hd : decode y.2.1 pc = .ok (.getfield idx, 3)) (kk : X G y d B (pc + 3) ls (.int (I 13 0 7) :: st) (MM ad nb b r I L) Q) : X G y d B pc ls (.ref (ad 13 0) :: st) (MM ad nb b r I L) Q := x_get hf hd rfl rfl (Nat.le_of_ble_eq_true rfl) kk
theorem p_M_size {v : Int32} (hf : xFL y.1.cls idx 13 7) (hd : decode y.2.1 pc = .ok (.putfield idx, 3)) (kk : X G y d B (pc + 3) ls st (MM ad nb b r (xu I 13 0 7 v) L) Q) : X G y d B pc ls (.int v :: .ref (ad 13 0) :: st) (MM ad nb b r I L) Q := x_putI hf hd rfl rfl rfl (Nat.le_of_ble_eq_true rfl) kk
theorem g_M_spot (hf : xFL y.1.cls idx 13 8) (hd : decode y.2.1 pc = .ok (.getfield idx, 3)) (kk : X G y d B (pc + 3) ls (.int (I 13 0 8) :: st) (MM ad nb b r I L) Q) : X G y d B pc ls (.ref (ad 13 0) :: st) (MM ad nb b r I L) Q := x_get hf hd rfl rfl (Nat.le_of_ble_eq_true rfl) kk
theorem p_M_spot {v : Int32} (hf : xFL y.1.cls idx 13 8) (hd : decode y.2.1 pc = .ok (.putfield idx, 3)) (kk : X G y d B (pc + 3) ls st (MM ad nb b r (xu I 13 0 8 v) L) Q) : X G y d B pc ls (.int v :: .ref (ad 13 0) :: st) (MM ad nb b r I L) Q := x_putI hf hd rfl rfl rfl (Nat.le_of_ble_eq_true rfl) kk
theorem g_M_sort (hf : xFL y.1.cls idx 13 9) (hd : decode y.2.1 pc = .ok (.getfield idx, 3)) (kk : X G y d B (pc + 3) ls (.int (I 13 0 9) :: st) (MM ad nb b r I L) Q) : X G y d B pc ls (.ref (ad 13 0) :: st) (MM ad nb b r I L) Q := x_get hf hd rfl rfl (Nat.le_of_ble_eq_true rfl) kk
theorem p_M_sort {v : Int32} (hf : xFL y.1.cls idx 13 9) (hd : decode y.2.1 pc = .ok (.putfield idx, 3)) (kk : X G y d B (pc + 3) ls st (MM ad nb b r (xu I 13 0 9 v) L) Q) : X G y d B pc ls (.int v :: .ref (ad 13 0) :: st) (MM ad nb b r I L) Q := x_putI hf hd rfl rfl rfl (Nat.le_of_ble_eq_true rfl) kk
theorem g_M_place (hf : xFL y.1.cls idx 13 10) (hd : decode y.2.1 pc = .ok (.getfield idx, 3)) (kk : X G y d B (pc + 3) ls (.int (I 13 0 10) :: st) (MM ad nb b r I L) Q) : X G y d B pc ls (.ref (ad 13 0) :: st) (MM ad nb b r I L) Q := x_get hf hd rfl rfl (Nat.le_of_ble_eq_true rfl) kk
theorem p_M_place {v : Int32} (hf : xFL y.1.cls idx 13 10) (hd : decode y.2.1 pc = .ok (.putfield idx, 3)) (kk : X G y d B (pc + 3) ls st (MM ad nb b r (xu I 13 0 10 v) L) Q) : X G y d B pc ls (.int v :: .ref (ad 13 0) :: st) (MM ad nb b r I L) Q := x_putI hf hd rfl rfl rfl (Nat.le_of_ble_eq_true rfl) kk
theorem g_M_sign (hf : xFL y.1.cls idx 13 11) (hd : decode y.2.1 pc = .ok (.getfield idx, 3)) (kk : X G y d B (pc + 3) ls (.int (I 13 0 11) :: st) (MM ad nb b r I L) Q) : X G y d B pc ls (.ref (ad 13 0) :: st) (MM ad nb b r I L) Q := x_get hf hd rfl rfl (Nat.le_of_ble_eq_true rfl) kk
theorem p_M_sign {v : Int32} (hf : xFL y.1.cls idx 13 11) (hd : decode y.2.1 pc = .ok (.putfield idx, 3)) (kk : X G y d B (pc + 3) ls st (MM ad nb b r (xu I 13 0 11 v) L) Q) : X G y d B pc ls (.int v :: .ref (ad 13 0) :: st) (MM ad nb b r I L) Q := x_putI hf hd rfl rfl rfl (Nat.le_of_ble_eq_true rfl) kk
theorem g_M_number (hf : xFL y.1.cls idx 13 12) (hd : decode y.2.1 pc = .ok (.getfield idx, 3)) (kk : X G y d B (pc + 3) ls (.int (I 13 0 12) :: st) (MM ad nb b r I L) Q) : X G y d B pc ls (.ref (ad 13 0) :: st) (MM ad nb b r I L) Q := x_get hf hd rfl rfl (Nat.le_of_ble_eq_true rfl) kk
theorem p_M_number {v : Int32} (hf : xFL y.1.cls idx 13 12) (hd : decode y.2.1 pc = .ok (.putfield idx, 3)) (kk : X G y d B (pc + 3) ls st (MM ad nb b r (xu I 13 0 12 v) L) Q) : X G y d B pc ls (.int v :: .ref (ad 13 0) :: st) (MM ad nb b r I L) Q := x_putI hf hd rfl rfl rfl (Nat.le_of_ble_eq_true rfl) kk
theorem g_M_fault (hf : xFL y.1.cls idx 13 13) (hd : decode y.2.1 pc = .ok (.getfield idx, 3)) (kk : X G y d B (pc + 3) ls (.int (I 13 0 13) :: st) (MM ad nb b r I L) Q) : X G y d B pc ls (.ref (ad 13 0) :: st) (MM ad nb b r I L) Q := x_get hf hd rfl rfl (Nat.le_of_ble_eq_true rfl) kk
theorem p_M_fault {v : Int32} (hf : xFL y.1.cls idx 13 13) (hd : decode y.2.1 pc = .ok (.putfield idx, 3)) (kk : X G y d B (pc + 3) ls st (MM ad nb b r (xu I 13 0 13 v) L) Q) : X G y d B pc ls (.int v :: .ref (ad 13 0) :: st) (MM ad nb b r I L) Q := x_putI hf hd rfl rfl rfl (Nat.le_of_ble_eq_true rfl) kk
theorem g_M_wrongAt (hf : xFL y.1.cls idx 13 14) (hd : decode y.2.1 pc = .ok (.getfield idx, 3)) (kk : X G y d B (pc + 3) ls (.int (I 13 0 14) :: st) (MM ad nb b r I L) Q) : X G y d B pc ls (.ref (ad 13 0) :: st) (MM ad nb b r I L) Q := x_get hf hd rfl rfl (Nat.le_of_ble_eq_true rfl) kk
theorem p_M_wrongAt {v : Int32} (hf : xFL y.1.cls idx 13 14) (hd : decode y.2.1 pc = .ok (.putfield idx, 3)) (kk : X G y d B (pc + 3) ls st (MM ad nb b r (xu I 13 0 14 v) L) Q) : X G y d B pc ls (.int v :: .ref (ad 13 0) :: st) (MM ad nb b r I L) Q := x_putI hf hd rfl rfl rfl (Nat.le_of_ble_eq_true rfl) kk
theorem g_M_word (hf : xFL y.1.cls idx 13 15) (hd : decode y.2.1 pc = .ok (.getfield idx, 3)) (kk : X G y d B (pc + 3) ls (.long (L 13 0 15) :: st) (MM ad nb b r I L) Q) : X G y d B pc ls (.ref (ad 13 0) :: st) (MM ad nb b r I L) Q := x_get hf hd rfl rfl (Nat.le_of_ble_eq_true rfl) kk
theorem p_M_word {v : Int64} (hf : xFL y.1.cls idx 13 15) (hd : decode y.2.1 pc = .ok (.putfield idx, 3)) (kk : X G y d B (pc + 3) ls st (MM ad nb b r I (xu L 13 0 15 v)) Q) : X G y d B pc ls (.long v :: .ref (ad 13 0) :: st) (MM ad nb b r I L) Q := x_putL hf hd rfl rfl rfl (Nat.le_of_ble_eq_true rfl) kk
theorem g_M_v (hf : xFL y.1.cls idx 13 16) (hd : decode y.2.1 pc = .ok (.getfield idx, 3)) (kk : X G y d B (pc + 3) ls (.ref (ad 85 0) :: st) (MM ad nb b r I L) Q) : X G y d B pc ls (.ref (ad 13 0) :: st) (MM ad nb b r I L) Q := x_get hf hd rfl rfl (Nat.le_of_ble_eq_true rfl) kk
theorem g_M_past (hf : xFL y.1.cls idx 13 17) (hd : decode y.2.1 pc = .ok (.getfield idx, 3)) (kk : X G y d B (pc + 3) ls (.ref (ad 86 0) :: st) (MM ad nb b r I L) Q) : X G y d B pc ls (.ref (ad 13 0) :: st) (MM ad nb b r I L) Q := x_get hf hd rfl rfl (Nat.le_of_ble_eq_true rfl) kk
theorem g_M_kept (hf : xFL y.1.cls idx 13 18) (hd : decode y.2.1 pc = .ok (.getfield idx, 3)) (kk : X G y d B (pc + 3) ls (.ref (ad 87 0) :: st) (MM ad nb b r I L) Q) : X G y d B pc ls (.ref (ad 13 0) :: st) (MM ad nb b r I L) Q := x_get hf hd rfl rfl (Nat.le_of_ble_eq_true rfl) kk
theorem g_M_acts (hf : xFL y.1.cls idx 13 19) (hd : decode y.2.1 pc = .ok (.getfield idx, 3)) (kk : X G y d B (pc + 3) ls (.int (I 13 0 19) :: st) (MM ad nb b r I L) Q) : X G y d B pc ls (.ref (ad 13 0) :: st) (MM ad nb b r I L) Q := x_get hf hd rfl rfl (Nat.le_of_ble_eq_true rfl) kk
theorem p_M_acts {v : Int32} (hf : xFL y.1.cls idx 13 19) (hd : decode y.2.1 pc = .ok (.putfield idx, 3)) (kk : X G y d B (pc + 3) ls st (MM ad nb b r (xu I 13 0 19 v) L) Q) : X G y d B pc ls (.int v :: .ref (ad 13 0) :: st) (MM ad nb b r I L) Q := x_putI hf hd rfl rfl rfl (Nat.le_of_ble_eq_true rfl) kk
theorem g_M_marks (hf : xFL y.1.cls idx 13 20) (hd : decode y.2.1 pc = .ok (.getfield idx, 3)) (kk : X G y d B (pc + 3) ls (.int (I 13 0 20) :: st) (MM ad nb b r I L) Q) : X G y d B pc ls (.ref (ad 13 0) :: st) (MM ad nb b r I L) Q := x_get hf hd rfl rfl (Nat.le_of_ble_eq_true rfl) kk
theorem p_M_marks {v : Int32} (hf : xFL y.1.cls idx 13 20) (hd : decode y.2.1 pc = .ok (.putfield idx, 3)) (kk : X G y d B (pc + 3) ls st (MM ad nb b r (xu I 13 0 20 v) L) Q) : X G y d B pc ls (.int v :: .ref (ad 13 0) :: st) (MM ad nb b r I L) Q := x_putI hf hd rfl rfl rfl (Nat.le_of_ble_eq_true rfl) kk
theorem g_M_x (hf : xFL y.1.cls idx 13 21) (hd : decode y.2.1 pc = .ok (.getfield idx, 3)) (kk : X G y d B (pc + 3) ls (.ref (ad 88 0) :: st) (MM ad nb b r I L) Q) : X G y d B pc ls (.ref (ad 13 0) :: st) (MM ad nb b r I L) Q := x_get hf hd rfl rfl (Nat.le_of_ble_eq_true rfl) kk
theorem g_M_post (hf : xFL y.1.cls idx 13 22) (hd : decode y.2.1 pc = .ok (.getfield idx, 3)) (kk : X G y d B (pc + 3) ls (.ref (ad 89 0) :: st) (MM ad nb b r I L) Q) : X G y d B pc ls (.ref (ad 13 0) :: st) (MM ad nb b r I L) Q := x_get hf hd rfl rfl (Nat.le_of_ble_eq_true rfl) kk
theorem g_M_claims (hf : xFL y.1.cls idx 13 23) (hd : decode y.2.1 pc = .ok (.getfield idx, 3)) (kk : X G y d B (pc + 3) ls (.ref (ad 90 0) :: st) (MM ad nb b r I L) Q) : X G y d B pc ls (.ref (ad 13 0) :: st) (MM ad nb b r I L) Q := x_get hf hd rfl rfl (Nat.le_of_ble_eq_true rfl) kk
theorem g_M_stopDuty (hf : xFL y.1.cls idx 13 24) (hd : decode y.2.1 pc = .ok (.getfield idx, 3)) (kk : X G y d B (pc + 3) ls (.ref (ad 91 0) :: st) (MM ad nb b r I L) Q) : X G y d B pc ls (.ref (ad 13 0) :: st) (MM ad nb b r I L) Q := x_get hf hd rfl rfl (Nat.le_of_ble_eq_true rfl) kk
theorem g_M_way (hf : xFL y.1.cls idx 13 25) (hd : decode y.2.1 pc = .ok (.getfield idx, 3)) (kk : X G y d B (pc + 3) ls (.ref (ad 92 0) :: st) (MM ad nb b r I L) Q) : X G y d B pc ls (.ref (ad 13 0) :: st) (MM ad nb b r I L) Q := x_get hf hd rfl rfl (Nat.le_of_ble_eq_true rfl) kk
theorem g_M_best (hf : xFL y.1.cls idx 13 26) (hd : decode y.2.1 pc = .ok (.getfield idx, 3)) (kk : X G y d B (pc + 3) ls (.ref (ad 93 0) :: st) (MM ad nb b r I L) Q) : X G y d B pc ls (.ref (ad 13 0) :: st) (MM ad nb b r I L) Q := x_get hf hd rfl rfl (Nat.le_of_ble_eq_true rfl) kk
theorem g_M_bestSize (hf : xFL y.1.cls idx 13 27) (hd : decode y.2.1 pc = .ok (.getfield idx, 3)) (kk : X G y d B (pc + 3) ls (.ref (ad 94 0) :: st) (MM ad nb b r I L) Q) : X G y d B pc ls (.ref (ad 13 0) :: st) (MM ad nb b r I L) Q := x_get hf hd rfl rfl (Nat.le_of_ble_eq_true rfl) kk
theorem g_M_bestHours (hf : xFL y.1.cls idx 13 28) (hd : decode y.2.1 pc = .ok (.getfield idx, 3)) (kk : X G y d B (pc + 3) ls (.ref (ad 95 0) :: st) (MM ad nb b r I L) Q) : X G y d B pc ls (.ref (ad 13 0) :: st) (MM ad nb b r I L) Q := x_get hf hd rfl rfl (Nat.le_of_ble_eq_true rfl) kk
theorem g_M_bestDuty (hf : xFL y.1.cls idx 13 29) (hd : decode y.2.1 pc = .ok (.getfield idx, 3)) (kk : X G y d B (pc + 3) ls (.ref (ad 96 0) :: st) (MM ad nb b r I L) Q) : X G y d B pc ls (.ref (ad 13 0) :: st) (MM ad nb b r I L) Q := x_get hf hd rfl rfl (Nat.le_of_ble_eq_true rfl) kk
theorem g_M_gameDuty (hf : xFL y.1.cls idx 13 30) (hd : decode y.2.1 pc = .ok (.getfield idx, 3)) (kk : X G y d B (pc + 3) ls (.ref (ad 97 0) :: st) (MM ad nb b r I L) Q) : X G y d B pc ls (.ref (ad 13 0) :: st) (MM ad nb b r I L) Q := x_get hf hd rfl rfl (Nat.le_of_ble_eq_true rfl) kk
theorem g_M_ways (hf : xFL y.1.cls idx 13 31) (hd : decode y.2.1 pc = .ok (.getfield idx, 3)) (kk : X G y d B (pc + 3) ls (.int (I 13 0 31) :: st) (MM ad nb b r I L) Q) : X G y d B pc ls (.ref (ad 13 0) :: st) (MM ad nb b r I L) Q := x_get hf hd rfl rfl (Nat.le_of_ble_eq_true rfl) kk
theorem p_M_ways {v : Int32} (hf : xFL y.1.cls idx 13 31) (hd : decode y.2.1 pc = .ok (.putfield idx, 3)) (kk : X G y d B (pc + 3) ls st (MM ad nb b r (xu I 13 0 31 v) L) Q) : X G y d B pc ls (.int v :: .ref (ad 13 0) :: st) (MM ad nb b r I L) Q := x_putI hf hd rfl rfl rfl (Nat.le_of_ble_eq_true rfl) kk
theorem g_M_row (hf : xFL y.1.cls idx 13 32) (hd : decode y.2.1 pc = .ok (.getfield idx, 3)) (kk : X G y d B (pc + 3) ls (.ref (ad 98 0) :: st) (MM ad nb b r I L) Q) : X G y d B pc ls (.ref (ad 13 0) :: st) (MM ad nb b r I L) Q := x_get hf hd rfl rfl (Nat.le_of_ble_eq_true rfl) kk
theorem g_M_firstRow (hf : xFL y.1.cls idx 13 33) (hd : decode y.2.1 pc = .ok (.getfield idx, 3)) (kk : X G y d B (pc + 3) ls (.ref (ad 99 0) :: st) (MM ad nb b r I L) Q) : X G y d B pc ls (.ref (ad 13 0) :: st) (MM ad nb b r I L) Q := x_get hf hd rfl rfl (Nat.le_of_ble_eq_true rfl) kk
theorem g_M_rows (hf : xFL y.1.cls idx 13 34) (hd : decode y.2.1 pc = .ok (.getfield idx, 3)) (kk : X G y d B (pc + 3) ls (.int (I 13 0 34) :: st) (MM ad nb b r I L) Q) : X G y d B pc ls (.ref (ad 13 0) :: st) (MM ad nb b r I L) Q := x_get hf hd rfl rfl (Nat.le_of_ble_eq_true rfl) kk
theorem p_M_rows {v : Int32} (hf : xFL y.1.cls idx 13 34) (hd : decode y.2.1 pc = .ok (.putfield idx, 3)) (kk : X G y d B (pc + 3) ls st (MM ad nb b r (xu I 13 0 34 v) L) Q) : X G y d B pc ls (.int v :: .ref (ad 13 0) :: st) (MM ad nb b r I L) Q := x_putI hf hd rfl rfl rfl (Nat.le_of_ble_eq_true rfl) kk
theorem g_M_some (hf : xFL y.1.cls idx 13 35) (hd : decode y.2.1 pc = .ok (.getfield idx, 3)) (kk : X G y d B (pc + 3) ls (.int (I 13 0 35) :: st) (MM ad nb b r I L) Q) : X G y d B pc ls (.ref (ad 13 0) :: st) (MM ad nb b r I L) Q := x_get hf hd rfl rfl (Nat.le_of_ble_eq_true rfl) kk
theorem p_M_some {v : Int32} (hf : xFL y.1.cls idx 13 35) (hd : decode y.2.1 pc = .ok (.putfield idx, 3)) (kk : X G y d B (pc + 3) ls st (MM ad nb b r (xu I 13 0 35 v) L) Q) : X G y d B pc ls (.int v :: .ref (ad 13 0) :: st) (MM ad nb b r I L) Q := x_putI hf hd rfl rfl rfl (Nat.le_of_ble_eq_true rfl) kk
theorem g_M_all (hf : xFL y.1.cls idx 13 36) (hd : decode y.2.1 pc = .ok (.getfield idx, 3)) (kk : X G y d B (pc + 3) ls (.int (I 13 0 36) :: st) (MM ad nb b r I L) Q) : X G y d B pc ls (.ref (ad 13 0) :: st) (MM ad nb b r I L) Q := x_get hf hd rfl rfl (Nat.le_of_ble_eq_true rfl) kk
theorem p_M_all {v : Int32} (hf : xFL y.1.cls idx 13 36) (hd : decode y.2.1 pc = .ok (.putfield idx, 3)) (kk : X G y d B (pc + 3) ls st (MM ad nb b r (xu I 13 0 36 v) L) Q) : X G y d B pc ls (.int v :: .ref (ad 13 0) :: st) (MM ad nb b r I L) Q := x_putI hf hd rfl rfl rfl (Nat.le_of_ble_eq_true rfl) kk
theorem g_M_firstSize (hf : xFL y.1.cls idx 13 37) (hd : decode y.2.1 pc = .ok (.getfield idx, 3)) (kk : X G y d B (pc + 3) ls (.int (I 13 0 37) :: st) (MM ad nb b r I L) Q) : X G y d B pc ls (.ref (ad 13 0) :: st) (MM ad nb b r I L) Q := x_get hf hd rfl rfl (Nat.le_of_ble_eq_true rfl) kk
theorem p_M_firstSize {v : Int32} (hf : xFL y.1.cls idx 13 37) (hd : decode y.2.1 pc = .ok (.putfield idx, 3)) (kk : X G y d B (pc + 3) ls st (MM ad nb b r (xu I 13 0 37 v) L) Q) : X G y d B pc ls (.int v :: .ref (ad 13 0) :: st) (MM ad nb b r I L) Q := x_putI hf hd rfl rfl rfl (Nat.le_of_ble_eq_true rfl) kk
theorem g_M_postPlace (hf : xFL y.1.cls idx 13 38) (hd : decode y.2.1 pc = .ok (.getfield idx, 3)) (kk : X G y d B (pc + 3) ls (.ref (ad 100 0) :: st) (MM ad nb b r I L) Q) : X G y d B pc ls (.ref (ad 13 0) :: st) (MM ad nb b r I L) Q := x_get hf hd rfl rfl (Nat.le_of_ble_eq_true rfl) kk
theorem g_M_nose (hf : xFL y.1.cls idx 13 39) (hd : decode y.2.1 pc = .ok (.getfield idx, 3)) (kk : X G y d B (pc + 3) ls (.ref (ad 101 0) :: st) (MM ad nb b r I L) Q) : X G y d B pc ls (.ref (ad 13 0) :: st) (MM ad nb b r I L) Q := x_get hf hd rfl rfl (Nat.le_of_ble_eq_true rfl) kk
theorem g_M_bestNose (hf : xFL y.1.cls idx 13 40) (hd : decode y.2.1 pc = .ok (.getfield idx, 3)) (kk : X G y d B (pc + 3) ls (.ref (ad 102 0) :: st) (MM ad nb b r I L) Q) : X G y d B pc ls (.ref (ad 13 0) :: st) (MM ad nb b r I L) Q := x_get hf hd rfl rfl (Nat.le_of_ble_eq_true rfl) kk
theorem g_M_manned (hf : xFL y.1.cls idx 13 41) (hd : decode y.2.1 pc = .ok (.getfield idx, 3)) (kk : X G y d B (pc + 3) ls (.int (I 13 0 41) :: st) (MM ad nb b r I L) Q) : X G y d B pc ls (.ref (ad 13 0) :: st) (MM ad nb b r I L) Q := x_get hf hd rfl rfl (Nat.le_of_ble_eq_true rfl) kk
theorem p_M_manned {v : Int32} (hf : xFL y.1.cls idx 13 41) (hd : decode y.2.1 pc = .ok (.putfield idx, 3)) (kk : X G y d B (pc + 3) ls st (MM ad nb b r (xu I 13 0 41 v) L) Q) : X G y d B pc ls (.int v :: .ref (ad 13 0) :: st) (MM ad nb b r I L) Q := x_putI hf hd rfl rfl rfl (Nat.le_of_ble_eq_true rfl) kk

theorem RR_b (ad : Nat → Nat → Nat) (b r : Option Nat) (n : Nat) : xu (RR ad b r) 13 0 3 (some (ad 12 n)) = RR ad (some n) r := by
  funext s i k
  by_cases h : s = 13 ∧ i = 0 ∧ k = 3
  · obtain ⟨rfl, rfl, rfl⟩ := h
    rw [xu_s]
    rfl
  · rw [xu_n h]
    by_cases hs : s = 13
    · subst hs
      by_cases hk : k = 3
      · subst hk
        have hi : ¬ i = 0 := fun e => h ⟨rfl, e, rfl⟩
        show (if i = 0 then _ else _) = (if i = 0 then _ else _)
        rw [if_neg hi, if_neg hi]
      · match k, hk with
        | 0, _ => rfl
        | 1, _ => rfl
        | 2, _ => rfl
        | 4, _ => rfl
        | 5, _ => rfl
        | 6, _ => rfl
        | 7, _ => rfl
        | 8, _ => rfl
        | 9, _ => rfl
        | 10, _ => rfl
        | 11, _ => rfl
        | 12, _ => rfl
        | 13, _ => rfl
        | 14, _ => rfl
        | 15, _ => rfl
        | 16, _ => rfl
        | 17, _ => rfl
        | 18, _ => rfl
        | 19, _ => rfl
        | 20, _ => rfl
        | 21, _ => rfl
        | 22, _ => rfl
        | 23, _ => rfl
        | 24, _ => rfl
        | 25, _ => rfl
        | 26, _ => rfl
        | 27, _ => rfl
        | 28, _ => rfl
        | 29, _ => rfl
        | 30, _ => rfl
        | 31, _ => rfl
        | 32, _ => rfl
        | 33, _ => rfl
        | 34, _ => rfl
        | 35, _ => rfl
        | 36, _ => rfl
        | 37, _ => rfl
        | 38, _ => rfl
        | 39, _ => rfl
        | 40, _ => rfl
        | k + 41, _ => rfl
    · unfold RR
      have : ∀ (q : Nat), q ≠ 13 → (RRL ad b r).getD q (fun _ _ => none) = (RRL ad (some n) r).getD q (fun _ _ => none) := by
        intro q hq
        match q, hq with
        | 0, _ => rfl
        | 1, _ => rfl
        | 2, _ => rfl
        | 3, _ => rfl
        | 4, _ => rfl
        | 5, _ => rfl
        | 6, _ => rfl
        | 7, _ => rfl
        | 8, _ => rfl
        | 9, _ => rfl
        | 10, _ => rfl
        | 11, _ => rfl
        | 12, _ => rfl
        | q + 14, _ => rfl
      rw [this s hs]
theorem RR_r (ad : Nat → Nat → Nat) (b r : Option Nat) (n : Nat) : xu (RR ad b r) 13 0 4 (some (ad 12 n)) = RR ad b (some n) := by
  funext s i k
  by_cases h : s = 13 ∧ i = 0 ∧ k = 4
  · obtain ⟨rfl, rfl, rfl⟩ := h
    rw [xu_s]
    rfl
  · rw [xu_n h]
    by_cases hs : s = 13
    · subst hs
      by_cases hk : k = 4
      · subst hk
        have hi : ¬ i = 0 := fun e => h ⟨rfl, e, rfl⟩
        show (if i = 0 then _ else _) = (if i = 0 then _ else _)
        rw [if_neg hi, if_neg hi]
      · match k, hk with
        | 0, _ => rfl
        | 1, _ => rfl
        | 2, _ => rfl
        | 3, _ => rfl
        | 5, _ => rfl
        | 6, _ => rfl
        | 7, _ => rfl
        | 8, _ => rfl
        | 9, _ => rfl
        | 10, _ => rfl
        | 11, _ => rfl
        | 12, _ => rfl
        | 13, _ => rfl
        | 14, _ => rfl
        | 15, _ => rfl
        | 16, _ => rfl
        | 17, _ => rfl
        | 18, _ => rfl
        | 19, _ => rfl
        | 20, _ => rfl
        | 21, _ => rfl
        | 22, _ => rfl
        | 23, _ => rfl
        | 24, _ => rfl
        | 25, _ => rfl
        | 26, _ => rfl
        | 27, _ => rfl
        | 28, _ => rfl
        | 29, _ => rfl
        | 30, _ => rfl
        | 31, _ => rfl
        | 32, _ => rfl
        | 33, _ => rfl
        | 34, _ => rfl
        | 35, _ => rfl
        | 36, _ => rfl
        | 37, _ => rfl
        | 38, _ => rfl
        | 39, _ => rfl
        | 40, _ => rfl
        | k + 41, _ => rfl
    · unfold RR
      have : ∀ (q : Nat), q ≠ 13 → (RRL ad b r).getD q (fun _ _ => none) = (RRL ad b (some n)).getD q (fun _ _ => none) := by
        intro q hq
        match q, hq with
        | 0, _ => rfl
        | 1, _ => rfl
        | 2, _ => rfl
        | 3, _ => rfl
        | 4, _ => rfl
        | 5, _ => rfl
        | 6, _ => rfl
        | 7, _ => rfl
        | 8, _ => rfl
        | 9, _ => rfl
        | 10, _ => rfl
        | 11, _ => rfl
        | 12, _ => rfl
        | q + 14, _ => rfl
      rw [this s hs]
theorem p_M_border {n : Nat} (hf : xFL y.1.cls idx 13 3) (hd : decode y.2.1 pc = .ok (.putfield idx, 3)) (kk : X G y d B (pc + 3) ls st (MM ad nb (some n) r I L) Q) : X G y d B pc ls (.ref (ad 12 n) :: .ref (ad 13 0) :: st) (MM ad nb b r I L) Q := by
  refine x_putR (v := some (ad 12 n)) hf hd rfl rfl rfl (Nat.le_of_ble_eq_true rfl) ?_
  rw [RR_b]
  exact kk
theorem p_M_read {n : Nat} (hf : xFL y.1.cls idx 13 4) (hd : decode y.2.1 pc = .ok (.putfield idx, 3)) (kk : X G y d B (pc + 3) ls st (MM ad nb b (some n) I L) Q) : X G y d B pc ls (.ref (ad 12 n) :: .ref (ad 13 0) :: st) (MM ad nb b r I L) Q := by
  refine x_putR (v := some (ad 12 n)) hf hd rfl rfl rfl (Nat.le_of_ble_eq_true rfl) ?_
  rw [RR_r]
  exact kk

theorem aa_Border_hours0 {j : Nat} {z : Int32} (hd : decode y.2.1 pc = .ok (.aaload, 1)) (hz : z = nI j) (hj : j < 6) (kk : X G y d B (pc + 1) ls (.ref (ad 31 j) :: st) (MM ad nb b r I L) Q) : X G y d B pc ls (.int z :: .ref (ad 30 0) :: st) (MM ad nb b r I L) Q := by
  refine x_aald hd hz rfl (Or.inr rfl) (Nat.le_of_ble_eq_true rfl) hj ?_
  have e : RR ad b r 30 0 j = some (ad 31 j) := if_pos hj
  rw [e]
  exact kk
theorem aa_Border_hours1 {j : Nat} {z : Int32} (hd : decode y.2.1 pc = .ok (.aaload, 1)) (hz : z = nI j) (hj : j < 6) (kk : X G y d B (pc + 1) ls (.ref (ad 31 (j + 6)) :: st) (MM ad nb b r I L) Q) : X G y d B pc ls (.int z :: .ref (ad 30 1) :: st) (MM ad nb b r I L) Q := by
  refine x_aald hd hz rfl (Or.inr rfl) (Nat.le_of_ble_eq_true rfl) hj ?_
  have e : RR ad b r 30 1 j = some (ad 31 (j + 6)) := if_pos hj
  rw [e]
  exact kk
theorem aa_Border_leaves0 {j : Nat} {z : Int32} (hd : decode y.2.1 pc = .ok (.aaload, 1)) (hz : z = nI j) (hj : j < 6) (kk : X G y d B (pc + 1) ls (.ref (ad 33 j) :: st) (MM ad nb b r I L) Q) : X G y d B pc ls (.int z :: .ref (ad 32 0) :: st) (MM ad nb b r I L) Q := by
  refine x_aald hd hz rfl (Or.inr rfl) (Nat.le_of_ble_eq_true rfl) hj ?_
  have e : RR ad b r 32 0 j = some (ad 33 j) := if_pos hj
  rw [e]
  exact kk
theorem aa_Border_leaves1 {j : Nat} {z : Int32} (hd : decode y.2.1 pc = .ok (.aaload, 1)) (hz : z = nI j) (hj : j < 6) (kk : X G y d B (pc + 1) ls (.ref (ad 33 (j + 6)) :: st) (MM ad nb b r I L) Q) : X G y d B pc ls (.int z :: .ref (ad 32 1) :: st) (MM ad nb b r I L) Q := by
  refine x_aald hd hz rfl (Or.inr rfl) (Nat.le_of_ble_eq_true rfl) hj ?_
  have e : RR ad b r 32 1 j = some (ad 33 (j + 6)) := if_pos hj
  rw [e]
  exact kk
theorem aa_Border_on0 {j : Nat} {z : Int32} (hd : decode y.2.1 pc = .ok (.aaload, 1)) (hz : z = nI j) (hj : j < 4) (kk : X G y d B (pc + 1) ls (.ref (ad 35 j) :: st) (MM ad nb b r I L) Q) : X G y d B pc ls (.int z :: .ref (ad 34 0) :: st) (MM ad nb b r I L) Q := by
  refine x_aald hd hz rfl (Or.inr rfl) (Nat.le_of_ble_eq_true rfl) hj ?_
  have e : RR ad b r 34 0 j = some (ad 35 j) := if_pos hj
  rw [e]
  exact kk
theorem aa_Border_on1 {j : Nat} {z : Int32} (hd : decode y.2.1 pc = .ok (.aaload, 1)) (hz : z = nI j) (hj : j < 4) (kk : X G y d B (pc + 1) ls (.ref (ad 35 (j + 4)) :: st) (MM ad nb b r I L) Q) : X G y d B pc ls (.int z :: .ref (ad 34 1) :: st) (MM ad nb b r I L) Q := by
  refine x_aald hd hz rfl (Or.inr rfl) (Nat.le_of_ble_eq_true rfl) hj ?_
  have e : RR ad b r 34 1 j = some (ad 35 (j + 4)) := if_pos hj
  rw [e]
  exact kk
theorem aa_Border_walk0 {j : Nat} {z : Int32} (hd : decode y.2.1 pc = .ok (.aaload, 1)) (hz : z = nI j) (hj : j < 4) (kk : X G y d B (pc + 1) ls (.ref (ad 37 j) :: st) (MM ad nb b r I L) Q) : X G y d B pc ls (.int z :: .ref (ad 36 0) :: st) (MM ad nb b r I L) Q := by
  refine x_aald hd hz rfl (Or.inr rfl) (Nat.le_of_ble_eq_true rfl) hj ?_
  have e : RR ad b r 36 0 j = some (ad 37 j) := if_pos hj
  rw [e]
  exact kk
theorem aa_Border_walk1 {j : Nat} {z : Int32} (hd : decode y.2.1 pc = .ok (.aaload, 1)) (hz : z = nI j) (hj : j < 4) (kk : X G y d B (pc + 1) ls (.ref (ad 37 (j + 4)) :: st) (MM ad nb b r I L) Q) : X G y d B pc ls (.int z :: .ref (ad 36 1) :: st) (MM ad nb b r I L) Q := by
  refine x_aald hd hz rfl (Or.inr rfl) (Nat.le_of_ble_eq_true rfl) hj ?_
  have e : RR ad b r 36 1 j = some (ad 37 (j + 4)) := if_pos hj
  rw [e]
  exact kk
theorem aa_Acts_now {j : Nat} {z : Int32} (hd : decode y.2.1 pc = .ok (.aaload, 1)) (hz : z = nI j) (hj : j < 4) (kk : X G y d B (pc + 1) ls (.ref (ad 4 j) :: st) (MM ad nb b r I L) Q) : X G y d B pc ls (.int z :: .ref (ad 44 0) :: st) (MM ad nb b r I L) Q := by
  refine x_aald hd hz rfl (Or.inl rfl) (Nat.le_of_ble_eq_true rfl) hj ?_
  have e : RR ad b r 44 0 j = some (ad 4 j) := if_pos hj
  rw [e]
  exact kk
theorem aa_Acts_before {j : Nat} {z : Int32} (hd : decode y.2.1 pc = .ok (.aaload, 1)) (hz : z = nI j) (hj : j < 16) (kk : X G y d B (pc + 1) ls (.ref (ad 4 (j + 4)) :: st) (MM ad nb b r I L) Q) : X G y d B pc ls (.int z :: .ref (ad 45 0) :: st) (MM ad nb b r I L) Q := by
  refine x_aald hd hz rfl (Or.inl rfl) (Nat.le_of_ble_eq_true rfl) hj ?_
  have e : RR ad b r 45 0 j = some (ad 4 (j + 4)) := if_pos hj
  rw [e]
  exact kk
theorem aa_Acts_marked {j : Nat} {z : Int32} (hd : decode y.2.1 pc = .ok (.aaload, 1)) (hz : z = nI j) (hj : j < 12) (kk : X G y d B (pc + 1) ls (.ref (ad 4 (j + 20)) :: st) (MM ad nb b r I L) Q) : X G y d B pc ls (.int z :: .ref (ad 46 0) :: st) (MM ad nb b r I L) Q := by
  refine x_aald hd hz rfl (Or.inl rfl) (Nat.le_of_ble_eq_true rfl) hj ?_
  have e : RR ad b r 46 0 j = some (ad 4 (j + 20)) := if_pos hj
  rw [e]
  exact kk
theorem aa_Ways_stops {j : Nat} {z : Int32} (hd : decode y.2.1 pc = .ok (.aaload, 1)) (hz : z = nI j) (hj : j < 65) (kk : X G y d B (pc + 1) ls (.ref (ad 50 j) :: st) (MM ad nb b r I L) Q) : X G y d B pc ls (.int z :: .ref (ad 49 0) :: st) (MM ad nb b r I L) Q := by
  refine x_aald hd hz rfl (Or.inr rfl) (Nat.le_of_ble_eq_true rfl) hj ?_
  have e : RR ad b r 49 0 j = some (ad 50 j) := if_pos hj
  rw [e]
  exact kk
theorem aa_Ways_arrivals {j : Nat} {z : Int32} (hd : decode y.2.1 pc = .ok (.aaload, 1)) (hz : z = nI j) (hj : j < 65) (kk : X G y d B (pc + 1) ls (.ref (ad 52 j) :: st) (MM ad nb b r I L) Q) : X G y d B pc ls (.int z :: .ref (ad 51 0) :: st) (MM ad nb b r I L) Q := by
  refine x_aald hd hz rfl (Or.inr rfl) (Nat.le_of_ble_eq_true rfl) hj ?_
  have e : RR ad b r 51 0 j = some (ad 52 j) := if_pos hj
  rw [e]
  exact kk
theorem aa_Trace_halves {j : Nat} {z : Int32} (hd : decode y.2.1 pc = .ok (.aaload, 1)) (hz : z = nI j) (hj : j < 4) (kk : X G y d B (pc + 1) ls (.ref (ad 59 j) :: st) (MM ad nb b r I L) Q) : X G y d B pc ls (.int z :: .ref (ad 58 0) :: st) (MM ad nb b r I L) Q := by
  refine x_aald hd hz rfl (Or.inr rfl) (Nat.le_of_ble_eq_true rfl) hj ?_
  have e : RR ad b r 58 0 j = some (ad 59 j) := if_pos hj
  rw [e]
  exact kk
theorem aa_Game_pays {j : Nat} {z : Int32} (hd : decode y.2.1 pc = .ok (.aaload, 1)) (hz : z = nI j) (hj : j < 65) (kk : X G y d B (pc + 1) ls (.ref (ad 63 j) :: st) (MM ad nb b r I L) Q) : X G y d B pc ls (.int z :: .ref (ad 62 0) :: st) (MM ad nb b r I L) Q := by
  refine x_aald hd hz rfl (Or.inr rfl) (Nat.le_of_ble_eq_true rfl) hj ?_
  have e : RR ad b r 62 0 j = some (ad 63 j) := if_pos hj
  rw [e]
  exact kk
end XF
