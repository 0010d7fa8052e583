section M57
variable {G : xG} {ad : Nat → Nat → Nat} {nb : Nat} {b r : Option Nat} {L : Nat → Nat → Nat → Int64} {V : sV} {I : Nat → Nat → Nat → Int32} {d : Nat}
theorem li_6 : Int32.ofInt (6) = nI 6 := by decide
set_option maxRecDepth 100000 in
set_option maxHeartbeats 4000000 in
theorem lw_loop (hL : scN G ≤ 3072) : ∀ (f k : Nat) (V : sV) (N : sN) (h : sH) (mk : List sN) (T : Nat → Nat) (n q fa w : Nat) (ad : Nat → Nat → Nat) (nb : Nat) (b r : Option Nat) (I : Nat → Nat → Nat → Int32) (L : Nat → Nat → Nat → Int64), scN G ≤ k + 6 * f + 5 → k ≤ 3078 → (scN G < 6 → k = 0) → IV V N h mk T n q fa w nb b r I → X G vL_law (d + 14) (22 * f, 400 * f) 23 [(0, some (.ref (scA G))), (1, some (.ref (ad 11 0))), (2, some (.ref (ad 13 0))), (3, some (.ref (ad 103 0))), (4, some (.int (nI k)))] [] (MM ad nb b r I L) (QZ G) := by
  intro f
  induction f with
  | zero =>
    intro k V N h mk T n q fa w ad nb b r I L hf hk h6 hI
    refine x_iload dL_law_23 rfl ?_
    refine x_aload_n dL_law_25 rfl ?_
    refine x_sclen dL_law_26 ?_
    refine x_bipush dL_law_27 lb_6 ?_
    refine x_isub dL_law_29 ?_
    refine x_ic_gt 1722 dL_law_30 (by decide) (fun h30 => ?_) (fun h30 => ?_)
    · refine x_iconst dL_law_1722 li_1 ?_
      exact x_lawret dL_law_1723
    · exact absurd ((lw_gt (by omega) hL h6).mpr (by omega)) h30
  | succ f ih =>
    intro k V N h mk T n q fa w ad nb b r I L hf hk h6 hI
    refine x_iload dL_law_23 rfl ?_
    refine x_aload_n dL_law_25 rfl ?_
    refine x_sclen dL_law_26 ?_
    refine x_bipush dL_law_27 lb_6 ?_
    refine x_isub dL_law_29 ?_
    refine x_ic_gt 1722 dL_law_30 (by decide) (fun h30 => ?_) (fun h30 => ?_)
    · refine x_iconst dL_law_1722 li_1 ?_
      exact x_lawret dL_law_1723
    · have hk6 : k + 6 ≤ scN G := by
        by_cases z : k + 6 ≤ scN G
        · exact z
        · exact absurd ((lw_gt (by omega) hL h6).mpr (by omega)) h30
      have K : LK G d f k (ad 11 0) (ad 13 0) (ad 103 0) := by
        intro V N h mk T n q fa w ad2 nb b r I L hI hA
        obtain ⟨e1, e2, e3⟩ := hA
        rw [← e1, ← e2, ← e3]
        refine x_iincN 6 dL_law_1716 li_6 rfl (by decide) rfl ?_
        refine x_goto 23 dL_law_1719 (by decide) ?_
        refine x_ls ?_ (ih (k + 6) V N h mk T n q fa w ad2 nb b r I L (by omega) (by omega) (fun z => absurd z (by omega)) hI)
        exact ⟨rfl, rfl, rfl, rfl, rfl, trivial⟩
      refine x_aload_n dL_law_33 rfl ?_
      refine x_iload dL_law_34 rfl ?_
      refine x_scrL dL_law_36 rfl ⟨by omega, hL⟩ ?_
      refine x_bipush dL_law_37 lb_63 ?_
      refine x_iand dL_law_39 ?_
      refine x_top (nI_and _ _) ?_
      have hv : G.2.2.2.2.1 (4 + k) &&& 63 < 64 := Nat.lt_of_le_of_lt Nat.and_le_right (by decide)
      generalize G.2.2.2.2.1 (4 + k) &&& 63 = v at hv ⊢
      rcases (show v = 0 ∨ v = 1 ∨ v = 2 ∨ v = 3 ∨ v = 4 ∨ v = 5 ∨ v = 6 ∨ v = 7 ∨ v = 8 ∨ v = 9 ∨ v = 10 ∨ v = 11 ∨ v = 12 ∨ v = 13 ∨ v = 14 ∨ v = 15 ∨ v = 16 ∨ v = 17 ∨ v = 18 ∨ v = 19 ∨ v = 20 ∨ v = 21 ∨ v = 22 ∨ v = 23 ∨ v = 24 ∨ v = 25 ∨ v = 26 ∨ v = 27 ∨ v = 28 ∨ v = 29 ∨ v = 30 ∨ v = 31 ∨ v = 32 ∨ v = 33 ∨ v = 34 ∨ v = 35 ∨ v = 36 ∨ v = 37 ∨ v = 38 ∨ v = 39 ∨ v = 40 ∨ v = 41 ∨ v = 42 ∨ v = 43 ∨ v = 44 ∨ 45 ≤ v by omega) with rfl | rfl | rfl | rfl | rfl | rfl | rfl | rfl | rfl | rfl | rfl | rfl | rfl | rfl | rfl | rfl | rfl | rfl | rfl | rfl | rfl | rfl | rfl | rfl | rfl | rfl | rfl | rfl | rfl | rfl | rfl | rfl | rfl | rfl | rfl | rfl | rfl | rfl | rfl | rfl | rfl | rfl | rfl | rfl | rfl | h45
      · refine x_tswIn 236 dL_law_40 (by decide) (by decide) rfl (by decide) ?_
        exact lc_236 hL hk6 hI K
      · refine x_tswIn 309 dL_law_40 (by decide) (by decide) rfl (by decide) ?_
        exact lc_309 hL hk6 hI K
      · refine x_tswIn 334 dL_law_40 (by decide) (by decide) rfl (by decide) ?_
        exact lc_334 hL hk6 hI K
      · refine x_tswIn 347 dL_law_40 (by decide) (by decide) rfl (by decide) ?_
        exact lc_347 hL hk6 hI K
      · refine x_tswIn 360 dL_law_40 (by decide) (by decide) rfl (by decide) ?_
        exact lc_360 hL hk6 hI K
      · refine x_tswIn 397 dL_law_40 (by decide) (by decide) rfl (by decide) ?_
        exact lc_397 hL hk6 hI K
      · refine x_tswIn 434 dL_law_40 (by decide) (by decide) rfl (by decide) ?_
        exact lc_434 hL hk6 hI K
      · refine x_tswIn 471 dL_law_40 (by decide) (by decide) rfl (by decide) ?_
        exact lc_471 hL hk6 hI K
      · refine x_tswIn 508 dL_law_40 (by decide) (by decide) rfl (by decide) ?_
        exact lc_508 hL hk6 hI K
      · refine x_tswIn 557 dL_law_40 (by decide) (by decide) rfl (by decide) ?_
        exact lc_557 hL hk6 hI K
      · refine x_tswIn 606 dL_law_40 (by decide) (by decide) rfl (by decide) ?_
        exact lc_606 hL hk6 hI K
      · refine x_tswIn 655 dL_law_40 (by decide) (by decide) rfl (by decide) ?_
        exact lc_655 hL hk6 hI K
      · refine x_tswIn 704 dL_law_40 (by decide) (by decide) rfl (by decide) ?_
        exact lc_704 hL hk6 hI K
      · refine x_tswIn 741 dL_law_40 (by decide) (by decide) rfl (by decide) ?_
        exact lc_741 hL hk6 hI K
      · refine x_tswIn 778 dL_law_40 (by decide) (by decide) rfl (by decide) ?_
        exact lc_778 hL hk6 hI K
      · refine x_tswIn 815 dL_law_40 (by decide) (by decide) rfl (by decide) ?_
        exact lc_815 hL hk6 hI K
      · refine x_tswIn 840 dL_law_40 (by decide) (by decide) rfl (by decide) ?_
        exact lc_840 hL hk6 hI K
      · refine x_tswIn 877 dL_law_40 (by decide) (by decide) rfl (by decide) ?_
        exact lc_877 hL hk6 hI K
      · refine x_tswIn 890 dL_law_40 (by decide) (by decide) rfl (by decide) ?_
        exact lc_890 hL hk6 hI K
      · refine x_tswIn 903 dL_law_40 (by decide) (by decide) rfl (by decide) ?_
        exact lc_903 hL hk6 hI K
      · refine x_tswIn 940 dL_law_40 (by decide) (by decide) rfl (by decide) ?_
        exact lc_940 hL hk6 hI K
      · refine x_tswIn 977 dL_law_40 (by decide) (by decide) rfl (by decide) ?_
        exact lc_977 hL hk6 hI K
      · refine x_tswIn 1014 dL_law_40 (by decide) (by decide) rfl (by decide) ?_
        exact lc_1014 hL hk6 hI K
      · refine x_tswIn 1075 dL_law_40 (by decide) (by decide) rfl (by decide) ?_
        exact lc_1075 hL hk6 hI K
      · refine x_tswIn 1088 dL_law_40 (by decide) (by decide) rfl (by decide) ?_
        exact lc_1088 hL hk6 hI K
      · refine x_tswIn 1137 dL_law_40 (by decide) (by decide) rfl (by decide) ?_
        exact lc_1137 hL hk6 hI K
      · refine x_tswIn 1150 dL_law_40 (by decide) (by decide) rfl (by decide) ?_
        exact lc_1150 hL hk6 hI K
      · refine x_tswIn 1163 dL_law_40 (by decide) (by decide) rfl (by decide) ?_
        exact lc_1163 hL hk6 hI K
      · refine x_tswIn 1176 dL_law_40 (by decide) (by decide) rfl (by decide) ?_
        exact lc_1176 hL hk6 hI K
      · refine x_tswIn 1201 dL_law_40 (by decide) (by decide) rfl (by decide) ?_
        exact lc_1201 hL hk6 hI K
      · refine x_tswIn 1214 dL_law_40 (by decide) (by decide) rfl (by decide) ?_
        exact lc_1214 hL hk6 hI K
      · refine x_tswIn 1239 dL_law_40 (by decide) (by decide) rfl (by decide) ?_
        exact lc_1239 hL hk6 hI K
      · refine x_tswIn 1276 dL_law_40 (by decide) (by decide) rfl (by decide) ?_
        exact lc_1276 hL hk6 hI K
      · refine x_tswIn 1313 dL_law_40 (by decide) (by decide) rfl (by decide) ?_
        exact lc_1313 hL hk6 hI K
      · refine x_tswIn 1362 dL_law_40 (by decide) (by decide) rfl (by decide) ?_
        exact lc_1362 hL hk6 hI K
      · refine x_tswIn 1423 dL_law_40 (by decide) (by decide) rfl (by decide) ?_
        exact lc_1423 hL hk6 hI K
      · refine x_tswIn 1460 dL_law_40 (by decide) (by decide) rfl (by decide) ?_
        exact lc_1460 hL hk6 hI K
      · refine x_tswIn 1497 dL_law_40 (by decide) (by decide) rfl (by decide) ?_
        exact lc_1497 hL hk6 hI K
      · refine x_tswIn 1546 dL_law_40 (by decide) (by decide) rfl (by decide) ?_
        exact lc_1546 hL hk6 hI K
      · refine x_tswIn 1571 dL_law_40 (by decide) (by decide) rfl (by decide) ?_
        exact lc_1571 hL hk6 hI K
      · refine x_tswIn 1584 dL_law_40 (by decide) (by decide) rfl (by decide) ?_
        exact lc_1584 hL hk6 hI K
      · refine x_tswIn 1597 dL_law_40 (by decide) (by decide) rfl (by decide) ?_
        exact lc_1597 hL hk6 hI K
      · refine x_tswIn 1622 dL_law_40 (by decide) (by decide) rfl (by decide) ?_
        exact lc_1622 hL hk6 hI K
      · refine x_tswIn 1678 dL_law_40 (by decide) (by decide) rfl (by decide) ?_
        exact lc_1678 hL hk6 hI K
      · refine x_tswIn 1703 dL_law_40 (by decide) (by decide) rfl (by decide) ?_
        exact lc_1703 hL hk6 hI K
      · refine x_tswOut 1716 dL_law_40 (Or.inr (by rw [nI_toInt (by omega)]; omega)) (by decide) ?_
        refine x_bud (B' := (22 * f, 400 * f)) (by show 22 * f ≤ 22 * (f + 1); omega) (by show 400 * f ≤ 400 * (f + 1); omega) ?_
        exact K V N h mk T n q fa w ad nb b r I L hI ⟨rfl, rfl, rfl⟩
theorem tg_hi : ∀ s i k, 65 ≤ k → tgR s i k = none
  | 0, i, k, h => by obtain ⟨j, rfl⟩ := Nat.le.dest h; rw [Nat.add_comm]; rfl
  | 1, i, k, h => by obtain ⟨j, rfl⟩ := Nat.le.dest h; rw [Nat.add_comm]; rfl
  | 2, i, k, h => by obtain ⟨j, rfl⟩ := Nat.le.dest h; rw [Nat.add_comm]; rfl
  | 3, i, k, h => by obtain ⟨j, rfl⟩ := Nat.le.dest h; rw [Nat.add_comm]; rfl
  | 4, i, k, h => by obtain ⟨j, rfl⟩ := Nat.le.dest h; rw [Nat.add_comm]; rfl
  | 5, i, k, h => by obtain ⟨j, rfl⟩ := Nat.le.dest h; rw [Nat.add_comm]; rfl
  | 6, i, k, h => by obtain ⟨j, rfl⟩ := Nat.le.dest h; rw [Nat.add_comm]; rfl
  | 7, i, k, h => by obtain ⟨j, rfl⟩ := Nat.le.dest h; rw [Nat.add_comm]; rfl
  | 8, i, k, h => by obtain ⟨j, rfl⟩ := Nat.le.dest h; rw [Nat.add_comm]; rfl
  | 9, i, k, h => by obtain ⟨j, rfl⟩ := Nat.le.dest h; rw [Nat.add_comm]; rfl
  | 10, i, k, h => by obtain ⟨j, rfl⟩ := Nat.le.dest h; rw [Nat.add_comm]; rfl
  | 11, i, k, h => by obtain ⟨j, rfl⟩ := Nat.le.dest h; rw [Nat.add_comm]; rfl
  | 12, i, k, h => by obtain ⟨j, rfl⟩ := Nat.le.dest h; rw [Nat.add_comm]; rfl
  | 13, i, k, h => by obtain ⟨j, rfl⟩ := Nat.le.dest h; rw [Nat.add_comm]; rfl
  | 14, i, k, h => rfl
  | 15, i, k, h => rfl
  | 16, i, k, h => rfl
  | 17, i, k, h => rfl
  | 18, i, k, h => rfl
  | 19, i, k, h => rfl
  | 20, i, k, h => rfl
  | 21, i, k, h => rfl
  | 22, i, k, h => rfl
  | 23, i, k, h => rfl
  | 24, i, k, h => rfl
  | 25, i, k, h => rfl
  | 26, i, k, h => rfl
  | 27, i, k, h => rfl
  | 28, i, k, h => rfl
  | 29, i, k, h => rfl
  | 30, i, k, h => by show (if _ then _ else _) = none; rw [if_neg (by omega)]
  | 31, i, k, h => rfl
  | 32, i, k, h => by show (if _ then _ else _) = none; rw [if_neg (by omega)]
  | 33, i, k, h => rfl
  | 34, i, k, h => by show (if _ then _ else _) = none; rw [if_neg (by omega)]
  | 35, i, k, h => rfl
  | 36, i, k, h => by show (if _ then _ else _) = none; rw [if_neg (by omega)]
  | 37, i, k, h => rfl
  | 38, i, k, h => rfl
  | 39, i, k, h => rfl
  | 40, i, k, h => rfl
  | 41, i, k, h => rfl
  | 42, i, k, h => rfl
  | 43, i, k, h => rfl
  | 44, i, k, h => by show (if _ then _ else _) = none; rw [if_neg (by omega)]
  | 45, i, k, h => by show (if _ then _ else _) = none; rw [if_neg (by omega)]
  | 46, i, k, h => by show (if _ then _ else _) = none; rw [if_neg (by omega)]
  | 47, i, k, h => rfl
  | 48, i, k, h => rfl
  | 49, i, k, h => by show (if _ then _ else _) = none; rw [if_neg (by omega)]
  | 50, i, k, h => rfl
  | 51, i, k, h => by show (if _ then _ else _) = none; rw [if_neg (by omega)]
  | 52, i, k, h => rfl
  | 53, i, k, h => rfl
  | 54, i, k, h => rfl
  | 55, i, k, h => rfl
  | 56, i, k, h => rfl
  | 57, i, k, h => rfl
  | 58, i, k, h => by show (if _ then _ else _) = none; rw [if_neg (by omega)]
  | 59, i, k, h => rfl
  | 60, i, k, h => rfl
  | 61, i, k, h => rfl
  | 62, i, k, h => by show (if _ then _ else _) = none; rw [if_neg (by omega)]
  | 63, i, k, h => rfl
  | 64, i, k, h => rfl
  | 65, i, k, h => rfl
  | 66, i, k, h => rfl
  | 67, i, k, h => rfl
  | 68, i, k, h => rfl
  | 69, i, k, h => rfl
  | 70, i, k, h => rfl
  | 71, i, k, h => rfl
  | 72, i, k, h => rfl
  | 73, i, k, h => rfl
  | 74, i, k, h => rfl
  | 75, i, k, h => rfl
  | 76, i, k, h => rfl
  | 77, i, k, h => rfl
  | 78, i, k, h => rfl
  | 79, i, k, h => rfl
  | 80, i, k, h => rfl
  | 81, i, k, h => rfl
  | 82, i, k, h => rfl
  | 83, i, k, h => rfl
  | 84, i, k, h => rfl
  | 85, i, k, h => rfl
  | 86, i, k, h => rfl
  | 87, i, k, h => rfl
  | 88, i, k, h => rfl
  | 89, i, k, h => rfl
  | 90, i, k, h => rfl
  | 91, i, k, h => rfl
  | 92, i, k, h => rfl
  | 93, i, k, h => rfl
  | 94, i, k, h => rfl
  | 95, i, k, h => rfl
  | 96, i, k, h => rfl
  | 97, i, k, h => rfl
  | 98, i, k, h => rfl
  | 99, i, k, h => rfl
  | 100, i, k, h => rfl
  | 101, i, k, h => rfl
  | 102, i, k, h => rfl
  | 103, i, k, h => rfl
  | s + 104, i, k, h => rfl
theorem RR_tg {ad : Nat → Nat → Nat} : ∀ s i k, RR ad none none s i k = (tgR s i k).map (fun q => ad q.1 q.2)
  | 0, i, 0 => rfl
  | 0, i, 1 => rfl
  | 0, i, 2 => rfl
  | 0, i, 3 => rfl
  | 0, i, 4 => rfl
  | 0, i, 5 => rfl
  | 0, i, 6 => rfl
  | 0, i, 7 => rfl
  | 0, i, k + 8 => rfl
  | 1, i, 0 => rfl
  | 1, i, 1 => rfl
  | 1, i, 2 => rfl
  | 1, i, k + 3 => rfl
  | 2, i, 0 => rfl
  | 2, i, 1 => rfl
  | 2, i, 2 => rfl
  | 2, i, 3 => rfl
  | 2, i, 4 => rfl
  | 2, i, 5 => rfl
  | 2, i, 6 => rfl
  | 2, i, 7 => rfl
  | 2, i, 8 => rfl
  | 2, i, 9 => rfl
  | 2, i, 10 => rfl
  | 2, i, 11 => rfl
  | 2, i, 12 => rfl
  | 2, i, 13 => rfl
  | 2, i, 14 => rfl
  | 2, i, 15 => rfl
  | 2, i, 16 => rfl
  | 2, i, 17 => rfl
  | 2, i, k + 18 => rfl
  | 3, i, 0 => rfl
  | 3, i, 1 => rfl
  | 3, i, 2 => rfl
  | 3, i, 3 => rfl
  | 3, i, 4 => rfl
  | 3, i, 5 => rfl
  | 3, i, k + 6 => rfl
  | 4, i, 0 => rfl
  | 4, i, 1 => rfl
  | 4, i, 2 => rfl
  | 4, i, 3 => rfl
  | 4, i, k + 4 => rfl
  | 5, i, 0 => rfl
  | 5, i, 1 => rfl
  | 5, i, 2 => rfl
  | 5, i, 3 => rfl
  | 5, i, 4 => rfl
  | 5, i, k + 5 => rfl
  | 6, i, 0 => rfl
  | 6, i, 1 => rfl
  | 6, i, 2 => rfl
  | 6, i, 3 => rfl
  | 6, i, 4 => rfl
  | 6, i, 5 => rfl
  | 6, i, 6 => rfl
  | 6, i, 7 => rfl
  | 6, i, 8 => rfl
  | 6, i, 9 => rfl
  | 6, i, k + 10 => rfl
  | 7, i, 0 => rfl
  | 7, i, 1 => rfl
  | 7, i, 2 => rfl
  | 7, i, 3 => rfl
  | 7, i, 4 => rfl
  | 7, i, 5 => rfl
  | 7, i, k + 6 => rfl
  | 8, i, 0 => rfl
  | 8, i, 1 => rfl
  | 8, i, 2 => rfl
  | 8, i, 3 => rfl
  | 8, i, 4 => rfl
  | 8, i, 5 => rfl
  | 8, i, 6 => rfl
  | 8, i, 7 => rfl
  | 8, i, 8 => rfl
  | 8, i, k + 9 => rfl
  | 9, i, 0 => rfl
  | 9, i, 1 => rfl
  | 9, i, 2 => rfl
  | 9, i, 3 => rfl
  | 9, i, 4 => rfl
  | 9, i, k + 5 => rfl
  | 10, i, 0 => rfl
  | 10, i, 1 => rfl
  | 10, i, 2 => rfl
  | 10, i, 3 => rfl
  | 10, i, 4 => rfl
  | 10, i, 5 => rfl
  | 10, i, 6 => rfl
  | 10, i, 7 => rfl
  | 10, i, 8 => rfl
  | 10, i, k + 9 => rfl
  | 11, i, 0 => rfl
  | 11, i, 1 => rfl
  | 11, i, 2 => rfl
  | 11, i, 3 => rfl
  | 11, i, 4 => rfl
  | 11, i, 5 => rfl
  | 11, i, 6 => rfl
  | 11, i, 7 => rfl
  | 11, i, 8 => rfl
  | 11, i, 9 => rfl
  | 11, i, 10 => rfl
  | 11, i, 11 => rfl
  | 11, i, 12 => rfl
  | 11, i, 13 => rfl
  | 11, i, 14 => rfl
  | 11, i, k + 15 => rfl
  | 12, i, 0 => rfl
  | 12, i, 1 => rfl
  | 12, i, 2 => rfl
  | 12, i, 3 => rfl
  | 12, i, 4 => rfl
  | 12, i, 5 => rfl
  | 12, i, 6 => rfl
  | 12, i, 7 => rfl
  | 12, i, 8 => rfl
  | 12, i, 9 => rfl
  | 12, i, 10 => rfl
  | 12, i, 11 => rfl
  | 12, i, 12 => rfl
  | 12, i, 13 => rfl
  | 12, i, 14 => rfl
  | 12, i, 15 => rfl
  | 12, i, 16 => rfl
  | 12, i, 17 => rfl
  | 12, i, 18 => rfl
  | 12, i, 19 => rfl
  | 12, i, 20 => rfl
  | 12, i, 21 => rfl
  | 12, i, 22 => rfl
  | 12, i, 23 => rfl
  | 12, i, 24 => rfl
  | 12, i, 25 => rfl
  | 12, i, 26 => rfl
  | 12, i, 27 => rfl
  | 12, i, 28 => rfl
  | 12, i, 29 => rfl
  | 12, i, 30 => rfl
  | 12, i, 31 => rfl
  | 12, i, 32 => rfl
  | 12, i, k + 33 => rfl
  | 13, i, 0 => rfl
  | 13, i, 1 => rfl
  | 13, i, 2 => rfl
  | 13, i, 3 => by show (if i = 0 then none else none) = none; split <;> rfl
  | 13, i, 4 => by show (if i = 0 then none else none) = none; split <;> rfl
  | 13, i, 5 => rfl
  | 13, i, 6 => rfl
  | 13, i, 7 => rfl
  | 13, i, 8 => rfl
  | 13, i, 9 => rfl
  | 13, i, 10 => rfl
  | 13, i, 11 => rfl
  | 13, i, 12 => rfl
  | 13, i, 13 => rfl
  | 13, i, 14 => rfl
  | 13, i, 15 => rfl
  | 13, i, 16 => rfl
  | 13, i, 17 => rfl
  | 13, i, 18 => rfl
  | 13, i, 19 => rfl
  | 13, i, 20 => rfl
  | 13, i, 21 => rfl
  | 13, i, 22 => rfl
  | 13, i, 23 => rfl
  | 13, i, 24 => rfl
  | 13, i, 25 => rfl
  | 13, i, 26 => rfl
  | 13, i, 27 => rfl
  | 13, i, 28 => rfl
  | 13, i, 29 => rfl
  | 13, i, 30 => rfl
  | 13, i, 31 => rfl
  | 13, i, 32 => rfl
  | 13, i, 33 => rfl
  | 13, i, 34 => rfl
  | 13, i, 35 => rfl
  | 13, i, 36 => rfl
  | 13, i, 37 => rfl
  | 13, i, 38 => rfl
  | 13, i, 39 => rfl
  | 13, i, 40 => rfl
  | 13, i, 41 => rfl
  | 13, i, k + 42 => rfl
  | 14, i, k => rfl
  | 15, i, k => rfl
  | 16, i, k => rfl
  | 17, i, k => rfl
  | 18, i, k => rfl
  | 19, i, k => rfl
  | 20, i, k => rfl
  | 21, i, k => rfl
  | 22, i, k => rfl
  | 23, i, k => rfl
  | 24, i, k => rfl
  | 25, i, k => rfl
  | 26, i, k => rfl
  | 27, i, k => rfl
  | 28, i, k => rfl
  | 29, i, k => rfl
  | 30, i, k => by show (if _ then _ else _) = Option.map _ (if _ then _ else _); split <;> rfl
  | 31, i, k => rfl
  | 32, i, k => by show (if _ then _ else _) = Option.map _ (if _ then _ else _); split <;> rfl
  | 33, i, k => rfl
  | 34, i, k => by show (if _ then _ else _) = Option.map _ (if _ then _ else _); split <;> rfl
  | 35, i, k => rfl
  | 36, i, k => by show (if _ then _ else _) = Option.map _ (if _ then _ else _); split <;> rfl
  | 37, i, k => rfl
  | 38, i, k => rfl
  | 39, i, k => rfl
  | 40, i, k => rfl
  | 41, i, k => rfl
  | 42, i, k => rfl
  | 43, i, k => rfl
  | 44, i, k => by show (if _ then _ else _) = Option.map _ (if _ then _ else _); split <;> rfl
  | 45, i, k => by show (if _ then _ else _) = Option.map _ (if _ then _ else _); split <;> rfl
  | 46, i, k => by show (if _ then _ else _) = Option.map _ (if _ then _ else _); split <;> rfl
  | 47, i, k => rfl
  | 48, i, k => rfl
  | 49, i, k => by show (if _ then _ else _) = Option.map _ (if _ then _ else _); split <;> rfl
  | 50, i, k => rfl
  | 51, i, k => by show (if _ then _ else _) = Option.map _ (if _ then _ else _); split <;> rfl
  | 52, i, k => rfl
  | 53, i, k => rfl
  | 54, i, k => rfl
  | 55, i, k => rfl
  | 56, i, k => rfl
  | 57, i, k => rfl
  | 58, i, k => by show (if _ then _ else _) = Option.map _ (if _ then _ else _); split <;> rfl
  | 59, i, k => rfl
  | 60, i, k => rfl
  | 61, i, k => rfl
  | 62, i, k => by show (if _ then _ else _) = Option.map _ (if _ then _ else _); split <;> rfl
  | 63, i, k => rfl
  | 64, i, k => rfl
  | 65, i, k => rfl
  | 66, i, k => rfl
  | 67, i, k => rfl
  | 68, i, k => rfl
  | 69, i, k => rfl
  | 70, i, k => rfl
  | 71, i, k => rfl
  | 72, i, k => rfl
  | 73, i, k => rfl
  | 74, i, k => rfl
  | 75, i, k => rfl
  | 76, i, k => rfl
  | 77, i, k => rfl
  | 78, i, k => rfl
  | 79, i, k => rfl
  | 80, i, k => rfl
  | 81, i, k => rfl
  | 82, i, k => rfl
  | 83, i, k => rfl
  | 84, i, k => rfl
  | 85, i, k => rfl
  | 86, i, k => rfl
  | 87, i, k => rfl
  | 88, i, k => rfl
  | 89, i, k => rfl
  | 90, i, k => rfl
  | 91, i, k => rfl
  | 92, i, k => rfl
  | 93, i, k => rfl
  | 94, i, k => rfl
  | 95, i, k => rfl
  | 96, i, k => rfl
  | 97, i, k => rfl
  | 98, i, k => rfl
  | 99, i, k => rfl
  | 100, i, k => rfl
  | 101, i, k => rfl
  | 102, i, k => rfl
  | 103, i, k => rfl
  | s + 104, i, k => rfl

theorem ev_sg : ∀ e ∈ evL, e.2.1 < 104 ∧ e.2.2.1 < 104 ∨ e.2.1 < 104 ∧ e.1 ≠ 2 := by decide +kernel
theorem sum0 {α : Type} : ∀ l : List α, (l.map (fun _ => (0 : Nat))).sum = 0
  | [] => rfl
  | _ :: l => by rw [List.map_cons, List.sum_cons, sum0 l]
theorem cn_fin : ∀ s, cnE 326 s = CC 0 s := by
  intro s
  by_cases h : s < 104
  · have key : ∀ s, s < 104 → cnE 326 s = CC 0 s := by decide +kernel
    exact key s h
  · obtain ⟨j, rfl⟩ := Nat.le.dest (Nat.le_of_not_lt h)
    have e1 : (evL.take 326).map (fun e => ecn e (104 + j)) = (evL.take 326).map (fun _ => 0) := List.map_congr_left (fun e he => by
      have := ev_sg e (List.mem_of_mem_take he)
      unfold ecn
      rw [if_neg (show ¬ e.2.1 = 104 + j by omega), if_neg (show ¬ e.2.1 = 104 + j by omega)]
      by_cases z : e.1 = 2
      · rw [if_neg (by omega), if_pos z, if_neg (by omega)]
      · rw [if_neg z]; split <;> rfl)
    unfold cnE
    rw [e1, sum0, Nat.add_comm 104 j]
    rfl
theorem st_fin : ∀ s, s < 104 → ∀ i, i < CC 0 s → ∀ k, k < 65 → (tgR s i k).isSome = true → sst 326 s i k = true := by decide +kernel
theorem ng_fin : ∀ e ∈ evL.take 326, e.1 = 5 → e = (5, 11, 0, 14) ∨ e = (5, 13, 0, 2) := by decide +kernel
theorem gs_fin {M : xM} (hG : GSt 326 M) : (∀ s, (MM M.1 0 none none M.2.2.1 M.2.2.2.1).2.1 s = M.2.1 s) ∧ (∀ s i, i < M.2.1 s → (MM M.1 0 none none M.2.2.1 M.2.2.2.1).2.2.2.2 s i = M.2.2.2.2 s i) ∧ (∀ s i k, i < CC 0 s → ¬ (s = 11 ∧ k = 14) → ¬ (s = 13 ∧ k = 2) → M.2.2.1 s i k = 0) ∧ M.2.2.1 13 0 2 = -1 := by
  refine ⟨fun s => (cn_fin s).symm.trans (hG.1 s).symm, fun s i hi => funext fun k => ?_, fun s i k hi h1 h2 => ?_, ?_⟩
  · rw [hG.1] at hi
    have hi2 := hi
    rw [cn_fin] at hi2
    rw [(hG.2.2 s i k hi).1]
    show RR M.1 none none s i k = _
    rw [RR_tg]
    cases ht : tgR s i k with
    | none => split <;> rfl
    | some q =>
      rw [if_pos]
      have hs : s < 104 := Nat.lt_of_not_le (fun z => by
        obtain ⟨j, rfl⟩ := Nat.le.dest z
        rw [Nat.add_comm] at hi2
        exact absurd hi2 (Nat.not_lt_zero i))
      have hk : k < 65 := Nat.lt_of_not_le (fun z => by rw [tg_hi s i k z] at ht; cases ht)
      exact st_fin s hs i hi2 k hk (by rw [ht]; rfl)
  · rw [((hG.2.1 s i (by rw [cn_fin]; exact hi)) k).1, if_neg]
    intro z
    unfold sng at z
    obtain ⟨e, he, h3⟩ := List.any_eq_true.mp z
    have h4 : e = (5, s, i, k) := eq_of_beq h3
    rcases ng_fin e he (by rw [h4]) with h5 | h5
    · rw [h4] at h5; cases h5; exact h1 ⟨rfl, rfl⟩
    · rw [h4] at h5; cases h5; exact h2 ⟨rfl, rfl⟩
  · rw [((hG.2.1 13 0 (by rw [cn_fin]; decide)) 2).1, if_pos (by decide +kernel)]
theorem iv_0 (hz : ∀ s i k, i < CC 0 s → ¬ (s = 11 ∧ k = 14) → ¬ (s = 13 ∧ k = 2) → I s i k = 0) (h2 : I 13 0 2 = -1) : IV V00 (fun _ _ => 0) [] [] (fun _ => 0) 0 0 0 0 0 none none I := by
  have z0 : ∀ s i k, i < CC 0 s → s ≠ 11 → s ≠ 13 → I s i k = nI 0 := fun s i k hi h1 h2 => by rw [hz s i k hi (fun z => h1 z.1) (fun z => h2 z.1)]; exact nI_0.symm
  have n1 : ∀ (P : Nat → Prop), ∀ l, l < V00 0 1 0 → P l := fun _ l hl => absurd hl (Nat.not_lt_zero l)
  refine ⟨⟨⟨PC_0.1.1, fun t ht => absurd ht (Nat.not_lt_zero t), fun q hq => (by cases hq), fun q hq => (by cases hq)⟩, fun z => absurd z (Nat.lt_irrefl 0), fun _ => (show 0 < 256 by decide), fun _ => ⟨rfl, rfl⟩, fun i hi => (by cases hi), by decide⟩, ⟨⟨?_, fun t ht => absurd ht (Nat.not_lt_zero t), ⟨0, by decide, z0 0 0 6 (by decide) (by decide) (by decide), z0 0 0 2 (by decide) (by decide) (by decide), Nat.zero_le _, fun i q hq => (by cases i <;> cases hq)⟩, ⟨z0 0 0 3 (by decide) (by decide) (by decide), Nat.zero_le _, fun m q hq => (by cases m <;> cases hq)⟩⟩, ⟨?_, Nat.zero_le _, fun i hi => absurd hi (Nat.not_lt_zero i)⟩, ?_, ?_, fun z => absurd z (by decide)⟩, ⟨Or.inl ⟨rfl, fun _ _ => rfl⟩, ⟨fun t ht => absurd ht (Nat.not_lt_zero t), ⟨?_, Nat.zero_le _, fun i q hq => (by cases i <;> cases hq)⟩, ⟨?_, Nat.zero_le _, fun i q hq => (by cases i <;> cases hq)⟩⟩, ⟨?_, Nat.zero_le _, fun i hi => absurd hi (Nat.not_lt_zero i)⟩, ?_, ?_, ?_⟩⟩
  · exact ⟨fun k hk => z0 16 0 k (by decide) (by decide) (by decide), n1 _, n1 _, n1 _, n1 _, n1 _, fun t _ => z0 26 0 t (by decide) (by decide) (by decide), n1 _, fun s _ z => absurd z (Nat.lt_irrefl 0), fun p q hp hq => ⟨z0 31 (p + 6 * 0) q (by show p + 0 < 12; omega) (by decide) (by decide), z0 33 (p + 6 * 0) q (by show p + 0 < 12; omega) (by decide) (by decide)⟩, fun t s ht hs => z0 35 (t + 4 * 0) s (by show t + 0 < 8; omega) (by decide) (by decide), fun t i _ hi => absurd hi (Nat.not_lt_zero i)⟩
  · rw [hz 11 0 1 (by decide) (by decide) (by decide)]; exact nI_0.symm
  · rw [hz 11 0 12 (by decide) (by decide) (by decide)]; exact nI_0.symm
  · rw [hz 11 0 13 (by decide) (by decide) (by decide)]; exact nI_0.symm
  · rw [hz 13 0 19 (by decide) (by decide) (by decide)]; exact nI_0.symm
  · rw [hz 13 0 20 (by decide) (by decide) (by decide)]; exact nI_0.symm
  · rw [hz 13 0 6 (by decide) (by decide) (by decide)]; exact nI_0.symm
  · rw [hz 13 0 1 (by decide) (by decide) (by decide)]; exact nI_0.symm
  · rw [hz 13 0 13 (by decide) (by decide) (by decide)]; exact nI_0.symm
  · rw [if_neg (by decide)]; exact h2

set_option maxRecDepth 100000 in
set_option maxHeartbeats 4000000 in
theorem lw_begin (hL : scN G ≤ 3072) {M : xM} (g9 : GSt 0 M) : X G vL_law (d + 14) (11659, 210777) 0 [(0, some (.ref (scA G)))] [] M (QZ G) := by
  refine r_obj (n := 0) (g := 11) (i := 0) (cn := 11) (T := TX11) (N := 15) (b1 := 11658) (b2 := 210762) g9 (by decide +kernel) rfl (by decide +kernel) dL_law_0 (xm1 25 rfl rfl) (xm1 26 rfl rfl) (xm1 1 rfl rfl) rfl rfl (by decide +kernel) rfl (by decide +kernel) (fun M1 g9 hk => ?_)
  generalize hx1 : M1.1 11 0 = x1
  refine x_dup dL_law_3 rfl ?_
  refine x_civ (b1 := 11285) (b2 := 207133) (ct_X11_init_1 (d := d + 9) g9 hx1) kL_15 dL_law_4 rfl rfl (Nat.le_of_ble_eq_true rfl) (fun M2 hq => ?_)
  obtain ⟨g9, hk⟩ := hq
  have hx1 := (hk 11 0 (by decide +kernel)).trans hx1
  refine x_astore_n dL_law_7 (by decide) rfl ?_
  refine r_obj (n := 285) (g := 13) (i := 0) (cn := 13) (T := TX13) (N := 42) (b1 := 11284) (b2 := 207091) g9 (by decide +kernel) rfl (by decide +kernel) dL_law_8 (xm5 231 rfl rfl) (xm5 232 rfl rfl) (xm1 13 rfl rfl) rfl rfl (by decide +kernel) rfl (by decide +kernel) (fun M3 g9 hk => ?_)
  have hx1 := (hk 11 0 (by decide +kernel)).trans hx1
  generalize hx2 : M3.1 13 0 = x2
  refine x_dup dL_law_11 rfl ?_
  refine x_civ (b1 := 11265) (b2 := 204801) (ct_X13_init_286 (d := d + 12) g9 hx2) kL_18 dL_law_12 rfl rfl (Nat.le_of_ble_eq_true rfl) (fun M4 hq => ?_)
  obtain ⟨g9, hk⟩ := hq
  have hx1 := (hk 11 0 (by decide +kernel)).trans hx1
  have hx2 := (hk 13 0 (by decide +kernel)).trans hx2
  refine x_astore_n dL_law_15 (by decide) rfl ?_
  refine x_iconst dL_law_16 li_1 ?_
  refine r_arr (n := 325) (g := 103) (i := 0) (t := 2) (N := 1) (b1 := 11264) (b2 := 204800) g9 (by decide +kernel) rfl (by decide +kernel) dL_law_17 rfl (by decide) rfl (by decide) (xm1 185 rfl rfl) (by decide +kernel) (fun M5 g9 hk => ?_)
  have hx1 := (hk 11 0 (by decide +kernel)).trans hx1
  have hx2 := (hk 13 0 (by decide +kernel)).trans hx2
  refine x_astore_n dL_law_19 (by decide) rfl ?_
  refine x_iconst dL_law_20 li_0 ?_
  refine x_istore dL_law_21 (by decide) rfl ?_
  obtain ⟨f1, f2, f3, f4⟩ := gs_fin g9
  refine x_same (M' := MM M5.1 0 none none M5.2.2.1 M5.2.2.2.1) f1 (fun _ _ _ => rfl) (fun _ _ _ => rfl) (fun _ _ _ => rfl) f2 ?_
  rw [← hx1, ← hx2]
  refine x_ls ?_ (lw_loop (d := d) hL 512 0 V00 (fun _ _ => 0) [] [] (fun _ => 0) 0 0 0 0 M5.1 0 none none M5.2.2.1 M5.2.2.2.1 (by omega) (by decide) (fun _ => rfl) (iv_0 f3 f4))
  exact ⟨rfl, rfl, rfl, rfl, rfl, trivial⟩

theorem gs_0 : GSt 0 ((fun _ _ => 0, fun _ => 0, fun _ _ _ => 0, fun _ _ _ => 0, fun _ _ _ => none) : xM) := ⟨fun _ => rfl, fun s i hi => absurd hi (Nat.not_lt_zero i), fun s i k hi => absurd hi (Nat.not_lt_zero i)⟩
theorem xH_0 {H : Heap} (hb : G.2.2.2.2.2 ≤ H.size) : xH G ((fun _ _ => 0, fun _ => 0, fun _ _ _ => 0, fun _ _ _ => 0, fun _ _ _ => none) : xM) H := ⟨hb, [], List.nodup_nil, fun s i => ⟨fun h => (by cases h), fun h => absurd h (Nat.not_lt_zero i)⟩, fun k q hk => (by cases k <;> cases hk), ⟨fun i j a b hi => (by cases i <;> cases hi), fun k q hk => (by cases k <;> cases hk)⟩⟩

end M57
