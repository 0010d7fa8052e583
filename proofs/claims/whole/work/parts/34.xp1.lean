section Xp1
variable {G : xG} {ad : Nat → Nat → Nat} {nb : Nat} {b r : Option Nat} {L : Nat → Nat → Nat → Int64} {V : sV} {I : Nat → Nat → Nat → Int32} {d : Nat}
variable {N : sN} {h : sH} {mk : List sN}

/-- the answer of a call of the face, and its trouble -/
def qA (ad : Nat → Nat → Nat) (nb : Nat) (b r : Option Nat) (I : Nat → Nat → Nat → Int32) (L : Nat → Nat → Nat → Int64) (a : Int32 × Nat) : Option Value → xM → Prop := qI (fun rr M' => rr = a.1 ∧ ∃ I', M' = MM ad nb b r I' L ∧ KX I I' a.2)
theorem qA_no {c : Nat} {a : Int32 × Nat} (h : a = (-1, c)) : qA ad nb b r I L a (some (.int (-1))) (MM ad nb b r (xu I 11 0 12 (nI c)) L) := by
  subst h
  exact ⟨_, rfl, rfl, _, rfl, KX.of Sm.rf⟩
theorem wth_f1 {z : Int32} {lo hi : Nat} (h : z < nI lo) : wth z lo hi = false := decide_eq_false (fun q => q.1 h)
theorem wth_f2 {z : Int32} {lo hi : Nat} (h : nI hi < z) : wth z lo hi = false := decide_eq_false (fun q => q.2 h)
theorem wth_t {z : Int32} {lo hi : Nat} (h1 : ¬ z < nI lo) (h2 : ¬ nI hi < z) : wth z lo hi = true := decide_eq_true ⟨h1, h2⟩
def a_smell (V : sV) (s w : Int32) : Int32 × Nat := if (inr s (V 0 2 0) && wth w 0 2) = true then (if zN w = 0 then nI (V 2 (zN s) 0) else if zN w = 1 then nI (V 3 (zN s) 0) else nI (V 1 (V 3 (zN s) 0) 0), 0) else (-1, 1)
def a_place (V : sV) (s w : Int32) : Int32 × Nat := if (inr s (V 0 4 0) && wth w 0 2) = true then (if zN w = 0 then nI (V 5 (zN s) 0) else if zN w = 1 then nO (-2) (V 6 (zN s) 0) else nI (pth V (zN s) (V 0 4 0)), 0) else (-1, 1)
def a_traveller (V : sV) (N : sN) (t w : Int32) : Int32 × Nat := if (inr t (V 0 7 0) && wth w 0 4) = true then (if zN w = 0 then nI (V 9 (zN t) 0) else if zN w = 1 then nI (V 10 (zN t) 0) else if zN w = 2 then nI (N (zN t) 0) else if zN w = 3 then nI (N (zN t) 1) else nI (N (zN t) 2), 0) else (-1, 1)
def a_path (V : sV) (s w : Int32) : Int32 × Nat := if (inr s (V 0 4 0) && (inr w (V 0 4 0) && decide (s ≠ w))) = true then (if V 7 (zN s) (zN w) = 0 then -2 else nI (V 7 (zN s) (zN w)), 0) else (-1, 1)
/-- a question behind hours: which trouble, or the answer -/
def a_bh (V : sV) (t : Int32) (so : Nat) (z H : Int32) (v : Nat) : Int32 × Nat := if wnb V t so z H = 0 then (nI v, 0) else (-1, wnb V t so z H)
def a_strength (V : sV) (N : sN) (t z H : Int32) : Int32 × Nat := a_bh V t 2 z H (str V (fun s => N (zN t) (3 + s)) (zN H) 0 (zN z))
def a_covered (V : sV) (N : sN) (t z H : Int32) : Int32 × Nat := a_bh V t 2 z H (unc V (str V (fun s => N (zN t) (3 + s)) (zN H) 0) (zN z))
def a_smelt (V : sV) (N : sN) (t z H : Int32) : Int32 × Nat := a_bh V t 3 z H (smb V (str V (fun s => N (zN t) (3 + s)) (zN H) 0) (V 4 (zN z) 0) (V 0 2 0))
def a_duty (V : sV) (N : sN) (t z H : Int32) : Int32 × Nat := a_bh V t 4 z H (dbh V N (zN t) (zN z) (zN H))
theorem wnb_0 {so : Nat} {t z H : Int32} (hV : VW V) (hs : so = 2 ∨ so = 3 ∨ so = 4) (h0 : wnb V t so z H = 0) : ∃ t' z' H', t' < V 0 7 0 ∧ z' < V 0 so 0 ∧ H' ≤ 99 ∧ t = nI t' ∧ z = nI z' ∧ H = nI H' := by
  have v2 := hV.2.2.1
  have v3 := hV.2.2.2.1
  have v4 := hV.2.2.2.2.1
  have v7 := hV.2.2.2.2.2.2.2.1
  have hso : V 0 so 0 < 2 ^ 31 := by rcases hs with rfl | rfl | rfl <;> omega
  unfold wnb at h0
  split at h0
  · rename_i h1
    rw [Bool.and_eq_true] at h1
    split at h0
    · rename_i h2
      obtain ⟨a, ha, ea⟩ := inr_of h1.1 (by omega)
      obtain ⟨c, hc, ec⟩ := inr_of h1.2 hso
      obtain ⟨e, -, he, ee⟩ := wth_of h2 (by omega) (by omega)
      exact ⟨a, c, e, ha, hc, he, ea, ec, ee⟩
    · cases h0
  · cases h0
def a_claim (V : sV) (N : sN) (t H : Int32) : Int32 × Nat := if inr t (V 0 7 0) = true then (if wth H 0 99 = true then (nO (-2) (clF V (str V (fun s => N (zN t) (3 + s)) (zN H) 0) (V 0 1 0)).2, 0) else (-1, 2)) else (-1, 1)

set_option maxRecDepth 100000 in
set_option maxHeartbeats 4000000 in
theorem x_smell_c (hS : SW V N h mk) (hX : XS V N h mk I) {z1 z2 : Int32} : Mt G vX11_smell (d + 2) (0, 0) [.ref (ad 11 0), .int (z1), .int (z2)] (MM ad nb b r I L) (qA ad nb b r I L (a_smell V z1 z2)) := by
  have hV := hS.1
  obtain ⟨hB, hN, hH, hK⟩ := hX
  have hW := hS.2.1
  have v0 := hV.1
  have v1 := hV.2.1
  have v2 := hV.2.2.1
  have v3 := hV.2.2.2.1
  have v4 := hV.2.2.2.2.1
  have v7 := hV.2.2.2.2.2.2.2.1
  have v9 := hV.2.2.2.2.2.2.2.2.2.1
  have v10 := hV.2.2.2.2.2.2.2.2.2.2.1
  refine x_start (by decide) (Nat.le_of_ble_eq_true rfl) ?_
  refine x_aload_n dX11_smell_0 rfl ?_
  refine x_iconst dX11_smell_1 li_2 ?_
  refine x_iload_n dX11_smell_2 rfl ?_
  refine x_cvi (c_isOne hV (so := 2) (by omega) (by omega) (hB.1 2 (by omega))) kX11_133 dX11_smell_3 rfl (Nat.le_of_ble_eq_true rfl) rfl rfl (Nat.le_of_ble_eq_true rfl) (fun ru Mu hq => ?_)
  obtain ⟨rfl, rfl⟩ := hq
  refine x_if_eq 18 dX11_smell_6 (by decide) (fun h6 => ?_) (fun h6 => ?_)
  · refine x_aload_n dX11_smell_18 rfl ?_
    refine x_iconst dX11_smell_19 li_1 ?_
    refine x_cvi (c_refuse) kX11_102 dX11_smell_20 rfl (Nat.le_of_ble_eq_true rfl) rfl rfl (Nat.le_of_ble_eq_true rfl) (fun ru Mu hq => ?_)
    obtain ⟨rfl, rfl⟩ := hq
    refine x_iret dX11_smell_23 rfl ?_
    refine qA_no (c := 1) ?_
    unfold a_smell
    first
      | (rw [bI_eq.mp h6]; rfl)
      | (rw [wth_f1 (z := z2) (lo := 0) h10, Bool.and_false]; rfl)
      | (rw [wth_f2 (z := z2) (hi := 2) (Int32.not_le.mp h15), Bool.and_false]; rfl)
  · have qs := bI_ne.mp h6
    obtain ⟨s, hs, rfl⟩ := inr_of qs (by omega)
    refine x_iload_n dX11_smell_9 rfl ?_
    refine x_if_lt 18 dX11_smell_10 (by decide) (fun h10 => ?_) (fun h10 => ?_)
    · refine x_aload_n dX11_smell_18 rfl ?_
      refine x_iconst dX11_smell_19 li_1 ?_
      refine x_cvi (c_refuse) kX11_102 dX11_smell_20 rfl (Nat.le_of_ble_eq_true rfl) rfl rfl (Nat.le_of_ble_eq_true rfl) (fun ru Mu hq => ?_)
      obtain ⟨rfl, rfl⟩ := hq
      refine x_iret dX11_smell_23 rfl ?_
      refine qA_no (c := 1) ?_
      unfold a_smell
      first
        | (rw [bI_eq.mp h6]; rfl)
        | (rw [wth_f1 (z := z2) (lo := 0) h10, Bool.and_false]; rfl)
        | (rw [wth_f2 (z := z2) (hi := 2) (Int32.not_le.mp h15), Bool.and_false]; rfl)
    · refine x_iload_n dX11_smell_13 rfl ?_
      refine x_iconst dX11_smell_14 li_2 ?_
      refine x_ic_le 24 dX11_smell_15 (by decide) (fun h15 => ?_) (fun h15 => ?_)
      · have qw := wth_t (lo := 0) (hi := 2) h10 (Int32.not_lt.mpr h15)
        obtain ⟨w, -, hw, rfl⟩ := wth_of qw (by omega) (by omega)
        refine x_iload_n dX11_smell_24 rfl ?_
        refine x_ifN_ne 42 dX11_smell_25 (by decide) (by omega) (fun h25 => ?_) (fun h25 => ?_)
        · refine x_aload_n dX11_smell_42 rfl ?_
          refine g_X_told fX11_16 dX11_smell_43 ?_
          refine g_Border_smellLand fX11_140 dX11_smell_46 (by first | exact Nat.le_of_ble_eq_true rfl | assumption | omega) ?_
          refine x_iload_n dX11_smell_49 rfl ?_
          refine x_iald dX11_smell_50 rfl rfl (Nat.lt_of_lt_of_le (by first | assumption | omega | decide) (Nat.le_refl 2)) (by first | exact Nat.le_of_ble_eq_true rfl | assumption | omega) ?_
          have hl := (hV.2.2.2.2.2.2.2.2.2.2.2.2.2.1 s hs).2
          rw [(hB.2.2.1 s hs).2]
          refine x_istore_n dX11_smell_51 (by decide) rfl ?_
          refine x_aload_n dX11_smell_52 rfl ?_
          refine x_iload_n dX11_smell_53 rfl ?_
          refine x_iconst dX11_smell_54 li_1 ?_
          refine x_icN_ne 62 dX11_smell_55 (by decide) (by omega) (by omega) (fun h55 => ?_) (fun h55 => ?_)
          · refine x_aload_n dX11_smell_62 rfl ?_
            refine g_X_told fX11_16 dX11_smell_63 ?_
            refine g_Border_landDuty fX11_143 dX11_smell_66 (by first | exact Nat.le_of_ble_eq_true rfl | assumption | omega) ?_
            refine x_iload_n dX11_smell_69 rfl ?_
            refine x_iald dX11_smell_70 rfl rfl (Nat.lt_of_lt_of_le (by first | assumption | omega | decide) (Nat.le_refl 2)) (by first | exact Nat.le_of_ble_eq_true rfl | assumption | omega) ?_
            refine x_cvi (c_answer) kX11_127 dX11_smell_71 rfl (Nat.le_of_ble_eq_true rfl) rfl rfl (Nat.le_of_ble_eq_true rfl) (fun ru Mu hq => ?_)
            obtain ⟨rfl, rfl⟩ := hq
            refine x_iret dX11_smell_74 rfl ?_
            first
              | (have ea : a_smell V (nI s) (nI w) = (nI (V 3 s 0), 0) := by (unfold a_smell; rw [qs, qw, zN_nI (by omega), zN_nI (by omega)]; simp only [Bool.and_self, if_true]; rw [if_neg (by omega), if_pos h55])
                 rw [ea]
                 exact ⟨_, rfl, rfl, _, rfl, KX.of Sm.rf⟩)
              | (have ea : a_smell V (nI s) (nI w) = (nI (V 1 (V 3 s 0) 0), 0) := by (unfold a_smell; rw [qs, qw, zN_nI (by omega), zN_nI (by omega)]; simp only [Bool.and_self, if_true]; rw [if_neg (by omega), if_neg h55])
                 rw [ea]
                 exact ⟨_, rfl, (hB.2.1 _ hl), _, rfl, KX.of Sm.rf⟩)
          · refine x_iload_n dX11_smell_58 rfl ?_
            refine x_goto 71 dX11_smell_59 (by decide) ?_
            refine x_cvi (c_answer) kX11_127 dX11_smell_71 rfl (Nat.le_of_ble_eq_true rfl) rfl rfl (Nat.le_of_ble_eq_true rfl) (fun ru Mu hq => ?_)
            obtain ⟨rfl, rfl⟩ := hq
            refine x_iret dX11_smell_74 rfl ?_
            first
              | (have ea : a_smell V (nI s) (nI w) = (nI (V 3 s 0), 0) := by (unfold a_smell; rw [qs, qw, zN_nI (by omega), zN_nI (by omega)]; simp only [Bool.and_self, if_true]; rw [if_neg (by omega), if_pos h55])
                 rw [ea]
                 exact ⟨_, rfl, rfl, _, rfl, KX.of Sm.rf⟩)
              | (have ea : a_smell V (nI s) (nI w) = (nI (V 1 (V 3 s 0) 0), 0) := by (unfold a_smell; rw [qs, qw, zN_nI (by omega), zN_nI (by omega)]; simp only [Bool.and_self, if_true]; rw [if_neg (by omega), if_neg h55])
                 rw [ea]
                 exact ⟨_, rfl, (hB.2.1 _ hl), _, rfl, KX.of Sm.rf⟩)
        · refine x_aload_n dX11_smell_28 rfl ?_
          refine x_aload_n dX11_smell_29 rfl ?_
          refine g_X_told fX11_16 dX11_smell_30 ?_
          refine g_Border_smellKind fX11_137 dX11_smell_33 (by first | exact Nat.le_of_ble_eq_true rfl | assumption | omega) ?_
          refine x_iload_n dX11_smell_36 rfl ?_
          refine x_iald dX11_smell_37 rfl rfl (Nat.lt_of_lt_of_le (by first | assumption | omega | decide) (Nat.le_refl 2)) (by first | exact Nat.le_of_ble_eq_true rfl | assumption | omega) ?_
          rw [(hB.2.2.1 s hs).1]
          refine x_cvi (c_answer) kX11_127 dX11_smell_38 rfl (Nat.le_of_ble_eq_true rfl) rfl rfl (Nat.le_of_ble_eq_true rfl) (fun ru Mu hq => ?_)
          obtain ⟨rfl, rfl⟩ := hq
          refine x_iret dX11_smell_41 rfl ?_
          have ea : a_smell V (nI s) (nI w) = (nI (V 2 s 0), 0) := by
            unfold a_smell
            rw [qs, qw, zN_nI (by omega), zN_nI (by omega)]
            simp only [Bool.and_self, if_true]
            rw [if_pos h25]
          rw [ea]
          exact ⟨_, rfl, rfl, _, rfl, KX.of Sm.rf⟩
      · refine x_aload_n dX11_smell_18 rfl ?_
        refine x_iconst dX11_smell_19 li_1 ?_
        refine x_cvi (c_refuse) kX11_102 dX11_smell_20 rfl (Nat.le_of_ble_eq_true rfl) rfl rfl (Nat.le_of_ble_eq_true rfl) (fun ru Mu hq => ?_)
        obtain ⟨rfl, rfl⟩ := hq
        refine x_iret dX11_smell_23 rfl ?_
        refine qA_no (c := 1) ?_
        unfold a_smell
        first
          | (rw [bI_eq.mp h6]; rfl)
          | (rw [wth_f1 (z := z2) (lo := 0) h10, Bool.and_false]; rfl)
          | (rw [wth_f2 (z := z2) (hi := 2) (Int32.not_le.mp h15), Bool.and_false]; rfl)
set_option maxRecDepth 100000 in
set_option maxHeartbeats 4000000 in
theorem x_place_c (hS : SW V N h mk) (hX : XS V N h mk I) {z1 z2 : Int32} : Mt G vX11_place (d + 2) (0, 0) [.ref (ad 11 0), .int (z1), .int (z2)] (MM ad nb b r I L) (qA ad nb b r I L (a_place V z1 z2)) := by
  have hV := hS.1
  obtain ⟨hB, hN, hH, hK⟩ := hX
  have hW := hS.2.1
  have v0 := hV.1
  have v1 := hV.2.1
  have v2 := hV.2.2.1
  have v3 := hV.2.2.2.1
  have v4 := hV.2.2.2.2.1
  have v7 := hV.2.2.2.2.2.2.2.1
  have v9 := hV.2.2.2.2.2.2.2.2.2.1
  have v10 := hV.2.2.2.2.2.2.2.2.2.2.1
  refine x_start (by decide) (Nat.le_of_ble_eq_true rfl) ?_
  refine x_aload_n dX11_place_0 rfl ?_
  refine x_iconst dX11_place_1 li_4 ?_
  refine x_iload_n dX11_place_2 rfl ?_
  refine x_cvi (c_isOne hV (so := 4) (by omega) (by omega) (hB.1 4 (by omega))) kX11_133 dX11_place_3 rfl (Nat.le_of_ble_eq_true rfl) rfl rfl (Nat.le_of_ble_eq_true rfl) (fun ru Mu hq => ?_)
  obtain ⟨rfl, rfl⟩ := hq
  refine x_if_eq 18 dX11_place_6 (by decide) (fun h6 => ?_) (fun h6 => ?_)
  · refine x_aload_n dX11_place_18 rfl ?_
    refine x_iconst dX11_place_19 li_1 ?_
    refine x_cvi (c_refuse) kX11_102 dX11_place_20 rfl (Nat.le_of_ble_eq_true rfl) rfl rfl (Nat.le_of_ble_eq_true rfl) (fun ru Mu hq => ?_)
    obtain ⟨rfl, rfl⟩ := hq
    refine x_iret dX11_place_23 rfl ?_
    refine qA_no (c := 1) ?_
    unfold a_place
    first
      | (rw [bI_eq.mp h6]; rfl)
      | (rw [wth_f1 (z := z2) (lo := 0) h10, Bool.and_false]; rfl)
      | (rw [wth_f2 (z := z2) (hi := 2) (Int32.not_le.mp h15), Bool.and_false]; rfl)
  · have qs := bI_ne.mp h6
    obtain ⟨s, hs, rfl⟩ := inr_of qs (by omega)
    refine x_iload_n dX11_place_9 rfl ?_
    refine x_if_lt 18 dX11_place_10 (by decide) (fun h10 => ?_) (fun h10 => ?_)
    · refine x_aload_n dX11_place_18 rfl ?_
      refine x_iconst dX11_place_19 li_1 ?_
      refine x_cvi (c_refuse) kX11_102 dX11_place_20 rfl (Nat.le_of_ble_eq_true rfl) rfl rfl (Nat.le_of_ble_eq_true rfl) (fun ru Mu hq => ?_)
      obtain ⟨rfl, rfl⟩ := hq
      refine x_iret dX11_place_23 rfl ?_
      refine qA_no (c := 1) ?_
      unfold a_place
      first
        | (rw [bI_eq.mp h6]; rfl)
        | (rw [wth_f1 (z := z2) (lo := 0) h10, Bool.and_false]; rfl)
        | (rw [wth_f2 (z := z2) (hi := 2) (Int32.not_le.mp h15), Bool.and_false]; rfl)
    · refine x_iload_n dX11_place_13 rfl ?_
      refine x_iconst dX11_place_14 li_2 ?_
      refine x_ic_le 24 dX11_place_15 (by decide) (fun h15 => ?_) (fun h15 => ?_)
      · have qw := wth_t (lo := 0) (hi := 2) h10 (Int32.not_lt.mpr h15)
        obtain ⟨w, -, hw, rfl⟩ := wth_of qw (by omega) (by omega)
        refine x_iload_n dX11_place_24 rfl ?_
        refine x_ifN_ne 42 dX11_place_25 (by decide) (by omega) (fun h25 => ?_) (fun h25 => ?_)
        · refine x_aload_n dX11_place_42 rfl ?_
          refine x_iload_n dX11_place_43 rfl ?_
          refine x_iconst dX11_place_44 li_1 ?_
          refine x_icN_ne 60 dX11_place_45 (by decide) (by omega) (by omega) (fun h45 => ?_) (fun h45 => ?_)
          · refine x_aload_n dX11_place_60 rfl ?_
            refine g_X_told fX11_16 dX11_place_61 ?_
            refine x_iload_n dX11_place_64 rfl ?_
            refine x_cvi (c_pathsOf hV hB (p := s) (by omega)) kX11_152 dX11_place_65 rfl (Nat.le_of_ble_eq_true rfl) rfl rfl (Nat.le_of_ble_eq_true rfl) (fun ru Mu hq => ?_)
            obtain ⟨rfl, rfl⟩ := hq
            refine x_cvi (c_answer) kX11_127 dX11_place_68 rfl (Nat.le_of_ble_eq_true rfl) rfl rfl (Nat.le_of_ble_eq_true rfl) (fun ru Mu hq => ?_)
            obtain ⟨rfl, rfl⟩ := hq
            refine x_iret dX11_place_71 rfl ?_
            first
              | (have ea : a_place V (nI s) (nI w) = (nO (-2) (V 6 s 0), 0) := by (unfold a_place; rw [qs, qw, zN_nI (by omega), zN_nI (by omega)]; simp only [Bool.and_self, if_true]; rw [if_neg (by omega), if_pos h45])
                 rw [ea]
                 exact ⟨_, rfl, rfl, _, rfl, KX.of Sm.rf⟩)
              | (have ea : a_place V (nI s) (nI w) = (nI (pth V s (V 0 4 0)), 0) := by (unfold a_place; rw [qs, qw, zN_nI (by omega), zN_nI (by omega)]; simp only [Bool.and_self, if_true]; rw [if_neg (by omega), if_neg h45])
                 rw [ea]
                 exact ⟨_, rfl, rfl, _, rfl, KX.of Sm.rf⟩)
          · refine x_aload_n dX11_place_48 rfl ?_
            refine g_X_told fX11_16 dX11_place_49 ?_
            refine g_Border_placeNose fX11_149 dX11_place_52 (by first | exact Nat.le_of_ble_eq_true rfl | assumption | omega) ?_
            refine x_iload_n dX11_place_55 rfl ?_
            refine x_iald dX11_place_56 rfl rfl (Nat.lt_of_lt_of_le (by first | assumption | omega | decide) (Nat.le_refl 2)) (by first | exact Nat.le_of_ble_eq_true rfl | assumption | omega) ?_
            rw [(hB.2.2.2.2.1 s hs).2]
            refine x_goto 68 dX11_place_57 (by decide) ?_
            refine x_cvi (c_answer) kX11_127 dX11_place_68 rfl (Nat.le_of_ble_eq_true rfl) rfl rfl (Nat.le_of_ble_eq_true rfl) (fun ru Mu hq => ?_)
            obtain ⟨rfl, rfl⟩ := hq
            refine x_iret dX11_place_71 rfl ?_
            first
              | (have ea : a_place V (nI s) (nI w) = (nO (-2) (V 6 s 0), 0) := by (unfold a_place; rw [qs, qw, zN_nI (by omega), zN_nI (by omega)]; simp only [Bool.and_self, if_true]; rw [if_neg (by omega), if_pos h45])
                 rw [ea]
                 exact ⟨_, rfl, rfl, _, rfl, KX.of Sm.rf⟩)
              | (have ea : a_place V (nI s) (nI w) = (nI (pth V s (V 0 4 0)), 0) := by (unfold a_place; rw [qs, qw, zN_nI (by omega), zN_nI (by omega)]; simp only [Bool.and_self, if_true]; rw [if_neg (by omega), if_neg h45])
                 rw [ea]
                 exact ⟨_, rfl, rfl, _, rfl, KX.of Sm.rf⟩)
        · refine x_aload_n dX11_place_28 rfl ?_
          refine x_aload_n dX11_place_29 rfl ?_
          refine g_X_told fX11_16 dX11_place_30 ?_
          refine g_Border_placeLand fX11_146 dX11_place_33 (by first | exact Nat.le_of_ble_eq_true rfl | assumption | omega) ?_
          refine x_iload_n dX11_place_36 rfl ?_
          refine x_iald dX11_place_37 rfl rfl (Nat.lt_of_lt_of_le (by first | assumption | omega | decide) (Nat.le_refl 2)) (by first | exact Nat.le_of_ble_eq_true rfl | assumption | omega) ?_
          rw [(hB.2.2.2.2.1 s hs).1]
          refine x_cvi (c_answer) kX11_127 dX11_place_38 rfl (Nat.le_of_ble_eq_true rfl) rfl rfl (Nat.le_of_ble_eq_true rfl) (fun ru Mu hq => ?_)
          obtain ⟨rfl, rfl⟩ := hq
          refine x_iret dX11_place_41 rfl ?_
          have ea : a_place V (nI s) (nI w) = (nI (V 5 s 0), 0) := by
            unfold a_place
            rw [qs, qw, zN_nI (by omega), zN_nI (by omega)]
            simp only [Bool.and_self, if_true]
            rw [if_pos h25]
          rw [ea]
          exact ⟨_, rfl, rfl, _, rfl, KX.of Sm.rf⟩
      · refine x_aload_n dX11_place_18 rfl ?_
        refine x_iconst dX11_place_19 li_1 ?_
        refine x_cvi (c_refuse) kX11_102 dX11_place_20 rfl (Nat.le_of_ble_eq_true rfl) rfl rfl (Nat.le_of_ble_eq_true rfl) (fun ru Mu hq => ?_)
        obtain ⟨rfl, rfl⟩ := hq
        refine x_iret dX11_place_23 rfl ?_
        refine qA_no (c := 1) ?_
        unfold a_place
        first
          | (rw [bI_eq.mp h6]; rfl)
          | (rw [wth_f1 (z := z2) (lo := 0) h10, Bool.and_false]; rfl)
          | (rw [wth_f2 (z := z2) (hi := 2) (Int32.not_le.mp h15), Bool.and_false]; rfl)
set_option maxRecDepth 100000 in
set_option maxHeartbeats 4000000 in
theorem x_traveller_c (hS : SW V N h mk) (hX : XS V N h mk I) {z1 z2 : Int32} : Mt G vX11_traveller (d + 2) (0, 0) [.ref (ad 11 0), .int (z1), .int (z2)] (MM ad nb b r I L) (qA ad nb b r I L (a_traveller V N z1 z2)) := by
  have hV := hS.1
  obtain ⟨hB, hN, hH, hK⟩ := hX
  have hW := hS.2.1
  have v0 := hV.1
  have v1 := hV.2.1
  have v2 := hV.2.2.1
  have v3 := hV.2.2.2.1
  have v4 := hV.2.2.2.2.1
  have v7 := hV.2.2.2.2.2.2.2.1
  have v9 := hV.2.2.2.2.2.2.2.2.2.1
  have v10 := hV.2.2.2.2.2.2.2.2.2.2.1
  refine x_start (by decide) (Nat.le_of_ble_eq_true rfl) ?_
  refine x_aload_n dX11_traveller_0 rfl ?_
  refine x_bipush dX11_traveller_1 lb_7 ?_
  refine x_iload_n dX11_traveller_3 rfl ?_
  refine x_cvi (c_isOne hV (so := 7) (by omega) (by omega) (hB.1 7 (by omega))) kX11_133 dX11_traveller_4 rfl (Nat.le_of_ble_eq_true rfl) rfl rfl (Nat.le_of_ble_eq_true rfl) (fun ru Mu hq => ?_)
  obtain ⟨rfl, rfl⟩ := hq
  refine x_if_eq 19 dX11_traveller_7 (by decide) (fun h7 => ?_) (fun h7 => ?_)
  · refine x_aload_n dX11_traveller_19 rfl ?_
    refine x_iconst dX11_traveller_20 li_1 ?_
    refine x_cvi (c_refuse) kX11_102 dX11_traveller_21 rfl (Nat.le_of_ble_eq_true rfl) rfl rfl (Nat.le_of_ble_eq_true rfl) (fun ru Mu hq => ?_)
    obtain ⟨rfl, rfl⟩ := hq
    refine x_iret dX11_traveller_24 rfl ?_
    refine qA_no (c := 1) ?_
    unfold a_traveller
    first
      | (rw [bI_eq.mp h7]; rfl)
      | (rw [wth_f1 (z := z2) (lo := 0) h11, Bool.and_false]; rfl)
      | (rw [wth_f2 (z := z2) (hi := 4) (Int32.not_le.mp h16), Bool.and_false]; rfl)
  · have qt := bI_ne.mp h7
    obtain ⟨t, ht, rfl⟩ := inr_of qt (by omega)
    refine x_iload_n dX11_traveller_10 rfl ?_
    refine x_if_lt 19 dX11_traveller_11 (by decide) (fun h11 => ?_) (fun h11 => ?_)
    · refine x_aload_n dX11_traveller_19 rfl ?_
      refine x_iconst dX11_traveller_20 li_1 ?_
      refine x_cvi (c_refuse) kX11_102 dX11_traveller_21 rfl (Nat.le_of_ble_eq_true rfl) rfl rfl (Nat.le_of_ble_eq_true rfl) (fun ru Mu hq => ?_)
      obtain ⟨rfl, rfl⟩ := hq
      refine x_iret dX11_traveller_24 rfl ?_
      refine qA_no (c := 1) ?_
      unfold a_traveller
      first
        | (rw [bI_eq.mp h7]; rfl)
        | (rw [wth_f1 (z := z2) (lo := 0) h11, Bool.and_false]; rfl)
        | (rw [wth_f2 (z := z2) (hi := 4) (Int32.not_le.mp h16), Bool.and_false]; rfl)
    · refine x_iload_n dX11_traveller_14 rfl ?_
      refine x_iconst dX11_traveller_15 li_4 ?_
      refine x_ic_le 25 dX11_traveller_16 (by decide) (fun h16 => ?_) (fun h16 => ?_)
      · have qw := wth_t (lo := 0) (hi := 4) h11 (Int32.not_lt.mpr h16)
        obtain ⟨w, -, hw, rfl⟩ := wth_of qw (by omega) (by omega)
        refine x_aload_n dX11_traveller_25 rfl ?_
        refine g_X_acts fX11_41 dX11_traveller_26 ?_
        refine g_Acts_now fX11_155 dX11_traveller_29 ?_
        refine x_iload_n dX11_traveller_32 rfl ?_
        refine aa_Acts_now dX11_traveller_33 rfl (by first | exact Nat.le_of_ble_eq_true rfl | assumption | omega) ?_
        refine x_astore_n dX11_traveller_34 (by decide) rfl ?_
        refine x_iload_n dX11_traveller_35 rfl ?_
        rcases (show w = 0 ∨ w = 1 ∨ w = 2 ∨ w = 3 ∨ w = 4 by omega) with rfl | rfl | rfl | rfl | rfl
        · refine x_tswIn 68 dX11_traveller_36 (by decide) (by decide) rfl (by decide) ?_
          refine x_aload_n dX11_traveller_68 rfl ?_
          refine x_aload_n dX11_traveller_69 rfl ?_
          refine g_X_told fX11_16 dX11_traveller_70 ?_
          refine g_Border_sort fX11_159 dX11_traveller_73 (by first | exact Nat.le_of_ble_eq_true rfl | assumption | omega) ?_
          refine x_iload_n dX11_traveller_76 rfl ?_
          refine x_iald dX11_traveller_77 rfl rfl (Nat.lt_of_lt_of_le (by first | assumption | omega | decide) (Nat.le_refl 2)) (by first | exact Nat.le_of_ble_eq_true rfl | assumption | omega) ?_
          rw [(hB.2.2.2.2.2.1 t ht).1]
          refine x_cvi (c_answer) kX11_127 dX11_traveller_78 rfl (Nat.le_of_ble_eq_true rfl) rfl rfl (Nat.le_of_ble_eq_true rfl) (fun ru Mu hq => ?_)
          obtain ⟨rfl, rfl⟩ := hq
          refine x_iret dX11_traveller_81 rfl ?_
          have ea : a_traveller V N (nI t) (nI 0) = (nI (V 9 t 0), 0) := by
            unfold a_traveller
            rw [qt, qw, zN_nI (by omega), zN_nI (by omega)]
            rfl
          rw [ea]
          exact ⟨_, rfl, rfl, _, rfl, KX.of Sm.rf⟩
        · refine x_tswIn 82 dX11_traveller_36 (by decide) (by decide) rfl (by decide) ?_
          refine x_aload_n dX11_traveller_82 rfl ?_
          refine x_aload_n dX11_traveller_83 rfl ?_
          refine g_X_told fX11_16 dX11_traveller_84 ?_
          refine g_Border_home fX11_162 dX11_traveller_87 (by first | exact Nat.le_of_ble_eq_true rfl | assumption | omega) ?_
          refine x_iload_n dX11_traveller_90 rfl ?_
          refine x_iald dX11_traveller_91 rfl rfl (Nat.lt_of_lt_of_le (by first | assumption | omega | decide) (Nat.le_refl 2)) (by first | exact Nat.le_of_ble_eq_true rfl | assumption | omega) ?_
          rw [(hB.2.2.2.2.2.1 t ht).2.1]
          refine x_cvi (c_answer) kX11_127 dX11_traveller_92 rfl (Nat.le_of_ble_eq_true rfl) rfl rfl (Nat.le_of_ble_eq_true rfl) (fun ru Mu hq => ?_)
          obtain ⟨rfl, rfl⟩ := hq
          refine x_iret dX11_traveller_95 rfl ?_
          have ea : a_traveller V N (nI t) (nI 1) = (nI (V 10 t 0), 0) := by
            unfold a_traveller
            rw [qt, qw, zN_nI (by omega), zN_nI (by omega)]
            rfl
          rw [ea]
          exact ⟨_, rfl, rfl, _, rfl, KX.of Sm.rf⟩
        · refine x_tswIn 96 dX11_traveller_36 (by decide) (by decide) rfl (by decide) ?_
          refine x_aload_n dX11_traveller_96 rfl ?_
          refine x_aload_n dX11_traveller_97 rfl ?_
          refine g_Person_place fX11_165 dX11_traveller_98 (Nat.lt_of_lt_of_le (show t < 4 by omega) (by decide)) ?_
          rw [(hN t ht).1 0 (by omega)]
          refine x_cvi (c_answer) kX11_127 dX11_traveller_101 rfl (Nat.le_of_ble_eq_true rfl) rfl rfl (Nat.le_of_ble_eq_true rfl) (fun ru Mu hq => ?_)
          obtain ⟨rfl, rfl⟩ := hq
          refine x_iret dX11_traveller_104 rfl ?_
          have ea : a_traveller V N (nI t) (nI 2) = (nI (N t 0), 0) := by
            unfold a_traveller
            rw [qt, qw, zN_nI (by omega), zN_nI (by omega)]
            rfl
          rw [ea]
          exact ⟨_, rfl, rfl, _, rfl, KX.of Sm.rf⟩
        · refine x_tswIn 105 dX11_traveller_36 (by decide) (by decide) rfl (by decide) ?_
          refine x_aload_n dX11_traveller_105 rfl ?_
          refine x_aload_n dX11_traveller_106 rfl ?_
          refine g_Person_paid fX11_170 dX11_traveller_107 (Nat.lt_of_lt_of_le (show t < 4 by omega) (by decide)) ?_
          rw [(hN t ht).1 1 (by omega)]
          refine x_cvi (c_answer) kX11_127 dX11_traveller_110 rfl (Nat.le_of_ble_eq_true rfl) rfl rfl (Nat.le_of_ble_eq_true rfl) (fun ru Mu hq => ?_)
          obtain ⟨rfl, rfl⟩ := hq
          refine x_iret dX11_traveller_113 rfl ?_
          have ea : a_traveller V N (nI t) (nI 3) = (nI (N t 1), 0) := by
            unfold a_traveller
            rw [qt, qw, zN_nI (by omega), zN_nI (by omega)]
            rfl
          rw [ea]
          exact ⟨_, rfl, rfl, _, rfl, KX.of Sm.rf⟩
        · refine x_tswOut 114 dX11_traveller_36 (by decide) (by decide) ?_
          refine x_aload_n dX11_traveller_114 rfl ?_
          refine x_aload_n dX11_traveller_115 rfl ?_
          refine g_Person_hours fX11_173 dX11_traveller_116 (Nat.lt_of_lt_of_le (show t < 4 by omega) (by decide)) ?_
          rw [(hN t ht).1 2 (by omega)]
          refine x_cvi (c_answer) kX11_127 dX11_traveller_119 rfl (Nat.le_of_ble_eq_true rfl) rfl rfl (Nat.le_of_ble_eq_true rfl) (fun ru Mu hq => ?_)
          obtain ⟨rfl, rfl⟩ := hq
          refine x_iret dX11_traveller_122 rfl ?_
          have ea : a_traveller V N (nI t) (nI 4) = (nI (N t 2), 0) := by
            unfold a_traveller
            rw [qt, qw, zN_nI (by omega), zN_nI (by omega)]
            rfl
          rw [ea]
          exact ⟨_, rfl, rfl, _, rfl, KX.of Sm.rf⟩
      · refine x_aload_n dX11_traveller_19 rfl ?_
        refine x_iconst dX11_traveller_20 li_1 ?_
        refine x_cvi (c_refuse) kX11_102 dX11_traveller_21 rfl (Nat.le_of_ble_eq_true rfl) rfl rfl (Nat.le_of_ble_eq_true rfl) (fun ru Mu hq => ?_)
        obtain ⟨rfl, rfl⟩ := hq
        refine x_iret dX11_traveller_24 rfl ?_
        refine qA_no (c := 1) ?_
        unfold a_traveller
        first
          | (rw [bI_eq.mp h7]; rfl)
          | (rw [wth_f1 (z := z2) (lo := 0) h11, Bool.and_false]; rfl)
          | (rw [wth_f2 (z := z2) (hi := 4) (Int32.not_le.mp h16), Bool.and_false]; rfl)
set_option maxRecDepth 100000 in
set_option maxHeartbeats 4000000 in
theorem x_path_c (hS : SW V N h mk) (hX : XS V N h mk I) {z1 z2 : Int32} : Mt G vX11_path (d + 2) (0, 0) [.ref (ad 11 0), .int (z1), .int (z2)] (MM ad nb b r I L) (qA ad nb b r I L (a_path V z1 z2)) := by
  have hV := hS.1
  obtain ⟨hB, hN, hH, hK⟩ := hX
  have hW := hS.2.1
  have v0 := hV.1
  have v1 := hV.2.1
  have v2 := hV.2.2.1
  have v3 := hV.2.2.2.1
  have v4 := hV.2.2.2.2.1
  have v7 := hV.2.2.2.2.2.2.2.1
  have v9 := hV.2.2.2.2.2.2.2.2.2.1
  have v10 := hV.2.2.2.2.2.2.2.2.2.2.1
  refine x_start (by decide) (Nat.le_of_ble_eq_true rfl) ?_
  refine x_aload_n dX11_path_0 rfl ?_
  refine x_iconst dX11_path_1 li_4 ?_
  refine x_iload_n dX11_path_2 rfl ?_
  refine x_cvi (c_isOne hV (so := 4) (by omega) (by omega) (hB.1 4 (by omega))) kX11_133 dX11_path_3 rfl (Nat.le_of_ble_eq_true rfl) rfl rfl (Nat.le_of_ble_eq_true rfl) (fun ru Mu hq => ?_)
  obtain ⟨rfl, rfl⟩ := hq
  refine x_if_eq 23 dX11_path_6 (by decide) (fun h6 => ?_) (fun h6 => ?_)
  · refine x_aload_n dX11_path_23 rfl ?_
    refine x_iconst dX11_path_24 li_1 ?_
    refine x_cvi (c_refuse) kX11_102 dX11_path_25 rfl (Nat.le_of_ble_eq_true rfl) rfl rfl (Nat.le_of_ble_eq_true rfl) (fun ru Mu hq => ?_)
    obtain ⟨rfl, rfl⟩ := hq
    refine x_iret dX11_path_28 rfl ?_
    refine qA_no (c := 1) ?_
    unfold a_path
    first
      | (rw [bI_eq.mp h6]; rfl)
      | (rw [bI_eq.mp h15, Bool.false_and, Bool.and_false]; rfl)
      | (rw [show decide (nI s ≠ nI w) = false from decide_eq_false (fun z => z (by rw [h20])), Bool.and_false, Bool.and_false]; rfl)
  · have qs := bI_ne.mp h6
    obtain ⟨s, hs, rfl⟩ := inr_of qs (by omega)
    refine x_aload_n dX11_path_9 rfl ?_
    refine x_iconst dX11_path_10 li_4 ?_
    refine x_iload_n dX11_path_11 rfl ?_
    refine x_cvi (c_isOne hV (so := 4) (by omega) (by omega) (hB.1 4 (by omega))) kX11_133 dX11_path_12 rfl (Nat.le_of_ble_eq_true rfl) rfl rfl (Nat.le_of_ble_eq_true rfl) (fun ru Mu hq => ?_)
    obtain ⟨rfl, rfl⟩ := hq
    refine x_if_eq 23 dX11_path_15 (by decide) (fun h15 => ?_) (fun h15 => ?_)
    · refine x_aload_n dX11_path_23 rfl ?_
      refine x_iconst dX11_path_24 li_1 ?_
      refine x_cvi (c_refuse) kX11_102 dX11_path_25 rfl (Nat.le_of_ble_eq_true rfl) rfl rfl (Nat.le_of_ble_eq_true rfl) (fun ru Mu hq => ?_)
      obtain ⟨rfl, rfl⟩ := hq
      refine x_iret dX11_path_28 rfl ?_
      refine qA_no (c := 1) ?_
      unfold a_path
      first
        | (rw [bI_eq.mp h6]; rfl)
        | (rw [bI_eq.mp h15, Bool.false_and, Bool.and_false]; rfl)
        | (rw [show decide (nI s ≠ nI w) = false from decide_eq_false (fun z => z (by rw [h20])), Bool.and_false, Bool.and_false]; rfl)
    · have qw := bI_ne.mp h15
      obtain ⟨w, hw, rfl⟩ := inr_of qw (by omega)
      refine x_iload_n dX11_path_18 rfl ?_
      refine x_iload_n dX11_path_19 rfl ?_
      refine x_icN_ne 29 dX11_path_20 (by decide) (by omega) (by omega) (fun h20 => ?_) (fun h20 => ?_)
      · refine x_aload_n dX11_path_29 rfl ?_
        refine g_X_told fX11_16 dX11_path_30 ?_
        refine g_Border_hours fX11_176 dX11_path_33 (by first | exact Nat.le_of_ble_eq_true rfl | assumption | omega) ?_
        refine x_iload_n dX11_path_36 rfl ?_
        refine aa_Border_hours0 dX11_path_37 rfl (by first | exact Nat.le_of_ble_eq_true rfl | assumption | omega) ?_
        refine x_iload_n dX11_path_38 rfl ?_
        refine x_iald dX11_path_39 rfl rfl (Nat.lt_of_lt_of_le (by first | assumption | omega | decide) (Nat.le_refl 12)) (by first | exact Nat.le_of_ble_eq_true rfl | assumption | omega) ?_
        have h40 := hV.2.2.2.2.2.2.2.2.2.2.2.2.2.2.2.2.1 s w
        have eh : I 31 s w = nI (V 7 s w) := (hB.2.2.2.2.2.2.2.2.2.1 _ _ (by omega) (by omega)).1
        rw [eh]
        refine x_istore_n dX11_path_40 (by decide) rfl ?_
        refine x_aload_n dX11_path_41 rfl ?_
        refine x_iload_n dX11_path_42 rfl ?_
        refine x_ifN_ne 51 dX11_path_43 (by decide) (by omega) (fun h43 => ?_) (fun h43 => ?_)
        · refine x_iload_n dX11_path_51 rfl ?_
          refine x_cvi (c_answer) kX11_127 dX11_path_52 rfl (Nat.le_of_ble_eq_true rfl) rfl rfl (Nat.le_of_ble_eq_true rfl) (fun ru Mu hq => ?_)
          obtain ⟨rfl, rfl⟩ := hq
          refine x_iret dX11_path_55 rfl ?_
          have hne : decide (nI s ≠ nI w) = true := decide_eq_true (fun z => h20 ((nI_eq (by omega) (by omega)).mp z))
          have ea : a_path V (nI s) (nI w) = (if V 7 s w = 0 then -2 else nI (V 7 s w), 0) := by
            unfold a_path
            rw [qs, qw, hne, zN_nI (by omega), zN_nI (by omega)]
            rfl
          rw [ea]
          first | rw [if_pos h43] | rw [if_neg (by omega)]
          exact ⟨_, rfl, rfl, _, rfl, KX.of Sm.rf⟩
        · refine x_bipush dX11_path_46 lb_m2 ?_
          refine x_goto 52 dX11_path_48 (by decide) ?_
          refine x_cvi (c_answer) kX11_127 dX11_path_52 rfl (Nat.le_of_ble_eq_true rfl) rfl rfl (Nat.le_of_ble_eq_true rfl) (fun ru Mu hq => ?_)
          obtain ⟨rfl, rfl⟩ := hq
          refine x_iret dX11_path_55 rfl ?_
          have hne : decide (nI s ≠ nI w) = true := decide_eq_true (fun z => h20 ((nI_eq (by omega) (by omega)).mp z))
          have ea : a_path V (nI s) (nI w) = (if V 7 s w = 0 then -2 else nI (V 7 s w), 0) := by
            unfold a_path
            rw [qs, qw, hne, zN_nI (by omega), zN_nI (by omega)]
            rfl
          rw [ea]
          first | rw [if_pos h43] | rw [if_neg (by omega)]
          exact ⟨_, rfl, rfl, _, rfl, KX.of Sm.rf⟩
      · refine x_aload_n dX11_path_23 rfl ?_
        refine x_iconst dX11_path_24 li_1 ?_
        refine x_cvi (c_refuse) kX11_102 dX11_path_25 rfl (Nat.le_of_ble_eq_true rfl) rfl rfl (Nat.le_of_ble_eq_true rfl) (fun ru Mu hq => ?_)
        obtain ⟨rfl, rfl⟩ := hq
        refine x_iret dX11_path_28 rfl ?_
        refine qA_no (c := 1) ?_
        unfold a_path
        first
          | (rw [bI_eq.mp h6]; rfl)
          | (rw [bI_eq.mp h15, Bool.false_and, Bool.and_false]; rfl)
          | (rw [show decide (nI s ≠ nI w) = false from decide_eq_false (fun z => z (by rw [h20])), Bool.and_false, Bool.and_false]; rfl)
set_option maxRecDepth 100000 in
set_option maxHeartbeats 4000000 in
theorem x_strength_c (hS : SW V N h mk) (hX : XS V N h mk I) {z1 z2 z3 : Int32} : Mt G vX11_strength (d + 2 + 1 + 1) (0, 0) [.ref (ad 11 0), .int (z1), .int (z2), .int (z3)] (MM ad nb b r I L) (qA ad nb b r I L (a_strength V N z1 z2 z3)) := by
  have hV := hS.1
  obtain ⟨hB, hN, hH, hK⟩ := hX
  have hW := hS.2.1
  have v0 := hV.1
  have v1 := hV.2.1
  have v2 := hV.2.2.1
  have v3 := hV.2.2.2.1
  have v4 := hV.2.2.2.2.1
  have v7 := hV.2.2.2.2.2.2.2.1
  have v9 := hV.2.2.2.2.2.2.2.2.2.1
  have v10 := hV.2.2.2.2.2.2.2.2.2.2.1
  refine x_start (by decide) (Nat.le_of_ble_eq_true rfl) ?_
  refine x_aload_n dX11_strength_0 rfl ?_
  refine x_iload_n dX11_strength_1 rfl ?_
  refine x_iconst dX11_strength_2 li_2 ?_
  refine x_iload_n dX11_strength_3 rfl ?_
  refine x_iload_n dX11_strength_4 rfl ?_
  refine x_cvi (c_whyNotBehind hV hB (so := 2) (t := z1) (z := z2) (H := z3) (by decide)) kX11_179 dX11_strength_5 rfl (Nat.le_of_ble_eq_true rfl) rfl rfl (Nat.le_of_ble_eq_true rfl) (fun ru Mu hq => ?_)
  obtain ⟨rfl, rfl⟩ := hq
  refine x_istore dX11_strength_8 (by decide) rfl ?_
  refine x_iload dX11_strength_10 rfl ?_
  refine x_ifN_eq 22 dX11_strength_12 (by decide) (by unfold wnb; split; split; omega; omega; omega) (fun h12 => ?_) (fun h12 => ?_)
  · obtain ⟨t, z, H, ht, hz, hHb, rfl, rfl, rfl⟩ := wnb_0 hV (by decide) h12
    refine x_aload_n dX11_strength_22 rfl ?_
    refine g_X_air fX11_34 dX11_strength_23 ?_
    refine x_aload_n dX11_strength_26 rfl ?_
    refine g_X_acts fX11_41 dX11_strength_27 ?_
    refine g_Acts_now fX11_155 dX11_strength_30 ?_
    refine x_iload_n dX11_strength_33 rfl ?_
    refine aa_Acts_now dX11_strength_34 rfl (by first | exact Nat.le_of_ble_eq_true rfl | assumption | omega) ?_
    refine g_Person_halves fX11_183 dX11_strength_35 (Nat.lt_of_lt_of_le (show t < 4 by omega) (by decide)) ?_
    refine x_iload_n dX11_strength_38 rfl ?_
    refine x_iconst dX11_strength_39 li_0 ?_
    refine x_cvv (c_take (h := 43) (j := t) (f := fun s => N t (3 + s)) rfl (by decide) (Nat.lt_of_lt_of_le (show t < 4 by omega) (Nat.le_of_ble_eq_true rfl)) hV hB (fun s hs => ⟨(hN t ht).2 s hs, (hW t ht).2 s hs⟩) (by omega) (by omega)) kX11_186 dX11_strength_40 rfl (Nat.le_of_ble_eq_true rfl) rfl rfl (Nat.le_of_ble_eq_true rfl) (fun M2 hq2 => ?_)
    obtain ⟨I2, rfl, hA2, hS2⟩ := hq2
    have hB2 : XB V 0 I2 := hB.sm (fun s h1 h2 => hS2 s (by omega))
    have hg2 : ∀ s, s < 6 → str V (fun s => N t (3 + s)) H 0 s ≤ 99 := fun s hs => str_le ((hW t ht).2 s hs)
    refine x_aload_n dX11_strength_43 rfl ?_
    refine x_aload_n dX11_strength_44 rfl ?_
    refine g_X_air fX11_34 dX11_strength_45 ?_
    refine g_Air_strong fX11_190 dX11_strength_48 ?_
    refine x_iload_n dX11_strength_51 rfl ?_
    refine x_iald dX11_strength_52 rfl rfl (Nat.le_of_ble_eq_true rfl) (by first | exact Nat.le_of_ble_eq_true rfl | assumption | omega) ?_
    rw [hA2.1 z hz]
    refine x_cvi (c_answer) kX11_127 dX11_strength_53 rfl (Nat.le_of_ble_eq_true rfl) rfl rfl (Nat.le_of_ble_eq_true rfl) (fun ru Mu hq => ?_)
    obtain ⟨rfl, rfl⟩ := hq
    refine x_iret dX11_strength_56 rfl ?_
    have ea : a_strength V N (nI t) (nI z) (nI H) = (nI (str V (fun s => N t (3 + s)) H 0 z), 0) := by unfold a_strength a_bh; rw [if_pos h12, zN_nI (by omega), zN_nI (by omega), zN_nI (by omega)]
    rw [ea]
    exact ⟨_, rfl, rfl, _, rfl, KX.of (hS2.wk (fun s h => by unfold scr; omega))⟩
  · refine x_aload_n dX11_strength_15 rfl ?_
    refine x_iload dX11_strength_16 rfl ?_
    refine x_cvi (c_refuse) kX11_102 dX11_strength_18 rfl (Nat.le_of_ble_eq_true rfl) rfl rfl (Nat.le_of_ble_eq_true rfl) (fun ru Mu hq => ?_)
    obtain ⟨rfl, rfl⟩ := hq
    refine x_iret dX11_strength_21 rfl ?_
    have ea : a_strength V N z1 z2 z3 = (-1, wnb V z1 2 z2 z3) := by unfold a_strength a_bh; rw [if_neg (by omega)]
    rw [ea]
    exact ⟨_, rfl, rfl, _, rfl, KX.of Sm.rf⟩
set_option maxRecDepth 100000 in
set_option maxHeartbeats 4000000 in
theorem x_covered_c (hS : SW V N h mk) (hX : XS V N h mk I) {z1 z2 z3 : Int32} : Mt G vX11_covered (d + 2 + 1 + 1) (0, 0) [.ref (ad 11 0), .int (z1), .int (z2), .int (z3)] (MM ad nb b r I L) (qA ad nb b r I L (a_covered V N z1 z2 z3)) := by
  have hV := hS.1
  obtain ⟨hB, hN, hH, hK⟩ := hX
  have hW := hS.2.1
  have v0 := hV.1
  have v1 := hV.2.1
  have v2 := hV.2.2.1
  have v3 := hV.2.2.2.1
  have v4 := hV.2.2.2.2.1
  have v7 := hV.2.2.2.2.2.2.2.1
  have v9 := hV.2.2.2.2.2.2.2.2.2.1
  have v10 := hV.2.2.2.2.2.2.2.2.2.2.1
  refine x_start (by decide) (Nat.le_of_ble_eq_true rfl) ?_
  refine x_aload_n dX11_covered_0 rfl ?_
  refine x_iload_n dX11_covered_1 rfl ?_
  refine x_iconst dX11_covered_2 li_2 ?_
  refine x_iload_n dX11_covered_3 rfl ?_
  refine x_iload_n dX11_covered_4 rfl ?_
  refine x_cvi (c_whyNotBehind hV hB (so := 2) (t := z1) (z := z2) (H := z3) (by decide)) kX11_179 dX11_covered_5 rfl (Nat.le_of_ble_eq_true rfl) rfl rfl (Nat.le_of_ble_eq_true rfl) (fun ru Mu hq => ?_)
  obtain ⟨rfl, rfl⟩ := hq
  refine x_istore dX11_covered_8 (by decide) rfl ?_
  refine x_iload dX11_covered_10 rfl ?_
  refine x_ifN_eq 22 dX11_covered_12 (by decide) (by unfold wnb; split; split; omega; omega; omega) (fun h12 => ?_) (fun h12 => ?_)
  · obtain ⟨t, z, H, ht, hz, hHb, rfl, rfl, rfl⟩ := wnb_0 hV (by decide) h12
    refine x_aload_n dX11_covered_22 rfl ?_
    refine g_X_air fX11_34 dX11_covered_23 ?_
    refine x_aload_n dX11_covered_26 rfl ?_
    refine g_X_acts fX11_41 dX11_covered_27 ?_
    refine g_Acts_now fX11_155 dX11_covered_30 ?_
    refine x_iload_n dX11_covered_33 rfl ?_
    refine aa_Acts_now dX11_covered_34 rfl (by first | exact Nat.le_of_ble_eq_true rfl | assumption | omega) ?_
    refine g_Person_halves fX11_183 dX11_covered_35 (Nat.lt_of_lt_of_le (show t < 4 by omega) (by decide)) ?_
    refine x_iload_n dX11_covered_38 rfl ?_
    refine x_iconst dX11_covered_39 li_0 ?_
    refine x_cvv (c_take (h := 43) (j := t) (f := fun s => N t (3 + s)) rfl (by decide) (Nat.lt_of_lt_of_le (show t < 4 by omega) (Nat.le_of_ble_eq_true rfl)) hV hB (fun s hs => ⟨(hN t ht).2 s hs, (hW t ht).2 s hs⟩) (by omega) (by omega)) kX11_186 dX11_covered_40 rfl (Nat.le_of_ble_eq_true rfl) rfl rfl (Nat.le_of_ble_eq_true rfl) (fun M2 hq2 => ?_)
    obtain ⟨I2, rfl, hA2, hS2⟩ := hq2
    have hB2 : XB V 0 I2 := hB.sm (fun s h1 h2 => hS2 s (by omega))
    have hg2 : ∀ s, s < 6 → str V (fun s => N t (3 + s)) H 0 s ≤ 99 := fun s hs => str_le ((hW t ht).2 s hs)
    refine x_aload_n dX11_covered_43 rfl ?_
    refine x_aload_n dX11_covered_44 rfl ?_
    refine g_X_air fX11_34 dX11_covered_45 ?_
    refine x_iload_n dX11_covered_48 rfl ?_
    refine x_cvi (c_uncovered hV hB2 hA2 hg2 hz) kX11_193 dX11_covered_49 rfl (Nat.le_of_ble_eq_true rfl) rfl rfl (Nat.le_of_ble_eq_true rfl) (fun ru Mu hq => ?_)
    obtain ⟨rfl, rfl⟩ := hq
    refine x_cvi (c_answer) kX11_127 dX11_covered_52 rfl (Nat.le_of_ble_eq_true rfl) rfl rfl (Nat.le_of_ble_eq_true rfl) (fun ru Mu hq => ?_)
    obtain ⟨rfl, rfl⟩ := hq
    refine x_iret dX11_covered_55 rfl ?_
    have ea : a_covered V N (nI t) (nI z) (nI H) = (nI (unc V (str V (fun s => N t (3 + s)) H 0) z), 0) := by unfold a_covered a_bh; rw [if_pos h12, zN_nI (by omega), zN_nI (by omega), zN_nI (by omega)]
    rw [ea]
    exact ⟨_, rfl, rfl, _, rfl, KX.of (hS2.wk (fun s h => by unfold scr; omega))⟩
  · refine x_aload_n dX11_covered_15 rfl ?_
    refine x_iload dX11_covered_16 rfl ?_
    refine x_cvi (c_refuse) kX11_102 dX11_covered_18 rfl (Nat.le_of_ble_eq_true rfl) rfl rfl (Nat.le_of_ble_eq_true rfl) (fun ru Mu hq => ?_)
    obtain ⟨rfl, rfl⟩ := hq
    refine x_iret dX11_covered_21 rfl ?_
    have ea : a_covered V N z1 z2 z3 = (-1, wnb V z1 2 z2 z3) := by unfold a_covered a_bh; rw [if_neg (by omega)]
    rw [ea]
    exact ⟨_, rfl, rfl, _, rfl, KX.of Sm.rf⟩
set_option maxRecDepth 100000 in
set_option maxHeartbeats 4000000 in
theorem x_smelt_c (hS : SW V N h mk) (hX : XS V N h mk I) {z1 z2 z3 : Int32} : Mt G vX11_smelt (d + 2 + 1 + 1) (0, 0) [.ref (ad 11 0), .int (z1), .int (z2), .int (z3)] (MM ad nb b r I L) (qA ad nb b r I L (a_smelt V N z1 z2 z3)) := by
  have hV := hS.1
  obtain ⟨hB, hN, hH, hK⟩ := hX
  have hW := hS.2.1
  have v0 := hV.1
  have v1 := hV.2.1
  have v2 := hV.2.2.1
  have v3 := hV.2.2.2.1
  have v4 := hV.2.2.2.2.1
  have v7 := hV.2.2.2.2.2.2.2.1
  have v9 := hV.2.2.2.2.2.2.2.2.2.1
  have v10 := hV.2.2.2.2.2.2.2.2.2.2.1
  refine x_start (by decide) (Nat.le_of_ble_eq_true rfl) ?_
  refine x_aload_n dX11_smelt_0 rfl ?_
  refine x_iload_n dX11_smelt_1 rfl ?_
  refine x_iconst dX11_smelt_2 li_3 ?_
  refine x_iload_n dX11_smelt_3 rfl ?_
  refine x_iload_n dX11_smelt_4 rfl ?_
  refine x_cvi (c_whyNotBehind hV hB (so := 3) (t := z1) (z := z2) (H := z3) (by decide)) kX11_179 dX11_smelt_5 rfl (Nat.le_of_ble_eq_true rfl) rfl rfl (Nat.le_of_ble_eq_true rfl) (fun ru Mu hq => ?_)
  obtain ⟨rfl, rfl⟩ := hq
  refine x_istore dX11_smelt_8 (by decide) rfl ?_
  refine x_iload dX11_smelt_10 rfl ?_
  refine x_ifN_eq 22 dX11_smelt_12 (by decide) (by unfold wnb; split; split; omega; omega; omega) (fun h12 => ?_) (fun h12 => ?_)
  · obtain ⟨t, z, H, ht, hz, hHb, rfl, rfl, rfl⟩ := wnb_0 hV (by decide) h12
    refine x_aload_n dX11_smelt_22 rfl ?_
    refine g_X_air fX11_34 dX11_smelt_23 ?_
    refine x_aload_n dX11_smelt_26 rfl ?_
    refine g_X_acts fX11_41 dX11_smelt_27 ?_
    refine g_Acts_now fX11_155 dX11_smelt_30 ?_
    refine x_iload_n dX11_smelt_33 rfl ?_
    refine aa_Acts_now dX11_smelt_34 rfl (by first | exact Nat.le_of_ble_eq_true rfl | assumption | omega) ?_
    refine g_Person_halves fX11_183 dX11_smelt_35 (Nat.lt_of_lt_of_le (show t < 4 by omega) (by decide)) ?_
    refine x_iload_n dX11_smelt_38 rfl ?_
    refine x_iconst dX11_smelt_39 li_0 ?_
    refine x_cvv (c_take (h := 43) (j := t) (f := fun s => N t (3 + s)) rfl (by decide) (Nat.lt_of_lt_of_le (show t < 4 by omega) (Nat.le_of_ble_eq_true rfl)) hV hB (fun s hs => ⟨(hN t ht).2 s hs, (hW t ht).2 s hs⟩) (by omega) (by omega)) kX11_186 dX11_smelt_40 rfl (Nat.le_of_ble_eq_true rfl) rfl rfl (Nat.le_of_ble_eq_true rfl) (fun M2 hq2 => ?_)
    obtain ⟨I2, rfl, hA2, hS2⟩ := hq2
    have hB2 : XB V 0 I2 := hB.sm (fun s h1 h2 => hS2 s (by omega))
    have hg2 : ∀ s, s < 6 → str V (fun s => N t (3 + s)) H 0 s ≤ 99 := fun s hs => str_le ((hW t ht).2 s hs)
    refine x_aload_n dX11_smelt_43 rfl ?_
    refine x_aload_n dX11_smelt_44 rfl ?_
    refine g_X_air fX11_34 dX11_smelt_45 ?_
    refine x_aload_n dX11_smelt_48 rfl ?_
    refine g_X_told fX11_16 dX11_smelt_49 ?_
    refine g_Border_noseSkill fX11_196 dX11_smelt_52 (by first | exact Nat.le_of_ble_eq_true rfl | assumption | omega) ?_
    refine x_iload_n dX11_smelt_55 rfl ?_
    refine x_iald dX11_smelt_56 rfl rfl (Nat.lt_of_lt_of_le (by first | assumption | omega | decide) (Nat.le_refl 2)) (by first | exact Nat.le_of_ble_eq_true rfl | assumption | omega) ?_
    have hsk := (hV.2.2.2.2.2.2.2.2.2.2.2.2.2.2.1 z hz).2
    rw [hB2.2.2.2.1 z hz]
    refine x_cvi (c_smeltBy hV hB2 hA2 hg2 hsk) kX11_199 dX11_smelt_57 rfl (Nat.le_of_ble_eq_true rfl) rfl rfl (Nat.le_of_ble_eq_true rfl) (fun ru Mu hq => ?_)
    obtain ⟨rfl, rfl⟩ := hq
    refine x_cvi (c_answer) kX11_127 dX11_smelt_60 rfl (Nat.le_of_ble_eq_true rfl) rfl rfl (Nat.le_of_ble_eq_true rfl) (fun ru Mu hq => ?_)
    obtain ⟨rfl, rfl⟩ := hq
    refine x_iret dX11_smelt_63 rfl ?_
    have ea : a_smelt V N (nI t) (nI z) (nI H) = (nI (smb V (str V (fun s => N t (3 + s)) H 0) (V 4 z 0) (V 0 2 0)), 0) := by unfold a_smelt a_bh; rw [if_pos h12, zN_nI (by omega), zN_nI (by omega), zN_nI (by omega)]
    rw [ea]
    exact ⟨_, rfl, rfl, _, rfl, KX.of (hS2.wk (fun s h => by unfold scr; omega))⟩
  · refine x_aload_n dX11_smelt_15 rfl ?_
    refine x_iload dX11_smelt_16 rfl ?_
    refine x_cvi (c_refuse) kX11_102 dX11_smelt_18 rfl (Nat.le_of_ble_eq_true rfl) rfl rfl (Nat.le_of_ble_eq_true rfl) (fun ru Mu hq => ?_)
    obtain ⟨rfl, rfl⟩ := hq
    refine x_iret dX11_smelt_21 rfl ?_
    have ea : a_smelt V N z1 z2 z3 = (-1, wnb V z1 3 z2 z3) := by unfold a_smelt a_bh; rw [if_neg (by omega)]
    rw [ea]
    exact ⟨_, rfl, rfl, _, rfl, KX.of Sm.rf⟩
set_option maxRecDepth 100000 in
set_option maxHeartbeats 4000000 in
theorem x_duty_c (hS : SW V N h mk) (hX : XS V N h mk I) {z1 z2 z3 : Int32} : Mt G vX11_duty (d + 2 + 1 + 1) (0, 0) [.ref (ad 11 0), .int (z1), .int (z2), .int (z3)] (MM ad nb b r I L) (qA ad nb b r I L (a_duty V N z1 z2 z3)) := by
  have hV := hS.1
  obtain ⟨hB, hN, hH, hK⟩ := hX
  have hW := hS.2.1
  have v0 := hV.1
  have v1 := hV.2.1
  have v2 := hV.2.2.1
  have v3 := hV.2.2.2.1
  have v4 := hV.2.2.2.2.1
  have v7 := hV.2.2.2.2.2.2.2.1
  have v9 := hV.2.2.2.2.2.2.2.2.2.1
  have v10 := hV.2.2.2.2.2.2.2.2.2.2.1
  refine x_start (by decide) (Nat.le_of_ble_eq_true rfl) ?_
  refine x_aload_n dX11_duty_0 rfl ?_
  refine x_iload_n dX11_duty_1 rfl ?_
  refine x_iconst dX11_duty_2 li_4 ?_
  refine x_iload_n dX11_duty_3 rfl ?_
  refine x_iload_n dX11_duty_4 rfl ?_
  refine x_cvi (c_whyNotBehind hV hB (so := 4) (t := z1) (z := z2) (H := z3) (by decide)) kX11_179 dX11_duty_5 rfl (Nat.le_of_ble_eq_true rfl) rfl rfl (Nat.le_of_ble_eq_true rfl) (fun ru Mu hq => ?_)
  obtain ⟨rfl, rfl⟩ := hq
  refine x_istore dX11_duty_8 (by decide) rfl ?_
  refine x_iload dX11_duty_10 rfl ?_
  refine x_ifN_eq 22 dX11_duty_12 (by decide) (by unfold wnb; split; split; omega; omega; omega) (fun h12 => ?_) (fun h12 => ?_)
  · obtain ⟨t, z, H, ht, hz, hHb, rfl, rfl, rfl⟩ := wnb_0 hV (by decide) h12
    refine x_aload_n dX11_duty_22 rfl ?_
    refine x_aload_n dX11_duty_23 rfl ?_
    refine x_iload_n dX11_duty_24 rfl ?_
    refine x_iload_n dX11_duty_25 rfl ?_
    refine x_iload_n dX11_duty_26 rfl ?_
    refine x_cvi (c_dutyBehind (d := d) hV hB hN hW ht hz (by omega)) kX11_202 dX11_duty_27 rfl (Nat.le_of_ble_eq_true rfl) rfl rfl (Nat.le_of_ble_eq_true rfl) (fun ru M2 hq2 => ?_)
    obtain ⟨rfl, I2, rfl, hS2⟩ := hq2
    refine x_cvi (c_answer) kX11_127 dX11_duty_30 rfl (Nat.le_of_ble_eq_true rfl) rfl rfl (Nat.le_of_ble_eq_true rfl) (fun ru Mu hq => ?_)
    obtain ⟨rfl, rfl⟩ := hq
    refine x_iret dX11_duty_33 rfl ?_
    have ea : a_duty V N (nI t) (nI z) (nI H) = (nI (dbh V N t z H), 0) := by unfold a_duty a_bh; rw [if_pos h12, zN_nI (by omega), zN_nI (by omega), zN_nI (by omega)]
    rw [ea]
    exact ⟨_, rfl, rfl, _, rfl, KX.of (hS2.wk (fun s h => by unfold scr; omega))⟩
  · refine x_aload_n dX11_duty_15 rfl ?_
    refine x_iload dX11_duty_16 rfl ?_
    refine x_cvi (c_refuse) kX11_102 dX11_duty_18 rfl (Nat.le_of_ble_eq_true rfl) rfl rfl (Nat.le_of_ble_eq_true rfl) (fun ru Mu hq => ?_)
    obtain ⟨rfl, rfl⟩ := hq
    refine x_iret dX11_duty_21 rfl ?_
    have ea : a_duty V N z1 z2 z3 = (-1, wnb V z1 4 z2 z3) := by unfold a_duty a_bh; rw [if_neg (by omega)]
    rw [ea]
    exact ⟨_, rfl, rfl, _, rfl, KX.of Sm.rf⟩
set_option maxRecDepth 100000 in
set_option maxHeartbeats 4000000 in
theorem x_claim_c (hS : SW V N h mk) (hX : XS V N h mk I) {z1 z2 : Int32} : Mt G vX11_claim (d + 2 + 1) (0, 0) [.ref (ad 11 0), .int (z1), .int (z2)] (MM ad nb b r I L) (qA ad nb b r I L (a_claim V N z1 z2)) := by
  have hV := hS.1
  obtain ⟨hB, hN, hH, hK⟩ := hX
  have hW := hS.2.1
  have v0 := hV.1
  have v1 := hV.2.1
  have v2 := hV.2.2.1
  have v3 := hV.2.2.2.1
  have v4 := hV.2.2.2.2.1
  have v7 := hV.2.2.2.2.2.2.2.1
  have v9 := hV.2.2.2.2.2.2.2.2.2.1
  have v10 := hV.2.2.2.2.2.2.2.2.2.2.1
  refine x_start (by decide) (Nat.le_of_ble_eq_true rfl) ?_
  refine x_aload_n dX11_claim_0 rfl ?_
  refine x_bipush dX11_claim_1 lb_7 ?_
  refine x_iload_n dX11_claim_3 rfl ?_
  refine x_cvi (c_isOne hV (so := 7) (by omega) (by omega) (hB.1 7 (by omega))) kX11_133 dX11_claim_4 rfl (Nat.le_of_ble_eq_true rfl) rfl rfl (Nat.le_of_ble_eq_true rfl) (fun ru Mu hq => ?_)
  obtain ⟨rfl, rfl⟩ := hq
  refine x_if_ne 16 dX11_claim_7 (by decide) (fun h7 => ?_) (fun h7 => ?_)
  · have qt := bI_ne.mp h7
    obtain ⟨t, ht, rfl⟩ := inr_of qt (by omega)
    refine x_iload_n dX11_claim_16 rfl ?_
    refine x_iconst dX11_claim_17 li_0 ?_
    refine x_bipush dX11_claim_18 lb_99 ?_
    refine x_csi (c_isWithin) kX11_206 dX11_claim_20 rfl rfl (Nat.le_of_ble_eq_true rfl) (fun ru Mu hq => ?_)
    obtain ⟨rfl, rfl⟩ := hq
    refine x_if_ne 32 dX11_claim_23 (by decide) (fun h23 => ?_) (fun h23 => ?_)
    · have qH := bI_ne.mp h23
      obtain ⟨H, -, hHb, rfl⟩ := wth_of qH (by omega) (by omega)
      refine x_aload_n dX11_claim_32 rfl ?_
      refine g_X_air fX11_34 dX11_claim_33 ?_
      refine x_aload_n dX11_claim_36 rfl ?_
      refine g_X_acts fX11_41 dX11_claim_37 ?_
      refine g_Acts_now fX11_155 dX11_claim_40 ?_
      refine x_iload_n dX11_claim_43 rfl ?_
      refine aa_Acts_now dX11_claim_44 rfl (by first | exact Nat.le_of_ble_eq_true rfl | assumption | omega) ?_
      refine g_Person_halves fX11_183 dX11_claim_45 (Nat.lt_of_lt_of_le (show t < 4 by omega) (by decide)) ?_
      refine x_iload_n dX11_claim_48 rfl ?_
      refine x_iconst dX11_claim_49 li_0 ?_
      refine x_cvv (c_take (h := 43) (j := t) (f := fun s => N t (3 + s)) rfl (by decide) (Nat.lt_of_lt_of_le (show t < 4 by omega) (Nat.le_of_ble_eq_true rfl)) hV hB (fun s hs => ⟨(hN t ht).2 s hs, (hW t ht).2 s hs⟩) (by omega) (by omega)) kX11_186 dX11_claim_50 rfl (Nat.le_of_ble_eq_true rfl) rfl rfl (Nat.le_of_ble_eq_true rfl) (fun M2 hq2 => ?_)
      obtain ⟨I2, rfl, hA2, hS2⟩ := hq2
      have hB2 : XB V 0 I2 := hB.sm (fun s h1 h2 => hS2 s (by omega))
      have hg2 : ∀ s, s < 6 → str V (fun s => N t (3 + s)) H 0 s ≤ 99 := fun s hs => str_le ((hW t ht).2 s hs)
      refine x_aload_n dX11_claim_53 rfl ?_
      refine x_aload_n dX11_claim_54 rfl ?_
      refine g_X_air fX11_34 dX11_claim_55 ?_
      refine x_cvi (c_claimant (d := d) hV hB2 hA2 hg2) kX11_210 dX11_claim_58 rfl (Nat.le_of_ble_eq_true rfl) rfl rfl (Nat.le_of_ble_eq_true rfl) (fun ru Mu hq => ?_)
      obtain ⟨rfl, rfl⟩ := hq
      refine x_cvi (c_answer) kX11_127 dX11_claim_61 rfl (Nat.le_of_ble_eq_true rfl) rfl rfl (Nat.le_of_ble_eq_true rfl) (fun ru Mu hq => ?_)
      obtain ⟨rfl, rfl⟩ := hq
      refine x_iret dX11_claim_64 rfl ?_
      have ea : a_claim V N (nI t) (nI H) = (nO (-2) (clF V (str V (fun s => N t (3 + s)) H 0) (V 0 1 0)).2, 0) := by unfold a_claim; rw [qt, qH, zN_nI (by omega), zN_nI (by omega)]; rfl
      rw [ea]
      exact ⟨_, rfl, rfl, _, rfl, KX.of (hS2.wk (fun s h => by unfold scr; omega))⟩
    · refine x_aload_n dX11_claim_26 rfl ?_
      refine x_iconst dX11_claim_27 li_2 ?_
      refine x_cvi (c_refuse) kX11_102 dX11_claim_28 rfl (Nat.le_of_ble_eq_true rfl) rfl rfl (Nat.le_of_ble_eq_true rfl) (fun ru Mu hq => ?_)
      obtain ⟨rfl, rfl⟩ := hq
      refine x_iret dX11_claim_31 rfl ?_
      have ea : a_claim V N (nI t) z2 = (-1, 2) := by unfold a_claim; rw [qt, bI_eq.mp h23]; rfl
      rw [ea]
      exact ⟨_, rfl, rfl, _, rfl, KX.of Sm.rf⟩
  · refine x_aload_n dX11_claim_10 rfl ?_
    refine x_iconst dX11_claim_11 li_1 ?_
    refine x_cvi (c_refuse) kX11_102 dX11_claim_12 rfl (Nat.le_of_ble_eq_true rfl) rfl rfl (Nat.le_of_ble_eq_true rfl) (fun ru Mu hq => ?_)
    obtain ⟨rfl, rfl⟩ := hq
    refine x_iret dX11_claim_15 rfl ?_
    have ea : a_claim V N z1 z2 = (-1, 1) := by unfold a_claim; rw [bI_eq.mp h7]; rfl
    rw [ea]
    exact ⟨_, rfl, rfl, _, rfl, KX.of Sm.rf⟩
end Xp1
