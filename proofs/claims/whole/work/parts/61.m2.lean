section M2
variable {G : xG} {ad : Nat → Nat → Nat} {nb : Nat} {b r : Option Nat} {L : Nat → Nat → Nat → Int64} {V : sV} {I : Nat → Nat → Nat → Int32} {d : Nat}

theorem tls_le2 {g : Nat → Nat} {land skill : Nat} (hV : VW V) (hg : ∀ s, s < V 0 2 0 → g s ≤ 99) : ∀ n, n ≤ V 0 2 0 → tls V g land skill n ≤ 891 * n
  | 0, _ => Nat.le_refl 0
  | n + 1, h => by
    have h1 := tls_le2 (land := land) (skill := skill) hV hg n (by omega)
    have h2 := (hV.2.2.2.2.2.2.2.2.2.2.2.2.2.1 n (by omega)).2
    have h3 := hV.2.2.2.2.2.2.2.2.2.2.2.2.1 _ h2
    have h4 : unc V g n ≤ 99 := unc_le (hg n (by omega))
    have h5 : unc V g n * V 1 (V 3 n 0) 0 ≤ 99 * 9 := Nat.mul_le_mul h4 h3
    unfold tls
    split <;> omega
/-- DUTY at a place, by its nose m and one less -/
def dgn (V : sV) (g : Nat → Nat) (sort p m : Nat) : Nat := if skl V m = 0 then 0 else tol V g sort p (skl V m)
theorem skl_0 {m : Nat} (hV : VW V) (hm : m ≤ V 0 3 0) : skl V m = 0 ↔ m = 0 := by
  unfold skl
  by_cases e : m = 0
  · rw [if_pos e]; exact ⟨fun _ => e, fun _ => rfl⟩
  · rw [if_neg e]
    have := hV.2.2.2.2.2.2.2.2.2.2.2.2.2.2.1 (m - 1) (by omega)
    constructor <;> intro h <;> omega
theorem nO_m2 {n : Nat} (hn : n < 2 ^ 31) : nO (-2) n = -2 ↔ n = 0 := by
  constructor
  · intro h
    rcases Nat.eq_zero_or_pos n with e | e
    · exact e
    · rw [nO_pos (by omega)] at h
      have h2 := congrArg Int32.toInt h
      rw [nI_toInt (by omega)] at h2
      exact absurd (show ((n - 1 : Nat) : Int) = -2 from h2) (by omega)
  · intro h; rw [h]; rfl

set_option maxRecDepth 100000 in
set_option maxHeartbeats 4000000 in
theorem m_isSmelt (hV : VW V) {bi : Nat} (hb : b = some bi) (hbn : bi < nb) (hB : YB V bi I) {g : Nat → Nat} (hx : ∀ s, s < V 0 2 0 → I 88 0 s = nI (g s)) (hg : ∀ s, s < V 0 2 0 → g s ≤ 198) {s sk : Nat} (hs : s < V 0 2 0) (hk : sk ≤ 99) : Mt G vX13_isSmelt (d + 1) (0, 0) [.ref (ad 13 0), .int (nI (s)), .int (nI (sk))] (MM ad nb b r I L) (qE (bI (decide (sk ≤ unc V (fun s => g s / 2) s))) (MM ad nb b r I L)) := by
  have hu : unc V (fun s => g s / 2) s ≤ 99 := unc_le (by have := hg s hs; show g s / 2 ≤ 99; omega)
  refine x_start (by decide) (Nat.le_of_ble_eq_true rfl) ?_
  refine x_aload_n dX13_isSmelt_0 rfl ?_
  refine x_iload_n dX13_isSmelt_1 rfl ?_
  refine x_cvi (m_coveredOf (d := d) hV hb hbn hB hx hg hs) kX13_408 dX13_isSmelt_2 rfl (Nat.le_of_ble_eq_true rfl) rfl rfl (Nat.le_of_ble_eq_true rfl) (fun ru Mu hq => ?_)
  obtain ⟨rfl, rfl⟩ := hq
  refine x_iload_n dX13_isSmelt_5 rfl ?_
  refine x_icN_lt 13 dX13_isSmelt_6 (by decide) (by omega) (by omega) (fun h6 => ?_) (fun h6 => ?_)
  · have hw : decide (sk ≤ unc V (fun s => g s / 2) s) = false := decide_eq_false (by omega)
    refine x_iconst dX13_isSmelt_13 li_0 ?_
    refine x_zret dX13_isSmelt_14 rfl rfl ?_
    rw [hw]
    exact ⟨_, rfl, rfl, rfl⟩
  · have hw : decide (sk ≤ unc V (fun s => g s / 2) s) = true := decide_eq_true (by omega)
    refine x_iconst dX13_isSmelt_9 li_1 ?_
    refine x_goto 14 dX13_isSmelt_10 (by decide) ?_
    refine x_zret dX13_isSmelt_14 rfl rfl ?_
    rw [hw]
    exact ⟨_, rfl, rfl, rfl⟩
set_option maxRecDepth 100000 in
set_option maxHeartbeats 4000000 in
theorem m_dutyBy (hV : VW V) {bi : Nat} (hb : b = some bi) (hbn : bi < nb) (hB : YB V bi I) {g : Nat → Nat} (hx : ∀ s, s < V 0 2 0 → I 88 0 s = nI (g s)) (hg : ∀ s, s < V 0 2 0 → g s ≤ 198) {so p sk : Nat} (hso : so < 4) (hp5 : V 5 p 0 < V 0 1 0) (hsk : sk ≤ 99) : Mt G vX13_dutyBy (d + 2) (0, 0) [.ref (ad 13 0), .int (nI (so)), .int (nI (V 5 p 0)), .int (nI (sk))] (MM ad nb b r I L) (qE (nI (tol V (fun s => g s / 2) so p sk)) (MM ad nb b r I L)) := by
  have v0 := hV.1
  have v1 := hV.2.1
  have v2 := hV.2.2.1
  have v3 := hV.2.2.2.1
  have v4 := hV.2.2.2.2.1
  have v7 := hV.2.2.2.2.2.2.2.1
  have v9 := hV.2.2.2.2.2.2.2.2.2.1
  have v10 := hV.2.2.2.2.2.2.2.2.2.2.1
  have hg2 : ∀ s, s < V 0 2 0 → (fun s => g s / 2) s ≤ 99 := fun s hs => by have := hg s hs; show g s / 2 ≤ 99; omega
  have loop6 : ∀ (n : Nat) (k : Nat), V 0 2 0 - k < n → k ≤ V 0 2 0 → X G vX13_dutyBy (d + 2) (0, 0) 6 [(0, some (.ref (ad 13 0))), (1, some (.int (nI (so)))), (2, some (.int (nI (V 5 p 0)))), (3, some (.int (nI (sk)))), (4, some (.int (nI (tls V (fun s => g s / 2) (V 5 p 0) sk k)))), (5, some (.int (nI (k))))] [] (MM ad nb b r I L) (xT G (qE (nI (tol V (fun s => g s / 2) so p sk)) (MM ad nb b r I L))) := by
    intro n
    induction n with
    | zero => intro k h0; omega
    | succ n ih =>
      intro k hn hk
      have htl := tls_le2 (land := V 5 p 0) (skill := sk) hV hg2 k hk
      refine x_iload dX13_dutyBy_6 rfl ?_
      refine x_aload_n dX13_dutyBy_8 rfl ?_
      refine g_M_border hb fX13_397 dX13_dutyBy_9 ?_
      refine g_MB_smells fX13_301 dX13_dutyBy_12 hbn ?_
      refine x_top (y12_2 hB) ?_
      refine x_icN_ge 118 dX13_dutyBy_15 (by decide) (by omega) (by omega) (fun h15 => ?_) (fun h15 => ?_)
      · obtain rfl : k = V 0 2 0 := by omega
        refine x_iload_n dX13_dutyBy_118 rfl ?_
        refine x_iconst dX13_dutyBy_119 li_1 ?_
        refine x_icN_ne 130 dX13_dutyBy_120 (by decide) (by omega) (by omega) (fun h120 => ?_) (fun h120 => ?_)
        · refine x_iload_n dX13_dutyBy_130 rfl ?_
          refine x_iconst dX13_dutyBy_131 li_2 ?_
          refine x_icN_ne 142 dX13_dutyBy_132 (by decide) (by omega) (by omega) (fun h132 => ?_) (fun h132 => ?_)
          · refine x_iload_n dX13_dutyBy_142 rfl ?_
            refine x_iconst dX13_dutyBy_143 li_3 ?_
            refine x_icN_ne 151 dX13_dutyBy_144 (by decide) (by omega) (by omega) (fun h144 => ?_) (fun h144 => ?_)
            · refine x_iload dX13_dutyBy_151 rfl ?_
              refine x_iret dX13_dutyBy_153 rfl ?_
              first
                | exact ⟨_, rfl, by unfold tol; rw [if_neg (by omega), if_pos (by omega)], rfl⟩
                | exact ⟨_, rfl, by unfold tol; rw [if_neg (by omega), if_neg (by omega), if_pos (by omega)], rfl⟩
                | exact ⟨_, rfl, by unfold tol; rw [if_pos (by omega)], rfl⟩
                | exact ⟨_, rfl, by unfold tol; rw [if_neg (by omega), if_neg (by omega), if_neg (by omega)], rfl⟩
            · refine x_iconst dX13_dutyBy_147 li_0 ?_
              refine x_goto 153 dX13_dutyBy_148 (by decide) ?_
              refine x_iret dX13_dutyBy_153 rfl ?_
              first
                | exact ⟨_, rfl, by unfold tol; rw [if_neg (by omega), if_pos (by omega)], rfl⟩
                | exact ⟨_, rfl, by unfold tol; rw [if_neg (by omega), if_neg (by omega), if_pos (by omega)], rfl⟩
                | exact ⟨_, rfl, by unfold tol; rw [if_pos (by omega)], rfl⟩
                | exact ⟨_, rfl, by unfold tol; rw [if_neg (by omega), if_neg (by omega), if_neg (by omega)], rfl⟩
          · refine x_iload dX13_dutyBy_135 rfl ?_
            refine x_iconst dX13_dutyBy_137 li_2 ?_
            refine x_idivN dX13_dutyBy_138 (by omega) (by omega) (by omega) ?_
            refine x_goto 153 dX13_dutyBy_139 (by decide) ?_
            refine x_iret dX13_dutyBy_153 rfl ?_
            first
              | exact ⟨_, rfl, by unfold tol; rw [if_neg (by omega), if_pos (by omega)], rfl⟩
              | exact ⟨_, rfl, by unfold tol; rw [if_neg (by omega), if_neg (by omega), if_pos (by omega)], rfl⟩
              | exact ⟨_, rfl, by unfold tol; rw [if_pos (by omega)], rfl⟩
              | exact ⟨_, rfl, by unfold tol; rw [if_neg (by omega), if_neg (by omega), if_neg (by omega)], rfl⟩
        · refine x_iconst dX13_dutyBy_123 li_2 ?_
          refine x_iload dX13_dutyBy_124 rfl ?_
          refine x_imulN dX13_dutyBy_126 ?_
          refine x_goto 153 dX13_dutyBy_127 (by decide) ?_
          refine x_iret dX13_dutyBy_153 rfl ?_
          first
            | exact ⟨_, rfl, by unfold tol; rw [if_neg (by omega), if_pos (by omega)], rfl⟩
            | exact ⟨_, rfl, by unfold tol; rw [if_neg (by omega), if_neg (by omega), if_pos (by omega)], rfl⟩
            | exact ⟨_, rfl, by unfold tol; rw [if_pos (by omega)], rfl⟩
            | exact ⟨_, rfl, by unfold tol; rw [if_neg (by omega), if_neg (by omega), if_neg (by omega)], rfl⟩
      · have hk2 : k < V 0 2 0 := h15
        have hkk := hV.2.2.2.2.2.2.2.2.2.2.2.2.2.1 k hk2
        refine x_aload_n dX13_dutyBy_18 rfl ?_
        refine g_M_border hb fX13_397 dX13_dutyBy_19 ?_
        refine g_MB_kind fX13_313 dX13_dutyBy_22 hbn ?_
        refine x_iload dX13_dutyBy_25 rfl ?_
        refine x_iald dX13_dutyBy_27 rfl rfl hbn (by first | exact Nat.le_of_ble_eq_true rfl | assumption | omega) ?_
        refine x_top (y65 hB (by first | assumption | omega)) ?_
        refine x_iconst dX13_dutyBy_28 li_3 ?_
        refine x_icN_eq 60 dX13_dutyBy_29 (by decide) (by omega) (by omega) (fun h29 => ?_) (fun h29 => ?_)
        · have ec0 : some (Value.int (nI (tls V (fun s => g s / 2) (V 5 p 0) sk k))) = some (Value.int (nI (tls V (fun s => g s / 2) (V 5 p 0) sk (k + 1)))) := by rw [tls, if_neg (fun z => absurd z.2 (by unfold dtb; simp; omega))]; rfl
          refine x_iconst dX13_dutyBy_60 li_1 ?_
          refine x_goto 65 dX13_dutyBy_61 (by decide) ?_
          refine x_istore dX13_dutyBy_65 (by decide) rfl ?_
          refine x_iload dX13_dutyBy_67 rfl ?_
          refine x_ifN_ne 112 dX13_dutyBy_69 (by decide) (by omega) (fun h69 => ?_) (fun h69 => ?_)
          · have ec : some (Value.int (nI (tls V (fun s => g s / 2) (V 5 p 0) sk k))) = some (Value.int (nI (tls V (fun s => g s / 2) (V 5 p 0) sk (k + 1)))) := by first | exact ec0 | exact absurd h69 (by decide)
            refine x_iincN 1 dX13_dutyBy_112 li_1 rfl (by decide) rfl ?_
            refine x_goto 6 dX13_dutyBy_115 (by decide) ?_
            refine x_ls ?_ (ih (k + 1) (by omega) (by omega))
            exact ⟨rfl, rfl, rfl, rfl, ec, rfl, trivial⟩
          · have hdt : dtb V k (V 5 p 0) = true := by first | exact hdt0 | exact absurd h69 (by decide)
            refine x_aload_n dX13_dutyBy_72 rfl ?_
            refine x_iload dX13_dutyBy_73 rfl ?_
            refine x_iload_n dX13_dutyBy_75 rfl ?_
            refine x_cvi (m_isSmelt (d := d) hV hb hbn hB hx hg hk2 hsk) kX13_411 dX13_dutyBy_76 rfl (Nat.le_of_ble_eq_true rfl) rfl rfl (Nat.le_of_ble_eq_true rfl) (fun ru Mu hq => ?_)
            obtain ⟨rfl, rfl⟩ := hq
            refine x_if_eq 112 dX13_dutyBy_79 (by decide) (fun h79 => ?_) (fun h79 => ?_)
            · have hn0 := of_decide_eq_false (bI_eq.mp h79)
              have ec : some (Value.int (nI (tls V (fun s => g s / 2) (V 5 p 0) sk k))) = some (Value.int (nI (tls V (fun s => g s / 2) (V 5 p 0) sk (k + 1)))) := by rw [tls, if_neg (fun z => hn0 z.1)]; rfl
              refine x_iincN 1 dX13_dutyBy_112 li_1 rfl (by decide) rfl ?_
              refine x_goto 6 dX13_dutyBy_115 (by decide) ?_
              refine x_ls ?_ (ih (k + 1) (by omega) (by omega))
              exact ⟨rfl, rfl, rfl, rfl, ec, rfl, trivial⟩
            · have hn0 := of_decide_eq_true (bI_ne.mp h79)
              have ec : some (Value.int (nI (tls V (fun s => g s / 2) (V 5 p 0) sk k + unc V (fun s => g s / 2) k * V 1 (V 3 k 0) 0))) = some (Value.int (nI (tls V (fun s => g s / 2) (V 5 p 0) sk (k + 1)))) := by rw [tls, if_pos ⟨hn0, hdt⟩]
              refine x_iload dX13_dutyBy_82 rfl ?_
              refine x_aload_n dX13_dutyBy_84 rfl ?_
              refine x_iload dX13_dutyBy_85 rfl ?_
              refine x_cvi (m_coveredOf (d := d + 1) hV hb hbn hB hx hg hk2) kX13_408 dX13_dutyBy_87 rfl (Nat.le_of_ble_eq_true rfl) rfl rfl (Nat.le_of_ble_eq_true rfl) (fun ru Mu hq => ?_)
              obtain ⟨rfl, rfl⟩ := hq
              refine x_aload_n dX13_dutyBy_90 rfl ?_
              refine g_M_border hb fX13_397 dX13_dutyBy_91 ?_
              refine g_MB_duty fX13_289 dX13_dutyBy_94 hbn ?_
              refine x_aload_n dX13_dutyBy_97 rfl ?_
              refine g_M_border hb fX13_397 dX13_dutyBy_98 ?_
              refine g_MB_from fX13_316 dX13_dutyBy_101 hbn ?_
              refine x_iload dX13_dutyBy_104 rfl ?_
              refine x_iald dX13_dutyBy_106 rfl rfl hbn (by first | exact Nat.le_of_ble_eq_true rfl | assumption | omega) ?_
              refine x_top (y66 hB (by first | assumption | omega)) ?_
              refine x_iald dX13_dutyBy_107 rfl rfl hbn (by first | exact Nat.le_of_ble_eq_true rfl | assumption | omega) ?_
              refine x_top (y64 hB (by first | assumption | omega)) ?_
              refine x_imulN dX13_dutyBy_108 ?_
              refine x_iaddN dX13_dutyBy_109 ?_
              refine x_istore dX13_dutyBy_110 (by decide) rfl ?_
              refine x_iincN 1 dX13_dutyBy_112 li_1 rfl (by decide) rfl ?_
              refine x_goto 6 dX13_dutyBy_115 (by decide) ?_
              refine x_ls ?_ (ih (k + 1) (by omega) (by omega))
              exact ⟨rfl, rfl, rfl, rfl, ec, rfl, trivial⟩
        · refine x_aload_n dX13_dutyBy_32 rfl ?_
          refine g_M_border hb fX13_397 dX13_dutyBy_33 ?_
          refine g_MB_kind fX13_313 dX13_dutyBy_36 hbn ?_
          refine x_iload dX13_dutyBy_39 rfl ?_
          refine x_iald dX13_dutyBy_41 rfl rfl hbn (by first | exact Nat.le_of_ble_eq_true rfl | assumption | omega) ?_
          refine x_top (y65 hB (by first | assumption | omega)) ?_
          refine x_iconst dX13_dutyBy_42 li_4 ?_
          refine x_icN_eq 60 dX13_dutyBy_43 (by decide) (by omega) (by omega) (fun h43 => ?_) (fun h43 => ?_)
          · have ec0 : some (Value.int (nI (tls V (fun s => g s / 2) (V 5 p 0) sk k))) = some (Value.int (nI (tls V (fun s => g s / 2) (V 5 p 0) sk (k + 1)))) := by rw [tls, if_neg (fun z => absurd z.2 (by unfold dtb; simp; omega))]; rfl
            refine x_iconst dX13_dutyBy_60 li_1 ?_
            refine x_goto 65 dX13_dutyBy_61 (by decide) ?_
            refine x_istore dX13_dutyBy_65 (by decide) rfl ?_
            refine x_iload dX13_dutyBy_67 rfl ?_
            refine x_ifN_ne 112 dX13_dutyBy_69 (by decide) (by omega) (fun h69 => ?_) (fun h69 => ?_)
            · have ec : some (Value.int (nI (tls V (fun s => g s / 2) (V 5 p 0) sk k))) = some (Value.int (nI (tls V (fun s => g s / 2) (V 5 p 0) sk (k + 1)))) := by first | exact ec0 | exact absurd h69 (by decide)
              refine x_iincN 1 dX13_dutyBy_112 li_1 rfl (by decide) rfl ?_
              refine x_goto 6 dX13_dutyBy_115 (by decide) ?_
              refine x_ls ?_ (ih (k + 1) (by omega) (by omega))
              exact ⟨rfl, rfl, rfl, rfl, ec, rfl, trivial⟩
            · have hdt : dtb V k (V 5 p 0) = true := by first | exact hdt0 | exact absurd h69 (by decide)
              refine x_aload_n dX13_dutyBy_72 rfl ?_
              refine x_iload dX13_dutyBy_73 rfl ?_
              refine x_iload_n dX13_dutyBy_75 rfl ?_
              refine x_cvi (m_isSmelt (d := d) hV hb hbn hB hx hg hk2 hsk) kX13_411 dX13_dutyBy_76 rfl (Nat.le_of_ble_eq_true rfl) rfl rfl (Nat.le_of_ble_eq_true rfl) (fun ru Mu hq => ?_)
              obtain ⟨rfl, rfl⟩ := hq
              refine x_if_eq 112 dX13_dutyBy_79 (by decide) (fun h79 => ?_) (fun h79 => ?_)
              · have hn0 := of_decide_eq_false (bI_eq.mp h79)
                have ec : some (Value.int (nI (tls V (fun s => g s / 2) (V 5 p 0) sk k))) = some (Value.int (nI (tls V (fun s => g s / 2) (V 5 p 0) sk (k + 1)))) := by rw [tls, if_neg (fun z => hn0 z.1)]; rfl
                refine x_iincN 1 dX13_dutyBy_112 li_1 rfl (by decide) rfl ?_
                refine x_goto 6 dX13_dutyBy_115 (by decide) ?_
                refine x_ls ?_ (ih (k + 1) (by omega) (by omega))
                exact ⟨rfl, rfl, rfl, rfl, ec, rfl, trivial⟩
              · have hn0 := of_decide_eq_true (bI_ne.mp h79)
                have ec : some (Value.int (nI (tls V (fun s => g s / 2) (V 5 p 0) sk k + unc V (fun s => g s / 2) k * V 1 (V 3 k 0) 0))) = some (Value.int (nI (tls V (fun s => g s / 2) (V 5 p 0) sk (k + 1)))) := by rw [tls, if_pos ⟨hn0, hdt⟩]
                refine x_iload dX13_dutyBy_82 rfl ?_
                refine x_aload_n dX13_dutyBy_84 rfl ?_
                refine x_iload dX13_dutyBy_85 rfl ?_
                refine x_cvi (m_coveredOf (d := d + 1) hV hb hbn hB hx hg hk2) kX13_408 dX13_dutyBy_87 rfl (Nat.le_of_ble_eq_true rfl) rfl rfl (Nat.le_of_ble_eq_true rfl) (fun ru Mu hq => ?_)
                obtain ⟨rfl, rfl⟩ := hq
                refine x_aload_n dX13_dutyBy_90 rfl ?_
                refine g_M_border hb fX13_397 dX13_dutyBy_91 ?_
                refine g_MB_duty fX13_289 dX13_dutyBy_94 hbn ?_
                refine x_aload_n dX13_dutyBy_97 rfl ?_
                refine g_M_border hb fX13_397 dX13_dutyBy_98 ?_
                refine g_MB_from fX13_316 dX13_dutyBy_101 hbn ?_
                refine x_iload dX13_dutyBy_104 rfl ?_
                refine x_iald dX13_dutyBy_106 rfl rfl hbn (by first | exact Nat.le_of_ble_eq_true rfl | assumption | omega) ?_
                refine x_top (y66 hB (by first | assumption | omega)) ?_
                refine x_iald dX13_dutyBy_107 rfl rfl hbn (by first | exact Nat.le_of_ble_eq_true rfl | assumption | omega) ?_
                refine x_top (y64 hB (by first | assumption | omega)) ?_
                refine x_imulN dX13_dutyBy_108 ?_
                refine x_iaddN dX13_dutyBy_109 ?_
                refine x_istore dX13_dutyBy_110 (by decide) rfl ?_
                refine x_iincN 1 dX13_dutyBy_112 li_1 rfl (by decide) rfl ?_
                refine x_goto 6 dX13_dutyBy_115 (by decide) ?_
                refine x_ls ?_ (ih (k + 1) (by omega) (by omega))
                exact ⟨rfl, rfl, rfl, rfl, ec, rfl, trivial⟩
          · refine x_aload_n dX13_dutyBy_46 rfl ?_
            refine g_M_border hb fX13_397 dX13_dutyBy_47 ?_
            refine g_MB_from fX13_316 dX13_dutyBy_50 hbn ?_
            refine x_iload dX13_dutyBy_53 rfl ?_
            refine x_iald dX13_dutyBy_55 rfl rfl hbn (by first | exact Nat.le_of_ble_eq_true rfl | assumption | omega) ?_
            refine x_top (y66 hB (by first | assumption | omega)) ?_
            refine x_iload_n dX13_dutyBy_56 rfl ?_
            refine x_icN_ne 64 dX13_dutyBy_57 (by decide) (by omega) (by omega) (fun h57 => ?_) (fun h57 => ?_)
            · have hdt0 : dtb V k (V 5 p 0) = true := by unfold dtb; simp; omega
              refine x_iconst dX13_dutyBy_64 li_0 ?_
              refine x_istore dX13_dutyBy_65 (by decide) rfl ?_
              refine x_iload dX13_dutyBy_67 rfl ?_
              refine x_ifN_ne 112 dX13_dutyBy_69 (by decide) (by omega) (fun h69 => ?_) (fun h69 => ?_)
              · have ec : some (Value.int (nI (tls V (fun s => g s / 2) (V 5 p 0) sk k))) = some (Value.int (nI (tls V (fun s => g s / 2) (V 5 p 0) sk (k + 1)))) := by first | exact ec0 | exact absurd h69 (by decide)
                refine x_iincN 1 dX13_dutyBy_112 li_1 rfl (by decide) rfl ?_
                refine x_goto 6 dX13_dutyBy_115 (by decide) ?_
                refine x_ls ?_ (ih (k + 1) (by omega) (by omega))
                exact ⟨rfl, rfl, rfl, rfl, ec, rfl, trivial⟩
              · have hdt : dtb V k (V 5 p 0) = true := by first | exact hdt0 | exact absurd h69 (by decide)
                refine x_aload_n dX13_dutyBy_72 rfl ?_
                refine x_iload dX13_dutyBy_73 rfl ?_
                refine x_iload_n dX13_dutyBy_75 rfl ?_
                refine x_cvi (m_isSmelt (d := d) hV hb hbn hB hx hg hk2 hsk) kX13_411 dX13_dutyBy_76 rfl (Nat.le_of_ble_eq_true rfl) rfl rfl (Nat.le_of_ble_eq_true rfl) (fun ru Mu hq => ?_)
                obtain ⟨rfl, rfl⟩ := hq
                refine x_if_eq 112 dX13_dutyBy_79 (by decide) (fun h79 => ?_) (fun h79 => ?_)
                · have hn0 := of_decide_eq_false (bI_eq.mp h79)
                  have ec : some (Value.int (nI (tls V (fun s => g s / 2) (V 5 p 0) sk k))) = some (Value.int (nI (tls V (fun s => g s / 2) (V 5 p 0) sk (k + 1)))) := by rw [tls, if_neg (fun z => hn0 z.1)]; rfl
                  refine x_iincN 1 dX13_dutyBy_112 li_1 rfl (by decide) rfl ?_
                  refine x_goto 6 dX13_dutyBy_115 (by decide) ?_
                  refine x_ls ?_ (ih (k + 1) (by omega) (by omega))
                  exact ⟨rfl, rfl, rfl, rfl, ec, rfl, trivial⟩
                · have hn0 := of_decide_eq_true (bI_ne.mp h79)
                  have ec : some (Value.int (nI (tls V (fun s => g s / 2) (V 5 p 0) sk k + unc V (fun s => g s / 2) k * V 1 (V 3 k 0) 0))) = some (Value.int (nI (tls V (fun s => g s / 2) (V 5 p 0) sk (k + 1)))) := by rw [tls, if_pos ⟨hn0, hdt⟩]
                  refine x_iload dX13_dutyBy_82 rfl ?_
                  refine x_aload_n dX13_dutyBy_84 rfl ?_
                  refine x_iload dX13_dutyBy_85 rfl ?_
                  refine x_cvi (m_coveredOf (d := d + 1) hV hb hbn hB hx hg hk2) kX13_408 dX13_dutyBy_87 rfl (Nat.le_of_ble_eq_true rfl) rfl rfl (Nat.le_of_ble_eq_true rfl) (fun ru Mu hq => ?_)
                  obtain ⟨rfl, rfl⟩ := hq
                  refine x_aload_n dX13_dutyBy_90 rfl ?_
                  refine g_M_border hb fX13_397 dX13_dutyBy_91 ?_
                  refine g_MB_duty fX13_289 dX13_dutyBy_94 hbn ?_
                  refine x_aload_n dX13_dutyBy_97 rfl ?_
                  refine g_M_border hb fX13_397 dX13_dutyBy_98 ?_
                  refine g_MB_from fX13_316 dX13_dutyBy_101 hbn ?_
                  refine x_iload dX13_dutyBy_104 rfl ?_
                  refine x_iald dX13_dutyBy_106 rfl rfl hbn (by first | exact Nat.le_of_ble_eq_true rfl | assumption | omega) ?_
                  refine x_top (y66 hB (by first | assumption | omega)) ?_
                  refine x_iald dX13_dutyBy_107 rfl rfl hbn (by first | exact Nat.le_of_ble_eq_true rfl | assumption | omega) ?_
                  refine x_top (y64 hB (by first | assumption | omega)) ?_
                  refine x_imulN dX13_dutyBy_108 ?_
                  refine x_iaddN dX13_dutyBy_109 ?_
                  refine x_istore dX13_dutyBy_110 (by decide) rfl ?_
                  refine x_iincN 1 dX13_dutyBy_112 li_1 rfl (by decide) rfl ?_
                  refine x_goto 6 dX13_dutyBy_115 (by decide) ?_
                  refine x_ls ?_ (ih (k + 1) (by omega) (by omega))
                  exact ⟨rfl, rfl, rfl, rfl, ec, rfl, trivial⟩
            · have ec0 : some (Value.int (nI (tls V (fun s => g s / 2) (V 5 p 0) sk k))) = some (Value.int (nI (tls V (fun s => g s / 2) (V 5 p 0) sk (k + 1)))) := by rw [tls, if_neg (fun z => absurd z.2 (by unfold dtb; simp; omega))]; rfl
              refine x_iconst dX13_dutyBy_60 li_1 ?_
              refine x_goto 65 dX13_dutyBy_61 (by decide) ?_
              refine x_istore dX13_dutyBy_65 (by decide) rfl ?_
              refine x_iload dX13_dutyBy_67 rfl ?_
              refine x_ifN_ne 112 dX13_dutyBy_69 (by decide) (by omega) (fun h69 => ?_) (fun h69 => ?_)
              · have ec : some (Value.int (nI (tls V (fun s => g s / 2) (V 5 p 0) sk k))) = some (Value.int (nI (tls V (fun s => g s / 2) (V 5 p 0) sk (k + 1)))) := by first | exact ec0 | exact absurd h69 (by decide)
                refine x_iincN 1 dX13_dutyBy_112 li_1 rfl (by decide) rfl ?_
                refine x_goto 6 dX13_dutyBy_115 (by decide) ?_
                refine x_ls ?_ (ih (k + 1) (by omega) (by omega))
                exact ⟨rfl, rfl, rfl, rfl, ec, rfl, trivial⟩
              · have hdt : dtb V k (V 5 p 0) = true := by first | exact hdt0 | exact absurd h69 (by decide)
                refine x_aload_n dX13_dutyBy_72 rfl ?_
                refine x_iload dX13_dutyBy_73 rfl ?_
                refine x_iload_n dX13_dutyBy_75 rfl ?_
                refine x_cvi (m_isSmelt (d := d) hV hb hbn hB hx hg hk2 hsk) kX13_411 dX13_dutyBy_76 rfl (Nat.le_of_ble_eq_true rfl) rfl rfl (Nat.le_of_ble_eq_true rfl) (fun ru Mu hq => ?_)
                obtain ⟨rfl, rfl⟩ := hq
                refine x_if_eq 112 dX13_dutyBy_79 (by decide) (fun h79 => ?_) (fun h79 => ?_)
                · have hn0 := of_decide_eq_false (bI_eq.mp h79)
                  have ec : some (Value.int (nI (tls V (fun s => g s / 2) (V 5 p 0) sk k))) = some (Value.int (nI (tls V (fun s => g s / 2) (V 5 p 0) sk (k + 1)))) := by rw [tls, if_neg (fun z => hn0 z.1)]; rfl
                  refine x_iincN 1 dX13_dutyBy_112 li_1 rfl (by decide) rfl ?_
                  refine x_goto 6 dX13_dutyBy_115 (by decide) ?_
                  refine x_ls ?_ (ih (k + 1) (by omega) (by omega))
                  exact ⟨rfl, rfl, rfl, rfl, ec, rfl, trivial⟩
                · have hn0 := of_decide_eq_true (bI_ne.mp h79)
                  have ec : some (Value.int (nI (tls V (fun s => g s / 2) (V 5 p 0) sk k + unc V (fun s => g s / 2) k * V 1 (V 3 k 0) 0))) = some (Value.int (nI (tls V (fun s => g s / 2) (V 5 p 0) sk (k + 1)))) := by rw [tls, if_pos ⟨hn0, hdt⟩]
                  refine x_iload dX13_dutyBy_82 rfl ?_
                  refine x_aload_n dX13_dutyBy_84 rfl ?_
                  refine x_iload dX13_dutyBy_85 rfl ?_
                  refine x_cvi (m_coveredOf (d := d + 1) hV hb hbn hB hx hg hk2) kX13_408 dX13_dutyBy_87 rfl (Nat.le_of_ble_eq_true rfl) rfl rfl (Nat.le_of_ble_eq_true rfl) (fun ru Mu hq => ?_)
                  obtain ⟨rfl, rfl⟩ := hq
                  refine x_aload_n dX13_dutyBy_90 rfl ?_
                  refine g_M_border hb fX13_397 dX13_dutyBy_91 ?_
                  refine g_MB_duty fX13_289 dX13_dutyBy_94 hbn ?_
                  refine x_aload_n dX13_dutyBy_97 rfl ?_
                  refine g_M_border hb fX13_397 dX13_dutyBy_98 ?_
                  refine g_MB_from fX13_316 dX13_dutyBy_101 hbn ?_
                  refine x_iload dX13_dutyBy_104 rfl ?_
                  refine x_iald dX13_dutyBy_106 rfl rfl hbn (by first | exact Nat.le_of_ble_eq_true rfl | assumption | omega) ?_
                  refine x_top (y66 hB (by first | assumption | omega)) ?_
                  refine x_iald dX13_dutyBy_107 rfl rfl hbn (by first | exact Nat.le_of_ble_eq_true rfl | assumption | omega) ?_
                  refine x_top (y64 hB (by first | assumption | omega)) ?_
                  refine x_imulN dX13_dutyBy_108 ?_
                  refine x_iaddN dX13_dutyBy_109 ?_
                  refine x_istore dX13_dutyBy_110 (by decide) rfl ?_
                  refine x_iincN 1 dX13_dutyBy_112 li_1 rfl (by decide) rfl ?_
                  refine x_goto 6 dX13_dutyBy_115 (by decide) ?_
                  refine x_ls ?_ (ih (k + 1) (by omega) (by omega))
                  exact ⟨rfl, rfl, rfl, rfl, ec, rfl, trivial⟩
  refine x_start (by decide) (Nat.le_of_ble_eq_true rfl) ?_
  refine x_iconst dX13_dutyBy_0 li_0 ?_
  refine x_istore dX13_dutyBy_1 (by decide) rfl ?_
  refine x_iconst dX13_dutyBy_3 li_0 ?_
  refine x_istore dX13_dutyBy_4 (by decide) rfl ?_
  refine x_ls ?_ (loop6 (V 0 2 0 + 1) 0 (by omega) (by omega))
  exact ⟨rfl, rfl, rfl, rfl, rfl, rfl, trivial⟩
set_option maxRecDepth 100000 in
set_option maxHeartbeats 4000000 in
theorem m_posted (hV : VW V) {bi : Nat} (hb : b = some bi) (hbn : bi < nb) (hB : YB V bi I) : Mt G vX13_posted (d) (0, 0) [.ref (ad 13 0)] (MM ad nb b r I L) (qV (fun M' => ∃ I', M' = MM ad nb b r I' L ∧ (∀ p, p < V 0 4 0 → I' 89 0 p = nO (-2) (V 6 p 0)) ∧ ∀ q, q ≠ 89 → I' q = I q)) := by
  have v4 := hV.2.2.2.2.1
  have loop2 : ∀ (n : Nat) (k : Nat) (I1 : Nat → Nat → Nat → Int32), 6 - k < n → k ≤ 6 → (∀ s, s < k → I1 89 0 s = I 69 bi s) → (∀ q, q ≠ 89 → I1 q = I q) → X G vX13_posted (d) (0, 0) 2 [(0, some (.ref (ad 13 0))), (1, some (.int (nI (k))))] [] (MM ad nb b r I1 L) (xT G (qV (fun M' => ∃ I', M' = MM ad nb b r I' L ∧ (∀ p, p < V 0 4 0 → I' 89 0 p = nO (-2) (V 6 p 0)) ∧ ∀ q, q ≠ 89 → I' q = I q))) := by
    intro n
    induction n with
    | zero => intro k I1 h0; omega
    | succ n ih =>
      intro k I1 hn hk hi hs
      refine x_iload_n dX13_posted_2 rfl ?_
      refine x_bipush dX13_posted_3 lb_6 ?_
      refine x_icN_ge 29 dX13_posted_5 (by decide) (by omega) (by omega) (fun h5 => ?_) (fun h5 => ?_)
      · refine x_vret dX13_posted_29 rfl ?_
        obtain rfl : k = 6 := by omega
        exact ⟨rfl, _, rfl, fun p hp => (by rw [hi p (by omega)]; exact y69 hB hp), hs⟩
      · refine x_aload_n dX13_posted_8 rfl ?_
        refine g_M_post fX13_30 dX13_posted_9 ?_
        refine x_iload_n dX13_posted_12 rfl ?_
        refine x_aload_n dX13_posted_13 rfl ?_
        refine g_M_border hb fX13_397 dX13_posted_14 ?_
        refine g_MB_noseOf fX13_328 dX13_posted_17 hbn ?_
        refine x_iload_n dX13_posted_20 rfl ?_
        refine x_iald dX13_posted_21 rfl rfl hbn (by first | exact Nat.le_of_ble_eq_true rfl | assumption | omega) ?_
        refine x_iast dX13_posted_22 rfl rfl (Nat.le_of_ble_eq_true rfl) (by first | exact Nat.le_of_ble_eq_true rfl | assumption | omega) ?_
        refine x_iincN 1 dX13_posted_23 li_1 rfl (by decide) rfl ?_
        refine x_goto 2 dX13_posted_26 (by decide) ?_
        refine x_ls ?_ (ih (k + 1) _ (by omega) (by omega) (fun s h => ?_) (fun q hq => ?_))
        · exact ⟨rfl, rfl, trivial⟩
        · rw [xu_at]
          by_cases e0 : s = k
          · rw [if_pos e0, e0, hs 69 (by decide)]
          · rw [if_neg e0]; exact hi s (by omega)
        · rw [← hs q hq]; funext x y; rw [xu_ns hq]
  refine x_start (by decide) (Nat.le_of_ble_eq_true rfl) ?_
  refine x_iconst dX13_posted_0 li_0 ?_
  refine x_istore_n dX13_posted_1 (by decide) rfl ?_
  refine x_ls ?_ (loop2 7 0 I (by omega) (by omega) (fun s h => absurd h (Nat.not_lt_zero s)) (fun _ _ => rfl))
  exact ⟨rfl, rfl, trivial⟩
set_option maxRecDepth 100000 in
set_option maxHeartbeats 4000000 in
theorem m_dutyAt (hV : VW V) {bi : Nat} (hb : b = some bi) (hbn : bi < nb) (hB : YB V bi I) {g : Nat → Nat} (hx : ∀ s, s < V 0 2 0 → I 88 0 s = nI (g s)) (hg : ∀ s, s < V 0 2 0 → g s ≤ 198) {nz : Nat → Nat} (hp : ∀ p, p < V 0 4 0 → I 89 0 p = nO (-2) (nz p)) (hz : ∀ p, p < V 0 4 0 → nz p ≤ V 0 3 0) {t q : Nat} (ht : t < V 0 7 0) (hq4 : q < V 0 4 0) : Mt G vX13_dutyAt (d + 3) (0, 0) [.ref (ad 13 0), .int (nI (t)), .int (nI (q))] (MM ad nb b r I L) (qE (nI (dgn V (fun s => g s / 2) (V 9 t 0) q (nz q))) (MM ad nb b r I L)) := by
  have v0 := hV.1
  have v1 := hV.2.1
  have v2 := hV.2.2.1
  have v3 := hV.2.2.2.1
  have v4 := hV.2.2.2.2.1
  have v7 := hV.2.2.2.2.2.2.2.1
  have v9 := hV.2.2.2.2.2.2.2.2.2.1
  have v10 := hV.2.2.2.2.2.2.2.2.2.2.1
  have hzq := hz q hq4
  have hs0 := skl_0 hV hzq
  refine x_start (by decide) (Nat.le_of_ble_eq_true rfl) ?_
  refine x_aload_n dX13_dutyAt_0 rfl ?_
  refine g_M_post fX13_30 dX13_dutyAt_1 ?_
  refine x_iload_n dX13_dutyAt_4 rfl ?_
  refine x_iald dX13_dutyAt_5 rfl rfl (Nat.le_of_ble_eq_true rfl) (by first | exact Nat.le_of_ble_eq_true rfl | assumption | omega) ?_
  refine x_top (hp _ hq4) ?_
  refine x_bipush dX13_dutyAt_6 lb_m2 ?_
  refine x_ic_ne 15 dX13_dutyAt_8 (by decide) (fun h8 => ?_) (fun h8 => ?_)
  · have hn0 : nz q ≠ 0 := fun z => h8 ((nO_m2 (by omega)).mpr z)
    have hsk : V 4 (nz q - 1) 0 ≤ 60 := (hV.2.2.2.2.2.2.2.2.2.2.2.2.2.2.1 (nz q - 1) (by omega)).2
    have esk : skl V (nz q) = V 4 (nz q - 1) 0 := if_neg hn0
    refine x_aload_n dX13_dutyAt_15 rfl ?_
    refine x_aload_n dX13_dutyAt_16 rfl ?_
    refine g_M_border hb fX13_397 dX13_dutyAt_17 ?_
    refine g_MB_sortOf fX13_358 dX13_dutyAt_20 hbn ?_
    refine x_iload_n dX13_dutyAt_23 rfl ?_
    refine x_iald dX13_dutyAt_24 rfl rfl hbn (by first | exact Nat.le_of_ble_eq_true rfl | assumption | omega) ?_
    refine x_top (y72 hB (by first | assumption | omega)) ?_
    refine x_aload_n dX13_dutyAt_25 rfl ?_
    refine g_M_border hb fX13_397 dX13_dutyAt_26 ?_
    refine g_MB_landOf fX13_325 dX13_dutyAt_29 hbn ?_
    refine x_iload_n dX13_dutyAt_32 rfl ?_
    refine x_iald dX13_dutyAt_33 rfl rfl hbn (by first | exact Nat.le_of_ble_eq_true rfl | assumption | omega) ?_
    refine x_top (y68 hB (by first | assumption | omega)) ?_
    refine x_aload_n dX13_dutyAt_34 rfl ?_
    refine g_M_border hb fX13_397 dX13_dutyAt_35 ?_
    refine g_MB_skill fX13_323 dX13_dutyAt_38 hbn ?_
    refine x_aload_n dX13_dutyAt_41 rfl ?_
    refine g_M_post fX13_30 dX13_dutyAt_42 ?_
    refine x_iload_n dX13_dutyAt_45 rfl ?_
    refine x_iald dX13_dutyAt_46 rfl rfl (Nat.le_of_ble_eq_true rfl) (by first | exact Nat.le_of_ble_eq_true rfl | assumption | omega) ?_
    refine x_top (hp _ hq4) ?_
    rw [nO_pos hn0]
    refine x_iald dX13_dutyAt_47 rfl rfl hbn (by first | exact Nat.le_of_ble_eq_true rfl | assumption | omega) ?_
    refine x_top (y67 hB (by first | assumption | omega)) ?_
    refine x_cvi (m_dutyBy (d := d) hV hb hbn hB hx hg (p := q) (hV.2.2.2.2.2.2.2.2.2.2.2.2.2.2.2.2.2.2.1 t ht).1 (hV.2.2.2.2.2.2.2.2.2.2.2.2.2.2.2.1 q hq4).1 (show V 4 (nz q - 1) 0 ≤ 99 by omega)) kX13_415 dX13_dutyAt_48 rfl (Nat.le_of_ble_eq_true rfl) rfl rfl (Nat.le_of_ble_eq_true rfl) (fun ru Mu hqq => ?_)
    obtain ⟨rfl, rfl⟩ := hqq
    refine x_iret dX13_dutyAt_51 rfl ?_
    first
      | (unfold dgn; rw [if_pos (hs0.mpr hn0)]; exact ⟨_, rfl, rfl, rfl⟩)
      | (unfold dgn; rw [if_neg (fun z => hn0 (hs0.mp z)), esk]; exact ⟨_, rfl, rfl, rfl⟩)
  · have hn0 := (nO_m2 (by omega)).mp h8
    refine x_iconst dX13_dutyAt_11 li_0 ?_
    refine x_goto 51 dX13_dutyAt_12 (by decide) ?_
    refine x_iret dX13_dutyAt_51 rfl ?_
    first
      | (unfold dgn; rw [if_pos (hs0.mpr hn0)]; exact ⟨_, rfl, rfl, rfl⟩)
      | (unfold dgn; rw [if_neg (fun z => hn0 (hs0.mp z)), esk]; exact ⟨_, rfl, rfl, rfl⟩)
end M2
