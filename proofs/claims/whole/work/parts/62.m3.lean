section M3
variable {G : xG} {ad : Nat → Nat → Nat} {nb : Nat} {b r : Option Nat} {L : Nat → Nat → Nat → Int64} {V : sV} {I : Nat → Nat → Nat → Int32} {d : Nat}

/-- scratch of the model -/
def msc (s : Nat) : Prop := 88 ≤ s ∧ s ≤ 102
def MX (I I' : Nat → Nat → Nat → Int32) : Prop := (∀ s, ¬ msc s → s ≠ 13 → I' s = I s) ∧ ∀ k, k < 31 → I' 13 0 k = I 13 0 k
theorem MX.rf : MX I I := ⟨fun _ _ _ => rfl, fun _ _ => rfl⟩
theorem MX.tr {I1 I2 : Nat → Nat → Nat → Int32} (h1 : MX I I1) (h2 : MX I1 I2) : MX I I2 := ⟨fun s a c => (h2.1 s a c).trans (h1.1 s a c), fun k hk => (h2.2 k hk).trans (h1.2 k hk)⟩
theorem MX.of {I' : Nat → Nat → Nat → Int32} {s0 : Nat} (h : ∀ q, q ≠ s0 → I' q = I q) (hs : msc s0) : MX I I' := ⟨fun s a _ => h s (fun z => a (z ▸ hs)), fun k _ => by rw [h 13 (fun z => by rw [← z] at hs; unfold msc at hs; omega)]⟩
theorem MX.xu {I1 : Nat → Nat → Nat → Int32} {s i k : Nat} {v : Int32} (h : MX I I1) (hs : msc s) : MX I (xu I1 s i k v) := h.tr (MX.of (fun q hq => by funext x y; rw [xu_ns hq]) hs)
/-- the model's border, if there is one -/
def YO (V : sV) (nb : Nat) (b : Option Nat) (I : Nat → Nat → Nat → Int32) : Prop := (b = none ∧ ∀ k, k < 12 → V 0 k 0 = 0) ∨ ∃ bi, b = some bi ∧ bi < nb ∧ YB V bi I ∧ 0 < V 0 0 0
theorem YO.sm {I' : Nat → Nat → Nat → Int32} (h : YO V nb b I) (hs : ∀ s, s = 12 ∨ (64 ≤ s ∧ s ≤ 80) → I' s = I s) : YO V nb b I' := by
  rcases h with h | ⟨bi, h1, h2, h3, h4⟩
  · exact Or.inl h
  · exact Or.inr ⟨bi, h1, h2, h3.sm hs, h4⟩
theorem YO.mx {I' : Nat → Nat → Nat → Int32} (h : YO V nb b I) (hs : MX I I') : YO V nb b I' := h.sm (fun s h => hs.1 s (by unfold msc; omega) (by omega))
theorem YB.mx {bi : Nat} {I' : Nat → Nat → Nat → Int32} (h : YB V bi I) (hs : MX I I') : YB V bi I' := h.sm (fun s h => hs.1 s (by unfold msc; omega) (by omega))
theorem YO.some {k : Nat} (h : YO V nb b I) (hk : V 0 k 0 ≠ 0) (h12 : k < 12) : ∃ bi, b = some bi ∧ bi < nb ∧ YB V bi I := by
  rcases h with h | ⟨bi, h1, h2, h3, _⟩
  · exact absurd (h.2 k h12) hk
  · exact ⟨bi, h1, h2, h3⟩
/-- how the travellers stand, in the model's v -/
def YN (V : sV) (N : sN) (I : Nat → Nat → Nat → Int32) : Prop := ∀ t, t < V 0 7 0 → (∀ s, s < 6 → I 85 0 (6 * t + s) = nI (N t (3 + s))) ∧ I 85 0 (24 + t) = nI (N t 0) ∧ I 85 0 (28 + t) = nI (N t 1) ∧ I 85 0 (32 + t) = nI (N t 2)
theorem YN.sm {N : sN} {I' : Nat → Nat → Nat → Int32} (h : YN V N I) (hs : I' 85 = I 85) : YN V N I' := by
  unfold YN at h ⊢
  rw [hs]
  exact h
theorem YN.mx {N : sN} {I' : Nat → Nat → Nat → Int32} (h : YN V N I) (hs : MX I I') : YN V N I' := h.sm (hs.1 85 (by unfold msc; omega) (by omega))
/-- behind a question: the scratch aside, trouble q -/
def KM (I I' : Nat → Nat → Nat → Int32) (q : Nat) : Prop := (∀ s, ¬ msc s → s ≠ 13 → I' s = I s) ∧ (I' 13 0 0 = nI 0 ∧ I' 13 0 1 = nI q ∧ I' 13 0 2 = -1) ∧ ∀ k, 3 ≤ k → k < 31 → I' 13 0 k = I 13 0 k
def qM (ad : Nat → Nat → Nat) (nb : Nat) (b r : Option Nat) (I : Nat → Nat → Nat → Int32) (L : Nat → Nat → Nat → Int64) (a : Int32 × Nat) : Option Value → xM → Prop := qI (fun rr M' => rr = a.1 ∧ ∃ I', M' = MM ad nb b r I' L ∧ KM I I' a.2)
theorem KM.of {I1 : Nat → Nat → Nat → Int32} {q : Nat} (h : MX (xu I 13 0 0 (nI 0)) I1) : KM I (mG I1 q) q := by
  unfold mG
  refine ⟨fun s a c => ?_, ⟨?_, ?_, xu_s⟩, fun k h3 h31 => ?_⟩
  · funext x y
    rw [xu_ns c, xu_ns c, h.1 s a c, xu_ns c]
  · rw [xu_nk (by decide), xu_nk (by decide), h.2 0 (by decide), xu_s]
  · rw [xu_nk (by decide), xu_s]
  · rw [xu_nk (by omega), xu_nk (by omega), h.2 k h31, xu_nk (by omega)]
theorem qM_ok {I1 : Nat → Nat → Nat → Int32} {a : Int32 × Nat} {z : Int32} {q : Nat} (ha : a = (z, q)) (h : MX (xu I 13 0 0 (nI 0)) I1) : qM ad nb b r I L a (some (.int z)) (MM ad nb b r (mG I1 q) L) := by
  subst ha
  exact ⟨_, rfl, rfl, _, rfl, KM.of h⟩

theorem m_isSmell' (hV : VW V) (hO : YO V nb b I) {z : Int32} : Mt G vX13_isSmell d (0, 0) [.ref (ad 13 0), .int z] (MM ad nb b r I L) (qE (bI (inr z (V 0 2 0))) (MM ad nb b r I L)) := by
  rcases hO with ⟨hn, h0⟩ | ⟨bi, hb, hbn, hB, _⟩
  · have e : inr z (V 0 2 0) = false := decide_eq_false (fun k => k.2 (by rw [h0 2 (by decide)]; exact Int32.not_lt.mp k.1))
    rw [e]
    exact m_isSmell0 hn
  · exact m_isSmell hV hb hbn hB
theorem m_isNose' (hV : VW V) (hO : YO V nb b I) {z : Int32} : Mt G vX13_isNose d (0, 0) [.ref (ad 13 0), .int z] (MM ad nb b r I L) (qE (bI (inr z (V 0 3 0))) (MM ad nb b r I L)) := by
  rcases hO with ⟨hn, h0⟩ | ⟨bi, hb, hbn, hB, _⟩
  · have e : inr z (V 0 3 0) = false := decide_eq_false (fun k => k.2 (by rw [h0 3 (by decide)]; exact Int32.not_lt.mp k.1))
    rw [e]
    exact m_isNose0 hn
  · exact m_isNose hV hb hbn hB
theorem m_isPlace' (hV : VW V) (hO : YO V nb b I) {z : Int32} : Mt G vX13_isPlace d (0, 0) [.ref (ad 13 0), .int z] (MM ad nb b r I L) (qE (bI (inr z (V 0 4 0))) (MM ad nb b r I L)) := by
  rcases hO with ⟨hn, h0⟩ | ⟨bi, hb, hbn, hB, _⟩
  · have e : inr z (V 0 4 0) = false := decide_eq_false (fun k => k.2 (by rw [h0 4 (by decide)]; exact Int32.not_lt.mp k.1))
    rw [e]
    exact m_isPlace0 hn
  · exact m_isPlace hV hb hbn hB
theorem m_isTraveller' (hV : VW V) (hO : YO V nb b I) {z : Int32} : Mt G vX13_isTraveller d (0, 0) [.ref (ad 13 0), .int z] (MM ad nb b r I L) (qE (bI (inr z (V 0 7 0))) (MM ad nb b r I L)) := by
  rcases hO with ⟨hn, h0⟩ | ⟨bi, hb, hbn, hB, _⟩
  · have e : inr z (V 0 7 0) = false := decide_eq_false (fun k => k.2 (by rw [h0 7 (by decide)]; exact Int32.not_lt.mp k.1))
    rw [e]
    exact m_isTraveller0 hn
  · exact m_isTraveller hV hb hbn hB
set_option maxRecDepth 100000 in
set_option maxHeartbeats 4000000 in
theorem m_smell (hV : VW V) (hO : YO V nb b I) {z1 z2 : Int32} : Mt G vX13_smell (d + 1) (0, 0) [.ref (ad 13 0), .int (z1), .int (z2)] (MM ad nb b r I L) (qM ad nb b r I L (a_smell V z1 z2)) := by
  have v0 := hV.1
  have v1 := hV.2.1
  have v2 := hV.2.2.1
  have v3 := hV.2.2.2.1
  have v4 := hV.2.2.2.2.1
  have v7 := hV.2.2.2.2.2.2.2.1
  have v9 := hV.2.2.2.2.2.2.2.2.2.1
  have v10 := hV.2.2.2.2.2.2.2.2.2.2.1
  have hO := hO.sm (I' := (xu I 13 0 0 (nI 0))) (fun q hq => by funext x y; rw [xu_ns (by omega)])
  have hm := MX.rf (I := (xu I 13 0 0 (nI 0)))
  refine x_start (by decide) (Nat.le_of_ble_eq_true rfl) ?_
  refine x_aload_n dX13_smell_0 rfl ?_
  refine x_iconst dX13_smell_1 li_0 ?_
  refine p_M_thrown fX13_72 dX13_smell_2 ?_
  refine x_aload_n dX13_smell_5 rfl ?_
  refine x_iload_n dX13_smell_6 rfl ?_
  refine x_cvi (m_isSmell' hV hO) kX13_419 dX13_smell_7 rfl (Nat.le_of_ble_eq_true rfl) rfl rfl (Nat.le_of_ble_eq_true rfl) (fun ru Mu hq => ?_)
  obtain ⟨rfl, rfl⟩ := hq
  refine x_if_eq 22 dX13_smell_10 (by decide) (fun h10 => ?_) (fun h10 => ?_)
  · refine x_aload_n dX13_smell_22 rfl ?_
    refine x_iconst dX13_smell_23 li_1 ?_
    refine x_cvi (m_refused) kX13_78 dX13_smell_24 rfl (Nat.le_of_ble_eq_true rfl) rfl rfl (Nat.le_of_ble_eq_true rfl) (fun ru Mu hq => ?_)
    obtain ⟨rfl, rfl⟩ := hq
    refine x_iret dX13_smell_27 rfl ?_
    refine qM_ok (show a_smell V _ _ = (-1, 1) from if_neg (by first | simp [bI_eq.mp h10] | simp [bI_eq.mp h19])) hm
  · have qs := bI_ne.mp h10
    obtain ⟨s, hs, rfl⟩ := inr_of qs (by omega)
    obtain ⟨bi, hb, hbn, hB⟩ := hO.some (show V 0 2 0 ≠ 0 by omega) (by decide)
    refine x_iload_n dX13_smell_13 rfl ?_
    refine x_iconst dX13_smell_14 li_0 ?_
    refine x_iconst dX13_smell_15 li_2 ?_
    refine x_csi (m_in) kX13_150 dX13_smell_16 rfl rfl (Nat.le_of_ble_eq_true rfl) (fun ru Mu hq => ?_)
    obtain ⟨rfl, rfl⟩ := hq
    refine x_if_ne 28 dX13_smell_19 (by decide) (fun h19 => ?_) (fun h19 => ?_)
    · have qw := bI_ne.mp h19
      obtain ⟨w, hlw, hw, rfl⟩ := wth_of qw (by omega) (by omega)
      have hs3 := (hV.2.2.2.2.2.2.2.2.2.2.2.2.2.1 s hs).2
      refine x_aload_n dX13_smell_28 rfl ?_
      refine x_iload_n dX13_smell_29 rfl ?_
      refine x_ifN_ne 45 dX13_smell_30 (by decide) (by omega) (fun h30 => ?_) (fun h30 => ?_)
      · refine x_iload_n dX13_smell_45 rfl ?_
        refine x_iconst dX13_smell_46 li_1 ?_
        refine x_icN_ne 62 dX13_smell_47 (by decide) (by omega) (by omega) (fun h47 => ?_) (fun h47 => ?_)
        · refine x_aload_n dX13_smell_62 rfl ?_
          refine g_M_border hb fX13_397 dX13_smell_63 ?_
          refine g_MB_duty fX13_289 dX13_smell_66 hbn ?_
          refine x_aload_n dX13_smell_69 rfl ?_
          refine g_M_border hb fX13_397 dX13_smell_70 ?_
          refine g_MB_from fX13_316 dX13_smell_73 hbn ?_
          refine x_iload_n dX13_smell_76 rfl ?_
          refine x_iald dX13_smell_77 rfl rfl hbn (by first | exact Nat.le_of_ble_eq_true rfl | assumption | omega) ?_
          refine x_top (y66 hB (by first | assumption | omega)) ?_
          refine x_iald dX13_smell_78 rfl rfl hbn (by first | exact Nat.le_of_ble_eq_true rfl | assumption | omega) ?_
          refine x_top (y64 hB (by first | assumption | omega)) ?_
          refine x_cvi (m_good) kX13_82 dX13_smell_79 rfl (Nat.le_of_ble_eq_true rfl) rfl rfl (Nat.le_of_ble_eq_true rfl) (fun ru Mu hq => ?_)
          obtain ⟨rfl, rfl⟩ := hq
          refine x_iret dX13_smell_82 rfl ?_
          refine qM_ok (show a_smell V _ _ = _ from ?_) hm
          unfold a_smell
          rw [if_pos (by rw [qs, qw]; rfl), zN_nI (by omega), zN_nI (by omega)]
          first
            | rw [if_pos (by omega)]
            | rw [if_neg (by omega), if_pos (by omega)]
            | rw [if_neg (by omega), if_neg (by omega)]
        · refine x_aload_n dX13_smell_50 rfl ?_
          refine g_M_border hb fX13_397 dX13_smell_51 ?_
          refine g_MB_from fX13_316 dX13_smell_54 hbn ?_
          refine x_iload_n dX13_smell_57 rfl ?_
          refine x_iald dX13_smell_58 rfl rfl hbn (by first | exact Nat.le_of_ble_eq_true rfl | assumption | omega) ?_
          refine x_top (y66 hB (by first | assumption | omega)) ?_
          refine x_goto 79 dX13_smell_59 (by decide) ?_
          refine x_cvi (m_good) kX13_82 dX13_smell_79 rfl (Nat.le_of_ble_eq_true rfl) rfl rfl (Nat.le_of_ble_eq_true rfl) (fun ru Mu hq => ?_)
          obtain ⟨rfl, rfl⟩ := hq
          refine x_iret dX13_smell_82 rfl ?_
          refine qM_ok (show a_smell V _ _ = _ from ?_) hm
          unfold a_smell
          rw [if_pos (by rw [qs, qw]; rfl), zN_nI (by omega), zN_nI (by omega)]
          first
            | rw [if_pos (by omega)]
            | rw [if_neg (by omega), if_pos (by omega)]
            | rw [if_neg (by omega), if_neg (by omega)]
      · refine x_aload_n dX13_smell_33 rfl ?_
        refine g_M_border hb fX13_397 dX13_smell_34 ?_
        refine g_MB_kind fX13_313 dX13_smell_37 hbn ?_
        refine x_iload_n dX13_smell_40 rfl ?_
        refine x_iald dX13_smell_41 rfl rfl hbn (by first | exact Nat.le_of_ble_eq_true rfl | assumption | omega) ?_
        refine x_top (y65 hB (by first | assumption | omega)) ?_
        refine x_goto 79 dX13_smell_42 (by decide) ?_
        refine x_cvi (m_good) kX13_82 dX13_smell_79 rfl (Nat.le_of_ble_eq_true rfl) rfl rfl (Nat.le_of_ble_eq_true rfl) (fun ru Mu hq => ?_)
        obtain ⟨rfl, rfl⟩ := hq
        refine x_iret dX13_smell_82 rfl ?_
        refine qM_ok (show a_smell V _ _ = _ from ?_) hm
        unfold a_smell
        rw [if_pos (by rw [qs, qw]; rfl), zN_nI (by omega), zN_nI (by omega)]
        first
          | rw [if_pos (by omega)]
          | rw [if_neg (by omega), if_pos (by omega)]
          | rw [if_neg (by omega), if_neg (by omega)]
    · refine x_aload_n dX13_smell_22 rfl ?_
      refine x_iconst dX13_smell_23 li_1 ?_
      refine x_cvi (m_refused) kX13_78 dX13_smell_24 rfl (Nat.le_of_ble_eq_true rfl) rfl rfl (Nat.le_of_ble_eq_true rfl) (fun ru Mu hq => ?_)
      obtain ⟨rfl, rfl⟩ := hq
      refine x_iret dX13_smell_27 rfl ?_
      refine qM_ok (show a_smell V _ _ = (-1, 1) from if_neg (by first | simp [bI_eq.mp h10] | simp [bI_eq.mp h19])) hm
set_option maxRecDepth 100000 in
set_option maxHeartbeats 4000000 in
theorem m_place (hV : VW V) (hO : YO V nb b I) {z1 z2 : Int32} : Mt G vX13_place (d + 1) (0, 0) [.ref (ad 13 0), .int (z1), .int (z2)] (MM ad nb b r I L) (qM ad nb b r I L (a_place V z1 z2)) := by
  have v0 := hV.1
  have v1 := hV.2.1
  have v2 := hV.2.2.1
  have v3 := hV.2.2.2.1
  have v4 := hV.2.2.2.2.1
  have v7 := hV.2.2.2.2.2.2.2.1
  have v9 := hV.2.2.2.2.2.2.2.2.2.1
  have v10 := hV.2.2.2.2.2.2.2.2.2.2.1
  have hO := hO.sm (I' := (xu I 13 0 0 (nI 0))) (fun q hq => by funext x y; rw [xu_ns (by omega)])
  have hm := MX.rf (I := (xu I 13 0 0 (nI 0)))
  have loop33 : ∀ (n : Nat) (bi pl w k : Nat), V 0 4 0 - k < n → b = some bi → bi < nb → YB V bi (xu I 13 0 0 (nI 0)) → pl < V 0 4 0 → w ≤ 2 → inr (nI pl) (V 0 4 0) = true → wth (nI w) 0 2 = true → z1 = nI pl → z2 = nI w → k ≤ V 0 4 0 → X G vX13_place (d + 1) (0, 0) 33 [(0, some (.ref (ad 13 0))), (1, some (.int (nI (pl)))), (2, some (.int (nI (w)))), (3, some (.int (nI (pth V pl k)))), (4, some (.int (nI (k))))] [] (MM ad nb b r (xu I 13 0 0 (nI 0)) L) (xT G (qM ad nb b r I L (a_place V z1 z2))) := by
    intro n
    induction n with
    | zero => intro bi pl w k h0; omega
    | succ n ih =>
      intro bi pl w k hn hb hbn hB hpl hw qpl qw e1 e2 hk
      have h7k := hV.2.2.2.2.2.2.2.2.2.2.2.2.2.2.2.2.1 pl k
      refine x_iload dX13_place_33 rfl ?_
      refine x_aload_n dX13_place_35 rfl ?_
      refine g_M_border hb fX13_397 dX13_place_36 ?_
      refine g_MB_places fX13_230 dX13_place_39 hbn ?_
      refine x_top (y12_4 hB) ?_
      refine x_icN_ge 77 dX13_place_42 (by decide) (by omega) (by omega) (fun h42 => ?_) (fun h42 => ?_)
      · obtain rfl : k = V 0 4 0 := by omega
        refine x_aload_n dX13_place_77 rfl ?_
        refine x_iload_n dX13_place_78 rfl ?_
        refine x_ifN_ne 94 dX13_place_79 (by decide) (by omega) (fun h79 => ?_) (fun h79 => ?_)
        · refine x_iload_n dX13_place_94 rfl ?_
          refine x_iconst dX13_place_95 li_1 ?_
          refine x_icN_ne 111 dX13_place_96 (by decide) (by omega) (by omega) (fun h96 => ?_) (fun h96 => ?_)
          · refine x_iload_n dX13_place_111 rfl ?_
            refine x_cvi (m_good) kX13_82 dX13_place_112 rfl (Nat.le_of_ble_eq_true rfl) rfl rfl (Nat.le_of_ble_eq_true rfl) (fun ru Mu hq => ?_)
            obtain ⟨rfl, rfl⟩ := hq
            refine x_iret dX13_place_115 rfl ?_
            refine qM_ok (show a_place V _ _ = _ from ?_) hm
            unfold a_place
            rw [e1, e2, if_pos (by rw [qpl, qw]; rfl), zN_nI (by omega), zN_nI (by omega)]
            first
              | rw [if_pos (by omega)]
              | rw [if_neg (by omega), if_pos (by omega)]
              | rw [if_neg (by omega), if_neg (by omega)]
          · refine x_aload_n dX13_place_99 rfl ?_
            refine g_M_border hb fX13_397 dX13_place_100 ?_
            refine g_MB_noseOf fX13_328 dX13_place_103 hbn ?_
            refine x_iload_n dX13_place_106 rfl ?_
            refine x_iald dX13_place_107 rfl rfl hbn (by first | exact Nat.le_of_ble_eq_true rfl | assumption | omega) ?_
            refine x_top (y69 hB (by first | assumption | omega)) ?_
            refine x_goto 112 dX13_place_108 (by decide) ?_
            refine x_cvi (m_good) kX13_82 dX13_place_112 rfl (Nat.le_of_ble_eq_true rfl) rfl rfl (Nat.le_of_ble_eq_true rfl) (fun ru Mu hq => ?_)
            obtain ⟨rfl, rfl⟩ := hq
            refine x_iret dX13_place_115 rfl ?_
            refine qM_ok (show a_place V _ _ = _ from ?_) hm
            unfold a_place
            rw [e1, e2, if_pos (by rw [qpl, qw]; rfl), zN_nI (by omega), zN_nI (by omega)]
            first
              | rw [if_pos (by omega)]
              | rw [if_neg (by omega), if_pos (by omega)]
              | rw [if_neg (by omega), if_neg (by omega)]
        · refine x_aload_n dX13_place_82 rfl ?_
          refine g_M_border hb fX13_397 dX13_place_83 ?_
          refine g_MB_landOf fX13_325 dX13_place_86 hbn ?_
          refine x_iload_n dX13_place_89 rfl ?_
          refine x_iald dX13_place_90 rfl rfl hbn (by first | exact Nat.le_of_ble_eq_true rfl | assumption | omega) ?_
          refine x_top (y68 hB (by first | assumption | omega)) ?_
          refine x_goto 112 dX13_place_91 (by decide) ?_
          refine x_cvi (m_good) kX13_82 dX13_place_112 rfl (Nat.le_of_ble_eq_true rfl) rfl rfl (Nat.le_of_ble_eq_true rfl) (fun ru Mu hq => ?_)
          obtain ⟨rfl, rfl⟩ := hq
          refine x_iret dX13_place_115 rfl ?_
          refine qM_ok (show a_place V _ _ = _ from ?_) hm
          unfold a_place
          rw [e1, e2, if_pos (by rw [qpl, qw]; rfl), zN_nI (by omega), zN_nI (by omega)]
          first
            | rw [if_pos (by omega)]
            | rw [if_neg (by omega), if_pos (by omega)]
            | rw [if_neg (by omega), if_neg (by omega)]
      · refine x_iload_n dX13_place_45 rfl ?_
        refine x_aload_n dX13_place_46 rfl ?_
        refine g_M_border hb fX13_397 dX13_place_47 ?_
        refine g_MB_hours fX13_334 dX13_place_50 hbn ?_
        refine x_bipush dX13_place_53 lb_6 ?_
        refine x_iload_n dX13_place_55 rfl ?_
        refine x_imulN dX13_place_56 ?_
        refine x_iload dX13_place_57 rfl ?_
        refine x_iaddN dX13_place_59 ?_
        refine x_iald dX13_place_60 rfl rfl hbn (by first | exact Nat.le_of_ble_eq_true rfl | assumption | omega) ?_
        refine x_top (y70 hB (by first | assumption | omega) (by first | assumption | omega)) ?_
        refine x_ifN_le 68 dX13_place_61 (by decide) (by omega) (fun h61 => ?_) (fun h61 => ?_)
        · have ec : some (Value.int (nI (pth V pl k + 0))) = some (Value.int (nI (pth V pl (k + 1)))) := by rw [pth, if_neg (by omega)]
          refine x_iconst dX13_place_68 li_0 ?_
          refine x_iaddN dX13_place_69 ?_
          refine x_istore_n dX13_place_70 (by decide) rfl ?_
          refine x_iincN 1 dX13_place_71 li_1 rfl (by decide) rfl ?_
          refine x_goto 33 dX13_place_74 (by decide) ?_
          refine x_ls ?_ (ih bi pl w (k + 1) (by omega) hb hbn hB hpl hw qpl qw e1 e2 (by omega))
          exact ⟨rfl, rfl, rfl, ec, rfl, trivial⟩
        · have ec : some (Value.int (nI (pth V pl k + 1))) = some (Value.int (nI (pth V pl (k + 1)))) := by rw [pth, if_pos (by omega)]
          refine x_iconst dX13_place_64 li_1 ?_
          refine x_goto 69 dX13_place_65 (by decide) ?_
          refine x_iaddN dX13_place_69 ?_
          refine x_istore_n dX13_place_70 (by decide) rfl ?_
          refine x_iincN 1 dX13_place_71 li_1 rfl (by decide) rfl ?_
          refine x_goto 33 dX13_place_74 (by decide) ?_
          refine x_ls ?_ (ih bi pl w (k + 1) (by omega) hb hbn hB hpl hw qpl qw e1 e2 (by omega))
          exact ⟨rfl, rfl, rfl, ec, rfl, trivial⟩
  refine x_start (by decide) (Nat.le_of_ble_eq_true rfl) ?_
  refine x_aload_n dX13_place_0 rfl ?_
  refine x_iconst dX13_place_1 li_0 ?_
  refine p_M_thrown fX13_72 dX13_place_2 ?_
  refine x_aload_n dX13_place_5 rfl ?_
  refine x_iload_n dX13_place_6 rfl ?_
  refine x_cvi (m_isPlace' hV hO) kX13_422 dX13_place_7 rfl (Nat.le_of_ble_eq_true rfl) rfl rfl (Nat.le_of_ble_eq_true rfl) (fun ru Mu hq => ?_)
  obtain ⟨rfl, rfl⟩ := hq
  refine x_if_eq 22 dX13_place_10 (by decide) (fun h10 => ?_) (fun h10 => ?_)
  · refine x_aload_n dX13_place_22 rfl ?_
    refine x_iconst dX13_place_23 li_1 ?_
    refine x_cvi (m_refused) kX13_78 dX13_place_24 rfl (Nat.le_of_ble_eq_true rfl) rfl rfl (Nat.le_of_ble_eq_true rfl) (fun ru Mu hq => ?_)
    obtain ⟨rfl, rfl⟩ := hq
    refine x_iret dX13_place_27 rfl ?_
    refine qM_ok (show a_place V _ _ = (-1, 1) from if_neg (by first | simp [bI_eq.mp h10] | simp [bI_eq.mp h19])) hm
  · have qpl := bI_ne.mp h10
    obtain ⟨pl, hpl, rfl⟩ := inr_of qpl (by omega)
    obtain ⟨bi, hb, hbn, hB⟩ := hO.some (show V 0 4 0 ≠ 0 by omega) (by decide)
    refine x_iload_n dX13_place_13 rfl ?_
    refine x_iconst dX13_place_14 li_0 ?_
    refine x_iconst dX13_place_15 li_2 ?_
    refine x_csi (m_in) kX13_150 dX13_place_16 rfl rfl (Nat.le_of_ble_eq_true rfl) (fun ru Mu hq => ?_)
    obtain ⟨rfl, rfl⟩ := hq
    refine x_if_ne 28 dX13_place_19 (by decide) (fun h19 => ?_) (fun h19 => ?_)
    · have qw := bI_ne.mp h19
      obtain ⟨w, hlw, hw, rfl⟩ := wth_of qw (by omega) (by omega)
      refine x_iconst dX13_place_28 li_0 ?_
      refine x_istore_n dX13_place_29 (by decide) rfl ?_
      refine x_iconst dX13_place_30 li_0 ?_
      refine x_istore dX13_place_31 (by decide) rfl ?_
      refine x_ls ?_ (loop33 (V 0 4 0 + 1) bi pl w 0 (by omega) hb hbn hB hpl hw qpl qw rfl rfl (by omega))
      exact ⟨rfl, rfl, rfl, rfl, rfl, trivial⟩
    · refine x_aload_n dX13_place_22 rfl ?_
      refine x_iconst dX13_place_23 li_1 ?_
      refine x_cvi (m_refused) kX13_78 dX13_place_24 rfl (Nat.le_of_ble_eq_true rfl) rfl rfl (Nat.le_of_ble_eq_true rfl) (fun ru Mu hq => ?_)
      obtain ⟨rfl, rfl⟩ := hq
      refine x_iret dX13_place_27 rfl ?_
      refine qM_ok (show a_place V _ _ = (-1, 1) from if_neg (by first | simp [bI_eq.mp h10] | simp [bI_eq.mp h19])) hm
set_option maxRecDepth 100000 in
set_option maxHeartbeats 4000000 in
theorem m_traveller (hV : VW V) (hO : YO V nb b I) {N : sN} (hW : NW V N) (hN : YN V N I) {z1 z2 : Int32} : Mt G vX13_traveller (d + 1) (0, 0) [.ref (ad 13 0), .int (z1), .int (z2)] (MM ad nb b r I L) (qM ad nb b r I L (a_traveller V N z1 z2)) := by
  have v0 := hV.1
  have v1 := hV.2.1
  have v2 := hV.2.2.1
  have v3 := hV.2.2.2.1
  have v4 := hV.2.2.2.2.1
  have v7 := hV.2.2.2.2.2.2.2.1
  have v9 := hV.2.2.2.2.2.2.2.2.2.1
  have v10 := hV.2.2.2.2.2.2.2.2.2.2.1
  have hO := hO.sm (I' := (xu I 13 0 0 (nI 0))) (fun q hq => by funext x y; rw [xu_ns (by omega)])
  have hN := hN.sm (I' := (xu I 13 0 0 (nI 0))) (by funext x y; rw [xu_ns (by decide)])
  have hm := MX.rf (I := (xu I 13 0 0 (nI 0)))
  refine x_start (by decide) (Nat.le_of_ble_eq_true rfl) ?_
  refine x_aload_n dX13_traveller_0 rfl ?_
  refine x_iconst dX13_traveller_1 li_0 ?_
  refine p_M_thrown fX13_72 dX13_traveller_2 ?_
  refine x_aload_n dX13_traveller_5 rfl ?_
  refine x_iload_n dX13_traveller_6 rfl ?_
  refine x_cvi (m_isTraveller' hV hO) kX13_425 dX13_traveller_7 rfl (Nat.le_of_ble_eq_true rfl) rfl rfl (Nat.le_of_ble_eq_true rfl) (fun ru Mu hq => ?_)
  obtain ⟨rfl, rfl⟩ := hq
  refine x_if_eq 22 dX13_traveller_10 (by decide) (fun h10 => ?_) (fun h10 => ?_)
  · refine x_aload_n dX13_traveller_22 rfl ?_
    refine x_iconst dX13_traveller_23 li_1 ?_
    refine x_cvi (m_refused) kX13_78 dX13_traveller_24 rfl (Nat.le_of_ble_eq_true rfl) rfl rfl (Nat.le_of_ble_eq_true rfl) (fun ru Mu hq => ?_)
    obtain ⟨rfl, rfl⟩ := hq
    refine x_iret dX13_traveller_27 rfl ?_
    refine qM_ok (show a_traveller V N _ _ = (-1, 1) from if_neg (by first | simp [bI_eq.mp h10] | simp [bI_eq.mp h19])) hm
  · have qt := bI_ne.mp h10
    obtain ⟨t, ht, rfl⟩ := inr_of qt (by omega)
    obtain ⟨bi, hb, hbn, hB⟩ := hO.some (show V 0 7 0 ≠ 0 by omega) (by decide)
    refine x_iload_n dX13_traveller_13 rfl ?_
    refine x_iconst dX13_traveller_14 li_0 ?_
    refine x_iconst dX13_traveller_15 li_4 ?_
    refine x_csi (m_in) kX13_150 dX13_traveller_16 rfl rfl (Nat.le_of_ble_eq_true rfl) (fun ru Mu hq => ?_)
    obtain ⟨rfl, rfl⟩ := hq
    refine x_if_ne 28 dX13_traveller_19 (by decide) (fun h19 => ?_) (fun h19 => ?_)
    · have qw := bI_ne.mp h19
      obtain ⟨w, hlw, hw, rfl⟩ := wth_of qw (by omega) (by omega)
      refine x_iload_n dX13_traveller_28 rfl ?_
      rcases (show w = 0 ∨ w = 1 ∨ w = 2 ∨ w = 3 ∨ w = 4 by omega) with rfl | rfl | rfl | rfl | rfl
      · refine x_tswIn 60 dX13_traveller_29 (by decide) (by decide) rfl (by decide) ?_
        refine x_aload_n dX13_traveller_60 rfl ?_
        refine x_aload_n dX13_traveller_61 rfl ?_
        refine g_M_border hb fX13_397 dX13_traveller_62 ?_
        refine g_MB_sortOf fX13_358 dX13_traveller_65 hbn ?_
        refine x_iload_n dX13_traveller_68 rfl ?_
        refine x_iald dX13_traveller_69 rfl rfl hbn (by first | exact Nat.le_of_ble_eq_true rfl | assumption | omega) ?_
        refine x_top (y72 hB (by first | assumption | omega)) ?_
        refine x_cvi (m_good) kX13_82 dX13_traveller_70 rfl (Nat.le_of_ble_eq_true rfl) rfl rfl (Nat.le_of_ble_eq_true rfl) (fun ru Mu hq => ?_)
        obtain ⟨rfl, rfl⟩ := hq
        refine x_iret dX13_traveller_73 rfl ?_
        refine qM_ok (show a_traveller V N _ _ = _ from ?_) hm
        unfold a_traveller
        rw [if_pos (by rw [qt, qw]; rfl), zN_nI (by omega), zN_nI (by omega)]
        rfl
      · refine x_tswIn 74 dX13_traveller_29 (by decide) (by decide) rfl (by decide) ?_
        refine x_aload_n dX13_traveller_74 rfl ?_
        refine x_aload_n dX13_traveller_75 rfl ?_
        refine g_M_border hb fX13_397 dX13_traveller_76 ?_
        refine g_MB_home fX13_361 dX13_traveller_79 hbn ?_
        refine x_iload_n dX13_traveller_82 rfl ?_
        refine x_iald dX13_traveller_83 rfl rfl hbn (by first | exact Nat.le_of_ble_eq_true rfl | assumption | omega) ?_
        refine x_top (y73 hB (by first | assumption | omega)) ?_
        refine x_cvi (m_good) kX13_82 dX13_traveller_84 rfl (Nat.le_of_ble_eq_true rfl) rfl rfl (Nat.le_of_ble_eq_true rfl) (fun ru Mu hq => ?_)
        obtain ⟨rfl, rfl⟩ := hq
        refine x_iret dX13_traveller_87 rfl ?_
        refine qM_ok (show a_traveller V N _ _ = _ from ?_) hm
        unfold a_traveller
        rw [if_pos (by rw [qt, qw]; rfl), zN_nI (by omega), zN_nI (by omega)]
        rfl
      · refine x_tswIn 88 dX13_traveller_29 (by decide) (by decide) rfl (by decide) ?_
        refine x_aload_n dX13_traveller_88 rfl ?_
        refine x_aload_n dX13_traveller_89 rfl ?_
        refine g_M_v fX13_17 dX13_traveller_90 ?_
        refine x_bipush dX13_traveller_93 lb_24 ?_
        refine x_iload_n dX13_traveller_95 rfl ?_
        refine x_iaddN dX13_traveller_96 ?_
        refine x_iald dX13_traveller_97 rfl rfl (Nat.le_of_ble_eq_true rfl) (by first | exact Nat.le_of_ble_eq_true rfl | assumption | omega) ?_
        rw [(hN t ht).2.1]
        refine x_cvi (m_good) kX13_82 dX13_traveller_98 rfl (Nat.le_of_ble_eq_true rfl) rfl rfl (Nat.le_of_ble_eq_true rfl) (fun ru Mu hq => ?_)
        obtain ⟨rfl, rfl⟩ := hq
        refine x_iret dX13_traveller_101 rfl ?_
        refine qM_ok (show a_traveller V N _ _ = _ from ?_) hm
        unfold a_traveller
        rw [if_pos (by rw [qt, qw]; rfl), zN_nI (by omega), zN_nI (by omega)]
        rfl
      · refine x_tswIn 102 dX13_traveller_29 (by decide) (by decide) rfl (by decide) ?_
        refine x_aload_n dX13_traveller_102 rfl ?_
        refine x_aload_n dX13_traveller_103 rfl ?_
        refine g_M_v fX13_17 dX13_traveller_104 ?_
        refine x_bipush dX13_traveller_107 lb_28 ?_
        refine x_iload_n dX13_traveller_109 rfl ?_
        refine x_iaddN dX13_traveller_110 ?_
        refine x_iald dX13_traveller_111 rfl rfl (Nat.le_of_ble_eq_true rfl) (by first | exact Nat.le_of_ble_eq_true rfl | assumption | omega) ?_
        rw [(hN t ht).2.2.1]
        refine x_cvi (m_good) kX13_82 dX13_traveller_112 rfl (Nat.le_of_ble_eq_true rfl) rfl rfl (Nat.le_of_ble_eq_true rfl) (fun ru Mu hq => ?_)
        obtain ⟨rfl, rfl⟩ := hq
        refine x_iret dX13_traveller_115 rfl ?_
        refine qM_ok (show a_traveller V N _ _ = _ from ?_) hm
        unfold a_traveller
        rw [if_pos (by rw [qt, qw]; rfl), zN_nI (by omega), zN_nI (by omega)]
        rfl
      · refine x_tswOut 116 dX13_traveller_29 (by decide) (by decide) ?_
        refine x_aload_n dX13_traveller_116 rfl ?_
        refine x_aload_n dX13_traveller_117 rfl ?_
        refine g_M_v fX13_17 dX13_traveller_118 ?_
        refine x_bipush dX13_traveller_121 lb_32 ?_
        refine x_iload_n dX13_traveller_123 rfl ?_
        refine x_iaddN dX13_traveller_124 ?_
        refine x_iald dX13_traveller_125 rfl rfl (Nat.le_of_ble_eq_true rfl) (by first | exact Nat.le_of_ble_eq_true rfl | assumption | omega) ?_
        rw [(hN t ht).2.2.2]
        refine x_cvi (m_good) kX13_82 dX13_traveller_126 rfl (Nat.le_of_ble_eq_true rfl) rfl rfl (Nat.le_of_ble_eq_true rfl) (fun ru Mu hq => ?_)
        obtain ⟨rfl, rfl⟩ := hq
        refine x_iret dX13_traveller_129 rfl ?_
        refine qM_ok (show a_traveller V N _ _ = _ from ?_) hm
        unfold a_traveller
        rw [if_pos (by rw [qt, qw]; rfl), zN_nI (by omega), zN_nI (by omega)]
        rfl
    · refine x_aload_n dX13_traveller_22 rfl ?_
      refine x_iconst dX13_traveller_23 li_1 ?_
      refine x_cvi (m_refused) kX13_78 dX13_traveller_24 rfl (Nat.le_of_ble_eq_true rfl) rfl rfl (Nat.le_of_ble_eq_true rfl) (fun ru Mu hq => ?_)
      obtain ⟨rfl, rfl⟩ := hq
      refine x_iret dX13_traveller_27 rfl ?_
      refine qM_ok (show a_traveller V N _ _ = (-1, 1) from if_neg (by first | simp [bI_eq.mp h10] | simp [bI_eq.mp h19])) hm
set_option maxRecDepth 100000 in
set_option maxHeartbeats 4000000 in
theorem m_path (hV : VW V) (hO : YO V nb b I) {z1 z2 : Int32} : Mt G vX13_path (d + 1) (0, 0) [.ref (ad 13 0), .int (z1), .int (z2)] (MM ad nb b r I L) (qM ad nb b r I L (a_path V z1 z2)) := by
  have v0 := hV.1
  have v1 := hV.2.1
  have v2 := hV.2.2.1
  have v3 := hV.2.2.2.1
  have v4 := hV.2.2.2.2.1
  have v7 := hV.2.2.2.2.2.2.2.1
  have v9 := hV.2.2.2.2.2.2.2.2.2.1
  have v10 := hV.2.2.2.2.2.2.2.2.2.2.1
  have hO := hO.sm (I' := (xu I 13 0 0 (nI 0))) (fun q hq => by funext x y; rw [xu_ns (by omega)])
  have hm := MX.rf (I := (xu I 13 0 0 (nI 0)))
  refine x_start (by decide) (Nat.le_of_ble_eq_true rfl) ?_
  refine x_aload_n dX13_path_0 rfl ?_
  refine x_iconst dX13_path_1 li_0 ?_
  refine p_M_thrown fX13_72 dX13_path_2 ?_
  refine x_aload_n dX13_path_5 rfl ?_
  refine x_iload_n dX13_path_6 rfl ?_
  refine x_cvi (m_isPlace' hV hO) kX13_422 dX13_path_7 rfl (Nat.le_of_ble_eq_true rfl) rfl rfl (Nat.le_of_ble_eq_true rfl) (fun ru Mu hq => ?_)
  obtain ⟨rfl, rfl⟩ := hq
  refine x_if_eq 26 dX13_path_10 (by decide) (fun h10 => ?_) (fun h10 => ?_)
  · refine x_aload_n dX13_path_26 rfl ?_
    refine x_iconst dX13_path_27 li_1 ?_
    refine x_cvi (m_refused) kX13_78 dX13_path_28 rfl (Nat.le_of_ble_eq_true rfl) rfl rfl (Nat.le_of_ble_eq_true rfl) (fun ru Mu hq => ?_)
    obtain ⟨rfl, rfl⟩ := hq
    refine x_iret dX13_path_31 rfl ?_
    refine qM_ok (show a_path V _ _ = (-1, 1) from if_neg (by first | simp [bI_eq.mp h10] | simp [bI_eq.mp h18] | simp [h23])) hm
  · have qs := bI_ne.mp h10
    obtain ⟨s, hs, rfl⟩ := inr_of qs (by omega)
    obtain ⟨bi, hb, hbn, hB⟩ := hO.some (show V 0 4 0 ≠ 0 by omega) (by decide)
    refine x_aload_n dX13_path_13 rfl ?_
    refine x_iload_n dX13_path_14 rfl ?_
    refine x_cvi (m_isPlace' hV hO) kX13_422 dX13_path_15 rfl (Nat.le_of_ble_eq_true rfl) rfl rfl (Nat.le_of_ble_eq_true rfl) (fun ru Mu hq => ?_)
    obtain ⟨rfl, rfl⟩ := hq
    refine x_if_eq 26 dX13_path_18 (by decide) (fun h18 => ?_) (fun h18 => ?_)
    · refine x_aload_n dX13_path_26 rfl ?_
      refine x_iconst dX13_path_27 li_1 ?_
      refine x_cvi (m_refused) kX13_78 dX13_path_28 rfl (Nat.le_of_ble_eq_true rfl) rfl rfl (Nat.le_of_ble_eq_true rfl) (fun ru Mu hq => ?_)
      obtain ⟨rfl, rfl⟩ := hq
      refine x_iret dX13_path_31 rfl ?_
      refine qM_ok (show a_path V _ _ = (-1, 1) from if_neg (by first | simp [bI_eq.mp h10] | simp [bI_eq.mp h18] | simp [h23])) hm
    · have qw := bI_ne.mp h18
      obtain ⟨w, hw, rfl⟩ := inr_of qw (by omega)
      refine x_iload_n dX13_path_21 rfl ?_
      refine x_iload_n dX13_path_22 rfl ?_
      refine x_icN_ne 32 dX13_path_23 (by decide) (by omega) (by omega) (fun h23 => ?_) (fun h23 => ?_)
      · have h7k := hV.2.2.2.2.2.2.2.2.2.2.2.2.2.2.2.2.1 s w
        refine x_aload_n dX13_path_32 rfl ?_
        refine x_aload_n dX13_path_33 rfl ?_
        refine g_M_border hb fX13_397 dX13_path_34 ?_
        refine g_MB_hours fX13_334 dX13_path_37 hbn ?_
        refine x_bipush dX13_path_40 lb_6 ?_
        refine x_iload_n dX13_path_42 rfl ?_
        refine x_imulN dX13_path_43 ?_
        refine x_iload_n dX13_path_44 rfl ?_
        refine x_iaddN dX13_path_45 ?_
        refine x_iald dX13_path_46 rfl rfl hbn (by first | exact Nat.le_of_ble_eq_true rfl | assumption | omega) ?_
        refine x_top (y70 hB (by first | assumption | omega) (by first | assumption | omega)) ?_
        refine x_ifN_le 67 dX13_path_47 (by decide) (by omega) (fun h47 => ?_) (fun h47 => ?_)
        · refine x_bipush dX13_path_67 lb_m2 ?_
          refine x_cvi (m_good) kX13_82 dX13_path_69 rfl (Nat.le_of_ble_eq_true rfl) rfl rfl (Nat.le_of_ble_eq_true rfl) (fun ru Mu hq => ?_)
          obtain ⟨rfl, rfl⟩ := hq
          refine x_iret dX13_path_72 rfl ?_
          refine qM_ok (show a_path V _ _ = _ from ?_) hm
          unfold a_path
          rw [if_pos (by rw [qs, qw]; simp; exact fun z => h23 ((nI_eq (by omega) (by omega)).mp z)), zN_nI (by omega), zN_nI (by omega)]
          first
            | rw [if_neg (by omega)]
            | rw [if_pos (by omega)]
        · refine x_aload_n dX13_path_50 rfl ?_
          refine g_M_border hb fX13_397 dX13_path_51 ?_
          refine g_MB_hours fX13_334 dX13_path_54 hbn ?_
          refine x_bipush dX13_path_57 lb_6 ?_
          refine x_iload_n dX13_path_59 rfl ?_
          refine x_imulN dX13_path_60 ?_
          refine x_iload_n dX13_path_61 rfl ?_
          refine x_iaddN dX13_path_62 ?_
          refine x_iald dX13_path_63 rfl rfl hbn (by first | exact Nat.le_of_ble_eq_true rfl | assumption | omega) ?_
          refine x_top (y70 hB (by first | assumption | omega) (by first | assumption | omega)) ?_
          refine x_goto 69 dX13_path_64 (by decide) ?_
          refine x_cvi (m_good) kX13_82 dX13_path_69 rfl (Nat.le_of_ble_eq_true rfl) rfl rfl (Nat.le_of_ble_eq_true rfl) (fun ru Mu hq => ?_)
          obtain ⟨rfl, rfl⟩ := hq
          refine x_iret dX13_path_72 rfl ?_
          refine qM_ok (show a_path V _ _ = _ from ?_) hm
          unfold a_path
          rw [if_pos (by rw [qs, qw]; simp; exact fun z => h23 ((nI_eq (by omega) (by omega)).mp z)), zN_nI (by omega), zN_nI (by omega)]
          first
            | rw [if_neg (by omega)]
            | rw [if_pos (by omega)]
      · refine x_aload_n dX13_path_26 rfl ?_
        refine x_iconst dX13_path_27 li_1 ?_
        refine x_cvi (m_refused) kX13_78 dX13_path_28 rfl (Nat.le_of_ble_eq_true rfl) rfl rfl (Nat.le_of_ble_eq_true rfl) (fun ru Mu hq => ?_)
        obtain ⟨rfl, rfl⟩ := hq
        refine x_iret dX13_path_31 rfl ?_
        refine qM_ok (show a_path V _ _ = (-1, 1) from if_neg (by first | simp [bI_eq.mp h10] | simp [bI_eq.mp h18] | simp [h23])) hm
end M3
