section M51
variable {G : xG} {ad : Nat → Nat → Nat} {nb : Nat} {b r : Option Nat} {L : Nat → Nat → Nat → Int64} {V : sV} {I : Nat → Nat → Nat → Int32} {d : Nat}
variable {T : Nat → Nat} {e a : Nat} {ri : Nat} {s : pS} {N : sN} {h : sH} {mk : List sN}

def FBo (ri : Nat) (I I' : Nat → Nat → Nat → Int32) (L L' : Nat → Nat → Nat → Int64) : Prop := (∀ s c, s ≠ 13 → s ≠ 85 → ¬ ((s = 12 ∨ (64 ≤ s ∧ s ≤ 83)) ∧ c = ri) → I' s c = I s c) ∧ (∀ k, ¬ (8 ≤ k ∧ k ≤ 14) → k ≠ 1 → k ≠ 2 → k ≠ 19 → k ≠ 20 → I' 13 0 k = I 13 0 k) ∧ ∀ s c, s ≠ 13 → ¬ (s = 81 ∧ c = ri) → L' s c = L s c
def qBr (T : Nat → Nat) (e : Nat) (ad : Nat → Nat → Nat) (nb : Nat) (b r : Option Nat) (ri : Nat) (I : Nat → Nat → Nat → Int32) (L : Nat → Nat → Nat → Int64) : Option Value → xM → Prop := qI (fun rr M' => ∃ I' L', FBo ri I I' L L' ∧ match rdB T e with
  | .inl f => rr = -1 ∧ M' = MM ad nb b r I' L' ∧ I' 85 = I 85 ∧ I' 13 0 19 = I 13 0 19 ∧ I' 13 0 20 = I 13 0 20 ∧ I' 13 0 1 = nI 4 ∧ I' 13 0 2 = nI f.2 ∧ I' 13 0 13 = nI f.1
  | .inr s => rr = nI (s.1 0 4 0) ∧ M' = MM ad nb (some ri) r I' L' ∧ YB s.1 ri I' ∧ YN s.1 (N0 s.1) I' ∧ I' 13 0 1 = nI 0 ∧ I' 13 0 2 = -1 ∧ I' 13 0 19 = nI 0 ∧ I' 13 0 20 = nI 0 ∧ I' 13 0 13 = nI 0)
theorem qBr_no {f : Nat × Nat} {I' : Nat → Nat → Nat → Int32} {L' : Nat → Nat → Nat → Int64} (hf : rdB T e = .inl f) (hF : FBo ri I I' L L') (h : I' 85 = I 85 ∧ I' 13 0 19 = I 13 0 19 ∧ I' 13 0 20 = I 13 0 20 ∧ I' 13 0 1 = nI 4 ∧ I' 13 0 2 = nI f.2 ∧ I' 13 0 13 = nI f.1) : qBr T e ad nb b r ri I L (some (.int (-1))) (MM ad nb b r I' L') := by
  refine ⟨_, rfl, I', L', hF, ?_⟩
  rw [hf]
  exact ⟨rfl, rfl, h⟩
theorem qBr_ok {I' : Nat → Nat → Nat → Int32} {L' : Nat → Nat → Nat → Int64} (hf : rdB T e = .inr s) (hF : FBo ri I I' L L') (h : YB s.1 ri I' ∧ YN s.1 (N0 s.1) I' ∧ I' 13 0 1 = nI 0 ∧ I' 13 0 2 = -1 ∧ I' 13 0 19 = nI 0 ∧ I' 13 0 20 = nI 0 ∧ I' 13 0 13 = nI 0) : qBr T e ad nb b r ri I L (some (.int (nI (s.1 0 4 0)))) (MM ad nb (some ri) r I' L') := by
  refine ⟨_, rfl, I', L', hF, ?_⟩
  rw [hf]
  exact ⟨rfl, rfl, h⟩

set_option maxRecDepth 100000 in
set_option maxHeartbeats 600000 in
theorem mbd_read (hr : r = some ri) (hbn : ri < nb) {z : Int32} (hT : YTp T e I) (h7 : I 13 0 7 = nI e) (h8 : I 13 0 8 = nI 0) (h13 : I 13 0 13 = nI 0) (h12 : ∀ k, I 12 ri k = 0) (h64 : ∀ s j, 64 ≤ s → s ≤ 80 → I s ri j = 0) : X G vX13_border (d + 13) (0, 0) 54 [(0, some (.ref (ad 13 0))), (1, some (.int (z)))] [] (MM ad nb b r I L) (xT G (qBr T e ad nb b r ri I L)) := by
  refine x_aload_n dX13_border_54 rfl ?_
  refine x_iconst dX13_border_55 li_0 ?_
  refine p_M_sort fX13_100 dX13_border_56 ?_
  refine x_aload_n dX13_border_59 rfl ?_
  refine x_cvv (m_goesOn (d := d + 11) (T := T) (e := e) (a := 0) ⟨fun i hi => by rw [xu_ns (by decide)]; exact hT.1 i hi, hT.2⟩ (Nat.zero_le e) (by rw [xu_nk (by decide)]; exact h7) (by rw [xu_nk (by decide)]; exact h8) (so := 0) xu_s (by decide)) kX13_139 dX13_border_60 rfl (Nat.le_of_ble_eq_true rfl) rfl rfl (Nat.le_of_ble_eq_true rfl) (fun Mu hq => ?_)
  obtain ⟨I5, L5, rfl, y5, f5⟩ := hq
  have hT5 : YTp T e I5 := ⟨fun i hi => by rw [f5.1 84 (by decide), xu_ns (by decide)]; exact hT.1 i hi, hT.2⟩
  have z12 : ∀ k, I5 12 ri k = 0 := fun k => by rw [f5.1 12 (by decide), xu_ns (by decide)]; exact h12 k
  have z64 : ∀ s j, 64 ≤ s → s ≤ 80 → I5 s ri j = 0 := fun s j g1 g2 => by rw [f5.1 s (by omega), xu_ns (by omega)]; exact h64 s j g1 g2
  have z13 : I5 13 0 13 = nI 0 := by rw [f5.2.1 13 (by decide), xu_nk (by decide)]; exact h13
  refine x_aload_n dX13_border_63 rfl ?_
  refine x_cvv (m_readAll (d := d) hr hbn hT5 ⟨⟨Nat.zero_le e, y5, z13⟩, YB_0 z12 z64, YNm_0 z12⟩) kX13_394 dX13_border_64 rfl (Nat.le_of_ble_eq_true rfl) rfl rfl (Nat.le_of_ble_eq_true rfl) (fun Mu hq => ?_)
  obtain ⟨I6, L6, rfl, f6, r6, p6⟩ := hq
  cases hB : rdB T e with
  | inl f =>
    rw [hB] at r6
    have hok := okF_all _ _ _ hB
    refine x_aload_n dX13_border_67 rfl ?_
    refine g_M_fault fX13_129 dX13_border_68 ?_
    refine x_top (show I6 13 0 13 = nI f.1 from (r6 f rfl).2.2.1) ?_
    refine x_ifN_le 89 dX13_border_71 (by decide) (by omega) (fun h71 => absurd h71 (by omega)) (fun h71 => ?_)
    refine x_aload_n dX13_border_74 rfl ?_
    refine x_iconst dX13_border_75 li_4 ?_
    refine p_M_trouble fX13_75 dX13_border_76 ?_
    refine x_aload_n dX13_border_79 rfl ?_
    refine x_aload_n dX13_border_80 rfl ?_
    refine g_M_wrongAt fX13_132 dX13_border_81 ?_
    rw [xu_nk (by decide)]
    refine x_top (show I6 13 0 14 = nI f.2 from (r6 f rfl).2.2.2) ?_
    refine p_M_where fX13_9 dX13_border_84 ?_
    refine x_iconst dX13_border_87 li_m1 ?_
    refine x_iret dX13_border_88 rfl ?_
    refine qBr_no hB ⟨fun s c h1 h2 h3 => ?_, fun k h1 h2 h3 h4 h5 => ?_, fun s c h1 h2 => ?_⟩ ⟨?_, ?_, ?_, ?_, ?_, ?_⟩
    · funext y; rw [xu_ns h1, xu_ns h1, f6.1 s c h1 h3, f5.1 s h1, xu_ns h1]
    · rw [xu_nk h3, xu_nk h2, f6.2.1 k h1, f5.2.1 k (by omega), xu_nk (by omega)]
    · rw [f6.2.2 s c h1 h2, f5.2.2 s h1]
    · funext c y; rw [xu_ns (by decide), xu_ns (by decide), f6.1 85 c (by decide) (by omega), f5.1 85 (by decide), xu_ns (by decide)]
    · rw [xu_nk (by decide), xu_nk (by decide), f6.2.1 19 (by decide), f5.2.1 19 (by decide), xu_nk (by decide)]
    · rw [xu_nk (by decide), xu_nk (by decide), f6.2.1 20 (by decide), f5.2.1 20 (by decide), xu_nk (by decide)]
    · rw [xu_nk (by decide), xu_s]
    · rw [xu_s]
    · rw [xu_nk (by decide), xu_nk (by decide)]; exact (r6 f rfl).2.2.1
  | inr s =>
    rw [hB] at p6
    have hpc := rdAll_pc (T := T) (e := e) (e + 1) (V00, [], 0) s (by show e < 0 + (e + 1); omega) (Nat.zero_le e) PC_0 hB
    refine x_aload_n dX13_border_67 rfl ?_
    refine g_M_fault fX13_129 dX13_border_68 ?_
    refine x_top (show I6 13 0 13 = nI 0 from (p6 s rfl).1.2.2) ?_
    refine x_ifN_le 89 dX13_border_71 (by decide) (by omega) (fun h71 => ?_) (fun h71 => absurd h71 (by decide))
    refine x_aload_n dX13_border_89 rfl ?_
    refine x_aload_n dX13_border_90 rfl ?_
    refine g_M_read hr fX13_185 dX13_border_91 ?_
    refine p_M_border fX13_397 dX13_border_94 ?_
    refine x_iconst dX13_border_97 li_0 ?_
    refine x_istore_n dX13_border_98 (by decide) rfl ?_
    refine x_wk (x_ls ?_ (lp_mbo (d := d + 12) (z := z) (b := some ri) hpc.1.1.1 rfl hbn (p6 s rfl).2.1 5 0 I6 (by decide) (by decide) ⟨fun _ _ => rfl, fun u hu => absurd hu (Nat.not_lt_zero u)⟩)) (fun v M2 hv => ?_)
    · exact ⟨rfl, rfl, rfl, trivial⟩
    obtain ⟨rr, rfl, rfl, I7, rfl, y7, f7, ⟨t1, t2, t3, t4⟩, g7⟩ := hv
    refine qBr_ok hB ⟨fun s c h1 h2 h3 => ?_, fun k h1 h2 h3 h4 h5 => ?_, fun s c h1 h2 => ?_⟩ ⟨(p6 s rfl).2.1.sm (fun q hq => f7 q (by omega) (by omega)), y7, t1, t2, t3, t4, ?_⟩
    · rw [f7 s h1 h2, f6.1 s c h1 h3, f5.1 s h1]; funext y; rw [xu_ns h1]
    · rw [g7 k h2 h3 h4 h5, f6.2.1 k h1, f5.2.1 k (by omega), xu_nk (by omega)]
    · rw [f6.2.2 s c h1 h2, f5.2.2 s h1]
    · rw [g7 13 (by decide) (by decide) (by decide) (by decide)]; exact (p6 s rfl).1.2.2

def mqB (T : Nat → Nat) (n : Nat) (z : Int32) (V : sV) (N : sN) (h : sH) (mk : List sN) (ad : Nat → Nat → Nat) (nb : Nat) (b r : Option Nat) (I : Nat → Nat → Nat → Int32) (L : Nat → Nat → Nat → Int64) : Option Value → xM → Prop := qI (fun rr M' => if wth z 0 n = true then ∃ ad' I' L', (∀ s i, ¬ ((s = 12 ∨ (64 ≤ s ∧ s ≤ 83)) ∧ i = nb) → ad' s i = ad s i) ∧ (∀ s, (s < 64 ∨ 103 ≤ s) → s ≠ 12 → s ≠ 13 → I' s = I s ∧ L' s = L s) ∧ I' 13 0 6 = nI 0 ∧ I' 13 0 0 = nI 0 ∧ (match rdB T (zN z) with
  | .inl f => rr = -1 ∧ M' = MM ad' (nb + 1) b (some nb) I' L' ∧ YO V (nb + 1) b I' ∧ YS V N h mk I' ∧ I' 13 0 1 = nI 4 ∧ I' 13 0 2 = nI f.2 ∧ I' 13 0 13 = nI f.1
  | .inr s => rr = nI (s.1 0 4 0) ∧ M' = MM ad' (nb + 1) (some nb) (some nb) I' L' ∧ YB s.1 nb I' ∧ YS s.1 (N0 s.1) [] [] I' ∧ I' 13 0 1 = nI 0 ∧ I' 13 0 2 = -1 ∧ I' 13 0 13 = nI 0)
  else rr = -1 ∧ ∃ I', M' = MM ad nb b r I' L ∧ KM I I' 2)
theorem YO_hb (h : YO V nb b I) : ∀ n, b = some n → n < nb := by
  intro n hn
  rcases h with ⟨h1, -⟩ | ⟨bi, h1, h2, -⟩
  · rw [hn] at h1; cases h1
  · rw [hn] at h1; cases h1; exact h2
theorem YO_grow {I' : Nat → Nat → Nat → Int32} (h : YO V nb b I) (hs : ∀ s bi, s = 12 ∨ (64 ≤ s ∧ s ≤ 80) → bi < nb → I' s bi = I s bi) : YO V (nb + 1) b I' := by
  rcases h with h | ⟨bi, h1, h2, h3, h4⟩
  · exact Or.inl h
  · exact Or.inr ⟨bi, h1, by omega, h3.smB (fun s hq => hs s bi hq h2), h4⟩

set_option maxRecDepth 100000 in
set_option maxHeartbeats 600000 in
theorem m_border (hO : YO V nb b I) (hS : YS V N h mk I) (hrb : ∀ n, r = some n → n < nb) {n : Nat} (hT : YT T n I) (hT2 : ∀ i, T i < 256) {z : Int32} : Mt G vX13_border (d + 13) (21, 283) [.ref (ad 13 0), .int (z)] (MM ad nb b r I L) (mqB T n z V N h mk ad nb b r I L) := by
  have hn1 := hT.2.1
  refine x_start (by decide) (Nat.le_of_ble_eq_true rfl) ?_
  refine x_aload_n dX13_border_0 rfl ?_
  refine x_iconst dX13_border_1 li_0 ?_
  refine p_M_thrown fX13_72 dX13_border_2 ?_
  refine x_iload_n dX13_border_5 rfl ?_
  refine x_if_lt 17 dX13_border_6 (by decide) (fun h6 => ?_) (fun h6 => ?_)
  · refine x_aload_n dX13_border_17 rfl ?_
    refine x_iconst dX13_border_18 li_2 ?_
    refine x_cvi (m_refused (d := d + 12)) kX13_78 dX13_border_19 rfl (Nat.le_of_ble_eq_true rfl) rfl rfl (Nat.le_of_ble_eq_true rfl) (fun ru Mu hq => ?_)
    obtain ⟨rfl, rfl⟩ := hq
    refine x_iret dX13_border_22 rfl ?_
    first
      | exact ⟨_, rfl, by show ite _ _ _; rw [if_neg (by rw [wth_no (Or.inl h6)]; decide)]; exact ⟨rfl, _, rfl, KM.of MX.rf⟩⟩
      | exact ⟨_, rfl, by show ite _ _ _; rw [if_neg (by rw [wth_no (Or.inr h14)]; decide)]; exact ⟨rfl, _, rfl, KM.of MX.rf⟩⟩
  · refine x_iload_n dX13_border_9 rfl ?_
    refine x_aload_n dX13_border_10 rfl ?_
    refine g_M_taped fX13_390 dX13_border_11 ?_
    rw [xu_nk (by decide)]
    refine x_top (show I 13 0 6 = nI n from hT.1) ?_
    refine x_ic_le 23 dX13_border_14 (by decide) (fun h14 => ?_) (fun h14 => ?_)
    · obtain ⟨e, he, rfl⟩ := nI_of h6
      have hen : e ≤ n := (nI_leI he (by omega)).mp h14
      refine x_aload_n dX13_border_23 rfl ?_
      refine x_iload_n dX13_border_24 rfl ?_
      refine p_M_size fX13_85 dX13_border_25 ?_
      refine x_aload_n dX13_border_28 rfl ?_
      refine x_iconst dX13_border_29 li_0 ?_
      refine p_M_taped fX13_390 dX13_border_30 ?_
      refine x_aload_n dX13_border_33 rfl ?_
      refine x_iconst dX13_border_34 li_0 ?_
      refine p_M_spot fX13_103 dX13_border_35 ?_
      refine x_aload_n dX13_border_38 rfl ?_
      refine x_iconst dX13_border_39 li_0 ?_
      refine p_M_fault fX13_129 dX13_border_40 ?_
      refine x_aload_n dX13_border_43 rfl ?_
      refine x_newB (b1 := 20) (b2 := 250) dX13_border_44 (xm6 140 rfl rfl) (YO_hb hO) hrb (fun ad1 hA1 => ?_)
      refine x_dup dX13_border_47 rfl ?_
      refine x_civ (b1 := 0) (b2 := 0) (m_binit (d := d + 11)) kX13_393 dX13_border_48 rfl rfl (Nat.le_of_ble_eq_true rfl) (fun Mu hq => ?_)
      obtain ⟨ad2, I2, L2, rfl, hN⟩ := hq
      have e13 : ad 13 0 = ad2 13 0 := by rw [hN.1 13 0 (by omega), hA1 13 0 (by omega)]
      have e12 : ad1 12 nb = ad2 12 nb := (hN.1 12 nb (by omega)).symm
      rw [e13, e12]
      refine p_M_read fX13_185 dX13_border_51 ?_
      have k13 : ∀ k, I2 13 0 k = (xu (xu (xu (xu (xu I 13 0 0 (nI 0)) 13 0 7 (nI e)) 13 0 6 (nI 0)) 13 0 8 (nI 0)) 13 0 13 (nI 0)) 13 0 k := fun k => by rw [hN.2.1.1 13 0 (by omega)]; show (if _ then _ else _) = _; rw [if_neg (by omega)]
      have kI : ∀ s c, s ≠ 13 → ¬ ((s = 12 ∨ (64 ≤ s ∧ s ≤ 83)) ∧ c = nb) → I2 s c = I s c := fun s c h1 h2 => by rw [hN.2.1.1 s c (by omega)]; funext y; show (if _ then _ else _) = _; rw [if_neg (by omega), xu_ns h1, xu_ns h1, xu_ns h1, xu_ns h1, xu_ns h1]
      have kL : ∀ s c, ¬ ((s = 12 ∨ (64 ≤ s ∧ s ≤ 83)) ∧ c = nb) → L2 s c = L s c := fun s c h2 => by rw [hN.2.2.1 s c (by omega)]; funext y; show (if _ then _ else _) = _; rw [if_neg (by omega)]
      have hTp : YTp T e I2 := ⟨fun i hi => by rw [kI 84 0 (by decide) (by omega)]; exact hT.2.2 i (by omega), by have := hT.2.1; omega, hT2⟩
      refine x_wk (x_ls ?_ (mbd_read (d := d) (T := T) (e := e) (z := nI e) (ri := nb) (b := b) rfl (Nat.lt_succ_self nb) hTp ?_ ?_ ?_ (fun k => ?_) (fun s j h1 h2 => hN.2.1.2 s j h1 (by omega)))) (fun v M2 hv => ?_)
      · exact ⟨rfl, rfl, trivial⟩
      · rw [k13, xu_nk (by decide), xu_nk (by decide), xu_nk (by decide), xu_s]
      · rw [k13, xu_nk (by decide), xu_s]
      · rw [k13, xu_s]
      · rw [hN.2.1.1 12 nb (by omega)]; exact if_pos ⟨rfl, rfl⟩
      obtain ⟨rr, rfl, I3, L3, hF, hm⟩ := hv
      have hzN : zN (nI e) = e := zN_nI he
      have hw : wth (nI e) 0 n = true := wth_yes h6 h14
      refine ⟨_, rfl, ?_⟩
      show ite _ _ _
      rw [if_pos hw, hzN]
      refine ⟨ad2, I3, L3, fun s i hs => by rw [hN.1 s i (by omega), hA1 s i (by omega)], fun s h1 h2 h3 => ⟨?_, ?_⟩, ?_, ?_, ?_⟩
      · funext c; rw [hF.1 s c h3 (by omega) (by omega), kI s c h3 (by omega)]
      · funext c; rw [hF.2.2 s c h3 (by omega), kL s c (by omega)]
      · rw [hF.2.1 6 (by decide) (by decide) (by decide) (by decide) (by decide), k13, xu_nk (by decide), xu_nk (by decide), xu_s]
      · rw [hF.2.1 0 (by decide) (by decide) (by decide) (by decide) (by decide), k13, xu_nk (by decide), xu_nk (by decide), xu_nk (by decide), xu_nk (by decide), xu_s]
      cases hB : rdB T e with
      | inl f =>
        rw [hB] at hm
        obtain ⟨rfl, rfl, h85, h19, h20, g1, g2, g3⟩ := hm
        have q19 : I3 13 0 19 = I 13 0 19 := by rw [h19, k13, xu_nk (by decide), xu_nk (by decide), xu_nk (by decide), xu_nk (by decide), xu_nk (by decide)]
        have q20 : I3 13 0 20 = I 13 0 20 := by rw [h20, k13, xu_nk (by decide), xu_nk (by decide), xu_nk (by decide), xu_nk (by decide), xu_nk (by decide)]
        have qs : ∀ s, s = 86 ∨ s = 87 → I3 s = I s := fun s hs => by funext c; rw [hF.1 s c (by omega) (by omega) (by omega), kI s c (by omega) (by omega)]
        have q85 : I3 85 = I 85 := by rw [h85]; funext c; rw [kI 85 c (by omega) (by omega)]
        exact ⟨rfl, rfl, YO_grow hO (fun s bi hs hbi => by rw [hF.1 s bi (by omega) (by omega) (by omega), kI s bi (by omega) (by omega)]), ⟨hS.1.sm q85, hS.2.1.sm (qs 86 (by omega)) q19, hS.2.2.sm (qs 87 (by omega)) q20⟩, g1, g2, g3⟩
      | inr s =>
        rw [hB] at hm
        obtain ⟨rfl, rfl, y1, y2, g1, g2, g3, g4, g5⟩ := hm
        exact ⟨rfl, rfl, y1, ⟨y2, ⟨g3, Nat.zero_le _, fun i q hq => by cases i <;> cases hq⟩, ⟨g4, Nat.zero_le _, fun i q hq => by cases i <;> cases hq⟩⟩, g1, g2, g5⟩
    · refine x_aload_n dX13_border_17 rfl ?_
      refine x_iconst dX13_border_18 li_2 ?_
      refine x_cvi (m_refused (d := d + 12)) kX13_78 dX13_border_19 rfl (Nat.le_of_ble_eq_true rfl) rfl rfl (Nat.le_of_ble_eq_true rfl) (fun ru Mu hq => ?_)
      obtain ⟨rfl, rfl⟩ := hq
      refine x_iret dX13_border_22 rfl ?_
      first
        | exact ⟨_, rfl, by show ite _ _ _; rw [if_neg (by rw [wth_no (Or.inl h6)]; decide)]; exact ⟨rfl, _, rfl, KM.of MX.rf⟩⟩
        | exact ⟨_, rfl, by show ite _ _ _; rw [if_neg (by rw [wth_no (Or.inr h14)]; decide)]; exact ⟨rfl, _, rfl, KM.of MX.rf⟩⟩
end M51
