section M43
variable {G : xG} {ad : Nat → Nat → Nat} {nb : Nat} {b r : Option Nat} {L : Nat → Nat → Nat → Int64} {V : sV} {I : Nat → Nat → Nat → Int32} {d : Nat}
variable {T : Nat → Nat} {e a : Nat} {nm : List (Nat × Nat × Nat)} {ri : Nat} {c : cS} {s : pS}
theorem ch_1 (v : Int64) : wiN 1 v ≠ 0 ↔ v = pkS 13 := by rw [wiN_1]; constructor <;> intro h <;> (by_cases z : pkS 13 = v) <;> simp_all
set_option maxRecDepth 100000 in
set_option maxHeartbeats 600000 in
theorem mov_wind {g : Nat × Nat} {I4 : Nat → Nat → Nat → Int32} {L4 : Nat → Nat → Nat → Int64} (hT : YTp T e I4) (hR : RSt T e (.inl g) I4 L4) (hF : FR I I4 L L4) : X G vX13_readBorder (d + 8) (0, 0) 15 [(0, some (.ref (ad 13 0)))] [] (MM ad nb b r I4 L4) (xT G (qV (fun M' => ∃ I' L', M' = MM ad nb b r I' L' ∧ RSt T e (.inl g) I' L' ∧ FR I I' L L'))) := by
  refine x_aload_n dX13_readBorder_15 rfl ?_
  refine x_cvv (m_goesOn' (d := d + 6) hR.2.1) kX13_139 dX13_readBorder_16 rfl (Nat.le_of_ble_eq_true rfl) rfl rfl (Nat.le_of_ble_eq_true rfl) (fun Mu hq => ?_)
  subst hq
  refine x_aload_n dX13_readBorder_19 rfl ?_
  refine x_ldcSw (n := 13) dX13_readBorder_20 rfl ?_
  refine x_iconst dX13_readBorder_23 li_1 ?_
  refine x_iconst dX13_readBorder_24 li_5 ?_
  refine x_cvi (m_readPart (d := d) (c := .inl g) (i := 13) (lo := 1) (hi := 5) (by decide) (by decide) (by decide) (by decide) hT hR) kX13_270 dX13_readBorder_25 rfl (Nat.le_of_ble_eq_true rfl) rfl rfl (Nat.le_of_ble_eq_true rfl) (fun rw_ Mu hq => ?_)
  obtain ⟨I5, L5, rfl, r5, f5, -⟩ := hq
  have r5 : RSt T e (.inl g) I5 L5 := r5
  refine x_istore_n dX13_readBorder_28 (by decide) rfl ?_
  refine x_aload_n dX13_readBorder_29 rfl ?_
  refine g_M_sort fX13_100 dX13_readBorder_30 ?_
  refine x_top (show I5 13 0 9 = nI 5 from r5.2.1) ?_
  refine x_iconst dX13_readBorder_33 li_5 ?_
  refine x_icN_ne 38 dX13_readBorder_34 (by decide) (by omega) (by omega) (fun h34 => absurd rfl h34) (fun h34 => ?_)
  refine x_vret dX13_readBorder_37 rfl ?_
  exact ⟨rfl, _, _, rfl, r5, hF.tr f5⟩
set_option maxRecDepth 100000 in
set_option maxHeartbeats 600000 in
theorem lp_mwd (hr : r = some ri) (hbn : ri < nb) (hT : YTp T e I) (hP : YPS T e s ri I L) (hW : PW s) (hZ : PZ s) {I5 : Nat → Nat → Nat → Int32} {L5 : Nat → Nat → Nat → Int64} {x2 x : Nat} {z1 : Int32} (hs2 : rdLn T e s = .inr (setV s.1 0 0 0 x2, s.2.1, x)) (r5 : RSt T e (.inr x) I5 L5) (f5 : FR I I5 L L5) (h17 : ∀ i, s.1 17 i 0 = 0) : ∀ (n : Nat) (k : Nat) (I1 : Nat → Nat → Nat → Int32), 6 - k < n → k ≤ 6 → (∀ l, l < k → I1 80 ri l = -1) → (∀ t q, ¬ (t = 80 ∧ q = ri) → I1 t q = (xu I5 12 ri 0 (nI x2)) t q) → X G vX13_readBorder (d + 8) (0, 0) 48 [(0, some (.ref (ad 13 0))), (1, some (.int (z1))), (2, some (.int (nI (k))))] [] (MM ad nb b r I1 L5) (xT G (qLn T e ad nb b r ri I L (rdLn T e s))) := by
  intro n
  induction n with
  | zero => intro k I1 h0; omega
  | succ n ih =>
    intro k I1 hn hk h1 hs
    refine x_iload_n dX13_readBorder_48 rfl ?_
    refine x_bipush dX13_readBorder_49 lb_6 ?_
    refine x_icN_ge 70 dX13_readBorder_51 (by decide) (by omega) (by omega) (fun h51 => ?_) (fun h51 => ?_)
    · refine x_vret dX13_readBorder_70 rfl ?_
      obtain rfl : k = 6 := by omega
      have hB5 := hP.2.1.sm (I' := I5) (fun q hq => f5.1 q (by omega))
      refine ⟨rfl, _, _, rfl, f5.fq.tr ⟨fun t q h1 h2 => ?_, fun j _ => ?_, fun _ _ _ _ => rfl⟩, (fun g z => by rw [hs2] at z; cases z), fun s5 z => ?_⟩
      · rw [hs t q (by omega)]; funext y; rw [xu_n (by omega)]
      · rw [hs 13 0 (by omega), xu_ns (by decide)]
      rw [hs2] at z
      cases z
      refine ⟨YPS.st r5 (by rw [hs 13 0 (by omega)]; funext y; rw [xu_ns (by decide)]) rfl, YB.wind (x := x2) h17 (fun l hl => h1 l (by omega)) hB5 ?_ (fun j h3 h4 => ?_) (fun q h3 h4 h5 => ?_), (hP.2.2.fr f5).sm2 ?_ ?_ ?_ rfl⟩
      · rw [hs 12 ri (by omega), xu_s]
      · rw [hs 12 ri (by omega), xu_nk h3]
      · rw [hs q ri (by omega)]; funext y; rw [xu_ns (by omega)]
      · rw [hs 12 ri (by omega), xu_nk (by decide)]
      · rw [hs 82 ri (by omega)]; funext y; rw [xu_ns (by decide)]
      · rw [hs 83 ri (by omega)]; funext y; rw [xu_ns (by decide)]
    · refine x_aload_n dX13_readBorder_54 rfl ?_
      refine g_M_read hr fX13_185 dX13_readBorder_55 ?_
      refine g_MB_whiff fX13_274 dX13_readBorder_58 hbn ?_
      refine x_iload_n dX13_readBorder_61 rfl ?_
      refine x_iconst dX13_readBorder_62 li_m1 ?_
      refine x_iast dX13_readBorder_63 rfl rfl hbn (by first | exact Nat.le_of_ble_eq_true rfl | assumption | omega) ?_
      refine x_iincN 1 dX13_readBorder_64 li_1 rfl (by decide) rfl ?_
      refine x_goto 48 dX13_readBorder_67 (by decide) ?_
      refine x_ls ?_ (ih (k + 1) _ (by omega) (by omega) (fun l hl => ?_) (fun t q hq => ?_))
      · exact ⟨rfl, rfl, rfl, trivial⟩
      · rw [xu_at]
        by_cases e0 : l = k
        · rw [if_pos e0]
        · rw [if_neg e0]; exact h1 l (by omega)
      · rw [← hs t q hq]; funext y; rw [xu_n (by omega)]
set_option maxRecDepth 100000 in
set_option maxHeartbeats 600000 in
theorem m_read_wind (hr : r = some ri) (hbn : ri < nb) (hT : YTp T e I) (hP : YPS T e s ri I L) (hW : PW s) (hZ : PZ s) (hl : lw T e s.2.2 = 1) : Mt G vX13_readBorder (d + 8) (0, 0) [.ref (ad 13 0)] (MM ad nb b r I L) (qLn T e ad nb b r ri I L (rdLn T e s)) := by
  have hV := hW.1
  have v0 := hV.1
  have v1 := hV.2.1
  have v2 := hV.2.2.1
  have v3 := hV.2.2.2.1
  have v4 := hV.2.2.2.2.1
  have v7 := hV.2.2.2.2.2.2.2.1
  have v9 := hV.2.2.2.2.2.2.2.2.2.1
  have v10 := hV.2.2.2.2.2.2.2.2.2.2.1
  have hB := hP.2.1
  have hk1 := lw_kd (T := T) (e := e) (a := s.2.2) (by rw [hl]; decide)
  refine x_start (by decide) (Nat.le_of_ble_eq_true rfl) ?_
  refine x_aload_n dX13_readBorder_0 rfl ?_
  refine g_M_read hr fX13_185 dX13_readBorder_1 ?_
  refine g_MB_wind fX13_189 dX13_readBorder_4 hbn ?_
  refine x_top (y12_0 hB) ?_
  refine x_ifN_le 15 dX13_readBorder_7 (by decide) (by omega) (fun h7 => ?_) (fun h7 => ?_)
  · have hw0 : s.1 0 0 0 = 0 := by omega
    have hrd2 : rdLn T e s = bnd (pChoice T e 1 (nx T e s.2.2)) (fun _ => bnd (pWhole T e 1 5 (nx T e (nx T e s.2.2))) (fun x => .inr (setV s.1 0 0 0 x, s.2.1, nx T e (nx T e (nx T e s.2.2))))) := by unfold rdLn; rw [hl, if_neg (by omega), if_neg (by omega), if_neg (by omega), if_neg (by show ¬ 1 ≤ s.1 0 0 0; omega)]; rfl
    refine x_aload_n dX13_readBorder_15 rfl ?_
    refine x_cvv (m_next (d := d + 6) (c := .inr s.2.2) hT hP.1 (fun a z => by cases z; omega)) kX13_139 dX13_readBorder_16 rfl (Nat.le_of_ble_eq_true rfl) rfl rfl (Nat.le_of_ble_eq_true rfl) (fun Mu hq => ?_)
    obtain ⟨I4, L4, rfl, r4, f4⟩ := hq
    refine x_aload_n dX13_readBorder_19 rfl ?_
    refine x_ldcSw (n := 13) dX13_readBorder_20 rfl ?_
    refine x_iconst dX13_readBorder_23 li_1 ?_
    refine x_iconst dX13_readBorder_24 li_5 ?_
    refine x_cvi (m_readPart (d := d) (c := .inr (nx T e s.2.2)) (i := 13) (lo := 1) (hi := 5) (by decide) (by decide) (by decide) (by decide) (hT.fr f4) r4) kX13_270 dX13_readBorder_25 rfl (Nat.le_of_ble_eq_true rfl) rfl rfl (Nat.le_of_ble_eq_true rfl) (fun rw_ Mu hq => ?_)
    obtain ⟨I5, L5, rfl, r5, f5, u5⟩ := hq
    have f5 := f4.tr f5
    refine x_istore_n dX13_readBorder_28 (by decide) rfl ?_
    have hE : lcur (rdLn T e s) = (cpt T e 13 1 5 (.inr (nx T e s.2.2))) := by
      rw [hrd2]
      unfold cpt
      rw [cneed_ch ch_1]
      refine lc_step (q := pChoice T e 1) (F := fun c => cst T e (pWhole T e 1 5) c) (fun _ => rfl) (fun x _ => ?_)
      refine lc_step (q := pWhole T e 1 5) (F := fun c => c) (fun _ => rfl) (fun x3 _ => ?_)
      rfl
    cases hpw : (cpt T e 13 1 5 (.inr (nx T e s.2.2))) with
    | inl g =>
      rw [hpw] at r5 hE
      refine x_aload_n dX13_readBorder_29 rfl ?_
      refine g_M_sort fX13_100 dX13_readBorder_30 ?_
      refine x_top (show I5 13 0 9 = nI 5 from r5.2.1) ?_
      refine x_iconst dX13_readBorder_33 li_5 ?_
      refine x_icN_ne 38 dX13_readBorder_34 (by decide) (by omega) (by omega) (fun h34 => absurd rfl h34) (fun h34 => ?_)
      refine x_vret dX13_readBorder_37 rfl ?_
      exact ⟨rfl, _, _, rfl, f5.fq, (fun g z => by rw [lcur_l hE] at z; cases z; exact r5), (fun s2 z => by rw [lcur_l hE] at z; cases z)⟩
    | inr x =>
      rw [hpw] at r5 hE
      obtain ⟨s2, hs2, hx⟩ := lcur_r hE
      have hs4 := hs2
      rw [hrd2] at hs4
      obtain ⟨x1, e3, hs4⟩ := bnd_r hs4
      obtain ⟨x2, e4, hs4⟩ := bnd_r hs4
      have hs4 := Sum.inr.inj hs4
      subst hs4
      have hs4 : True := trivial
      have hrw := u5 _ _ (show cneed T e 13 (.inr (nx T e s.2.2)) = .inr (nx T e (nx T e s.2.2)) by rw [cneed_ch ch_1]; exact cst_r e3) e4
      subst hrw
      subst hx
      have hm5 := mso_le _ (kd_le (T := T) (e := e) (a := nx T e (nx T e (nx T e s.2.2))))
      refine x_aload_n dX13_readBorder_29 rfl ?_
      refine g_M_sort fX13_100 dX13_readBorder_30 ?_
      refine x_top (show I5 13 0 9 = nI (mso (kd T e (nx T e (nx T e (nx T e s.2.2))))) from r5.2.1.1.2.2) ?_
      refine x_iconst dX13_readBorder_33 li_5 ?_
      refine x_icN_ne 38 dX13_readBorder_34 (by decide) (by omega) (by omega) (fun h34 => ?_) (fun h34 => absurd h34 (by omega))
      refine x_aload_n dX13_readBorder_38 rfl ?_
      refine g_M_read hr fX13_185 dX13_readBorder_39 ?_
      refine x_iload_n dX13_readBorder_42 rfl ?_
      refine p_MB_wind fX13_189 dX13_readBorder_43 hbn ?_
      refine x_iconst dX13_readBorder_46 li_0 ?_
      refine x_istore_n dX13_readBorder_47 (by decide) rfl ?_
      refine x_ls ?_ (lp_mwd (x2 := x2) (x := nx T e (nx T e (nx T e s.2.2))) (I5 := I5) (z1 := nI x2) hr hbn hT hP hW hZ hs2 r5 f5 (fun i => by rw [hZ hw0]; rfl) 7 0 _ (by omega) (by omega) (fun l h => absurd h (Nat.not_lt_zero l)) (fun _ _ _ => rfl))
      exact ⟨rfl, rfl, rfl, trivial⟩
  · refine x_aload_n dX13_readBorder_10 rfl ?_
    refine x_iconst dX13_readBorder_11 li_3 ?_
    refine x_cvv (m_flaw (d := d + 7) (c := .inr s.2.2) hP.1) kX13_146 dX13_readBorder_12 rfl (Nat.le_of_ble_eq_true rfl) rfl rfl (Nat.le_of_ble_eq_true rfl) (fun Mu hq => ?_)
    obtain ⟨I4, rfl, r4, f4⟩ := hq
    have hq0 : rdLn T e s = .inl (3, tA T e s.2.2) := by unfold rdLn; rw [hl, if_neg (by omega), if_pos ⟨rfl, by omega⟩]
    refine x_wk (x_ls ?_ (mov_wind (d := d) (g := (3, tA T e s.2.2)) (hT.fr f4) r4 f4)) (fun v M2 hv => by obtain ⟨h1, I6, L6, h2, h3, h4⟩ := hv; exact ⟨h1, I6, L6, h2, h4.fq, (fun g2 z => by rw [hq0] at z; cases z; exact h3), (fun s2 z => by rw [hq0] at z; cases z)⟩)
    exact ⟨rfl, trivial⟩
end M43
