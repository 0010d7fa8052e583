section M39
variable {G : xG} {ad : Nat → Nat → Nat} {nb : Nat} {b r : Option Nat} {L : Nat → Nat → Nat → Int64} {V : sV} {I : Nat → Nat → Nat → Int32} {d : Nat}

variable {T : Nat → Nat} {e a : Nat} {nm : List (Nat × Nat × Nat)} {ri : Nat} {c : cS} {s : pS}
theorem cbg_ok {full : Bool} {w : Nat} (hf : full = false) (hw : w ≠ 0) : cbg T e full w (.inr a) = .inr (nx T e a) := by
  unfold cbg
  rw [if_neg hw, hf]
  rfl
theorem YNm.sm2 {I' : Nat → Nat → Nat → Int32} {L' : Nat → Nat → Nat → Int64} (h : YNm T e nm ri I L) (h12 : I' 12 ri 12 = I 12 ri 12) (h82 : I' 82 ri = I 82 ri) (h83 : I' 83 ri = I 83 ri) (h81 : L' 81 ri = L 81 ri) : YNm T e nm ri I' L' := by
  unfold YNm at h ⊢
  rw [h12, h82, h83, h81]
  exact h

set_option maxRecDepth 100000 in
set_option maxHeartbeats 600000 in
theorem m_read_asked (hr : r = some ri) (hbn : ri < nb) (hT : YTp T e I) (hP : YPS T e s ri I L) (hW : PW s) (hZ : PZ s) (hl : lw T e s.2.2 = 10) : Mt G vX13_readAsked (d + 9) (0, 0) [.ref (ad 13 0)] (MM ad nb b r I L) (qLn T e ad nb b r ri I L (rdLn T e s)) := by
  have hV := hW.1
  have v0 := hV.1
  have v1 := hV.2.1
  have v2 := hV.2.2.1
  have v3 := hV.2.2.2.1
  have v4 := hV.2.2.2.2.1
  have v7 := hV.2.2.2.2.2.2.2.1
  have v9 := hV.2.2.2.2.2.2.2.2.2.1
  have v10 := hV.2.2.2.2.2.2.2.2.2.2.1
  have hB := hP.2.1
  have hk1 := lw_kd (T := T) (e := e) (a := s.2.2) (by rw [hl]; decide)
  refine x_start (by decide) (Nat.le_of_ble_eq_true rfl) ?_
  refine x_aload_n dX13_readAsked_0 rfl ?_
  refine x_aload_n dX13_readAsked_1 rfl ?_
  refine g_M_read hr fX13_185 dX13_readAsked_2 ?_
  refine g_MB_asks fX13_378 dX13_readAsked_5 hbn ?_
  refine x_top (y12_10 hB) ?_
  refine x_iconst dX13_readAsked_8 li_4 ?_
  refine x_cvv (m_begins (d := d + 6) (x := s.1 0 9 0) (y := 4) (w := s.1 0 0 0) hr hbn (by omega) (by omega) (y12_0 hB) (by omega) hT hP.1 (fun a z => by cases z; omega)) kX13_276 dX13_readAsked_9 rfl (Nat.le_of_ble_eq_true rfl) rfl rfl (Nat.le_of_ble_eq_true rfl) (fun Mu hq => ?_)
  obtain ⟨I1, L1, rfl, r1, f1⟩ := hq
  refine x_aload_n dX13_readAsked_12 rfl ?_
  refine x_iconst dX13_readAsked_13 li_4 ?_
  refine x_cvi (m_readKnown (d := d) (so := 7) hr hbn (by omega) (hT.fr f1) r1 (hP.2.2.fr f1)) kX13_218 dX13_readAsked_14 rfl (Nat.le_of_ble_eq_true rfl) rfl rfl (Nat.le_of_ble_eq_true rfl) (fun rk Mu hq => ?_)
  obtain ⟨I2, L2, rfl, r2, f2, u2⟩ := hq
  have f12 := f1.tr f2
  refine x_istore_n dX13_readAsked_17 (by decide) rfl ?_
  refine x_aload_n dX13_readAsked_18 rfl ?_
  refine x_iconst dX13_readAsked_19 li_0 ?_
  refine x_bipush dX13_readAsked_20 lb_99 ?_
  refine x_cvi (m_readWhole (d := d + 6) (lo := 0) (hi := 99) (by decide) (by decide) (hT.fr f12) r2) kX13_158 dX13_readAsked_22 rfl (Nat.le_of_ble_eq_true rfl) rfl rfl (Nat.le_of_ble_eq_true rfl) (fun rw_ Mu hq => ?_)
  obtain ⟨I3, L3, rfl, r3, f3, u3⟩ := hq
  have f3 := f12.tr f3
  refine x_istore_n dX13_readAsked_25 (by decide) rfl ?_
  have hE : lcur (rdLn T e s) = (cst T e (pWhole T e 0 99) (cst T e (pKnown T e s.2.1 7) (cbg T e (decide (s.1 0 9 0 = 4)) (s.1 0 0 0) (.inr s.2.2)))) := by
    refine lc_begin (T := T) (e := e) (s := s) (so := 9) (cap := 4) (F := fun c => cst T e (pWhole T e 0 99) (cst T e (pKnown T e s.2.1 7) c)) (fun _ => rfl) (by decide) (by decide) hl hZ (by decide) rfl v9 ?_
    show lcur (bnd (pKnown T e s.2.1 7 (nx T e s.2.2)) _) = _
    refine lc_step (q := pKnown T e s.2.1 7) (F := fun c => cst T e (pWhole T e 0 99) c) (fun _ => rfl) (fun x _ => ?_)
    refine lc_step (q := pWhole T e 0 99) (F := fun c => c) (fun _ => rfl) (fun x3 _ => ?_)
    rfl
  cases hc3 : (cst T e (pWhole T e 0 99) (cst T e (pKnown T e s.2.1 7) (cbg T e (decide (s.1 0 9 0 = 4)) (s.1 0 0 0) (.inr s.2.2)))) with
  | inl g =>
    rw [hc3] at r3 hE
    refine x_aload_n dX13_readAsked_26 rfl ?_
    refine g_M_sort fX13_100 dX13_readAsked_27 ?_
    refine x_top (r3.2.1) ?_
    refine x_iconst dX13_readAsked_30 li_5 ?_
    refine x_icN_ne 35 dX13_readAsked_31 (by decide) (by omega) (by omega) (fun h31 => absurd rfl h31) (fun h31 => ?_)
    refine x_vret dX13_readAsked_34 rfl ?_
    exact ⟨rfl, _, _, rfl, f3.fq, (fun g z => by rw [lcur_l hE] at z; cases z; exact r3), (fun s2 z => by rw [lcur_l hE] at z; cases z)⟩
  | inr x =>
    rw [hc3] at r3 hE
    have hm9 := mso_le _ (kd_le (T := T) (e := e) (a := x))
    obtain ⟨s2, hs2, hx⟩ := lcur_r hE
    have hs3 := hs2
    rw [rdLn_so (so := 9) (by decide) (by decide) hl] at hs3
    split at hs3
    · cases hs3
    split at hs3
    · cases hs3
    rename_i hw0 hrm
    have hrm2 : s.1 0 9 0 < 4 := Nat.lt_of_not_le hrm
    have hs4 : rd_asked T e (s.1, s.2.1, nx T e s.2.2) = .inr s2 := hs3
    unfold rd_asked at hs4
    obtain ⟨x1, e1, hs4⟩ := bnd_r hs4
    obtain ⟨x2, e2, hs4⟩ := bnd_r hs4
    have hc1 : (cbg T e (decide (s.1 0 9 0 = 4)) (s.1 0 0 0) (.inr s.2.2)) = .inr (nx T e s.2.2) := cbg_ok (decide_eq_false (by omega)) hw0
    have hrk := u2 _ _ hc1 e1
    have hc2 : (cst T e (pKnown T e s.2.1 7) (cbg T e (decide (s.1 0 9 0 = 4)) (s.1 0 0 0) (.inr s.2.2))) = .inr (nx T e (nx T e s.2.2)) := by rw [hc1]; exact cst_r e1
    have hrw := u3 _ _ hc2 e2
    subst hrk
    subst hrw
    have hB3 := hB.sm (I' := I3) (fun q hq => f3.1 q (by omega))
    have hN3 := hP.2.2.fr f3
    refine x_aload_n dX13_readAsked_26 rfl ?_
    refine g_M_sort fX13_100 dX13_readAsked_27 ?_
    refine x_top (r3.2.1.1.2.2) ?_
    refine x_iconst dX13_readAsked_30 li_5 ?_
    refine x_icN_ne 35 dX13_readAsked_31 (by decide) (by omega) (by omega) (fun h31 => ?_) (fun h31 => absurd h31 (by omega))
    refine x_aload_n dX13_readAsked_35 rfl ?_
    refine g_M_read hr fX13_185 dX13_readAsked_36 ?_
    refine g_MB_askedOf fX13_381 dX13_readAsked_39 hbn ?_
    refine x_aload_n dX13_readAsked_42 rfl ?_
    refine g_M_read hr fX13_185 dX13_readAsked_43 ?_
    refine g_MB_asks fX13_378 dX13_readAsked_46 hbn ?_
    refine x_top (show I3 12 ri 10 = nI (s.1 0 9 0) from y12_10 hB3) ?_
    refine x_iload_n dX13_readAsked_49 rfl ?_
    refine x_iast dX13_readAsked_50 rfl rfl hbn (by first | exact Nat.le_of_ble_eq_true rfl | assumption | omega) ?_
    refine x_aload_n dX13_readAsked_51 rfl ?_
    refine g_M_read hr fX13_185 dX13_readAsked_52 ?_
    refine g_MB_askedMuch fX13_384 dX13_readAsked_55 hbn ?_
    refine x_aload_n dX13_readAsked_58 rfl ?_
    refine g_M_read hr fX13_185 dX13_readAsked_59 ?_
    refine g_MB_asks fX13_378 dX13_readAsked_62 hbn ?_
    rw [xu_ns (by decide)]
    refine x_top (show I3 12 ri 10 = nI (s.1 0 9 0) from y12_10 hB3) ?_
    refine x_iload_n dX13_readAsked_65 rfl ?_
    refine x_iast dX13_readAsked_66 rfl rfl hbn (by first | exact Nat.le_of_ble_eq_true rfl | assumption | omega) ?_
    refine x_aload_n dX13_readAsked_67 rfl ?_
    refine g_M_read hr fX13_185 dX13_readAsked_68 ?_
    refine x_dup dX13_readAsked_71 rfl ?_
    refine g_MB_asks fX13_378 dX13_readAsked_72 hbn ?_
    rw [xu_ns (by decide), xu_ns (by decide)]
    refine x_top (show I3 12 ri 10 = nI (s.1 0 9 0) from y12_10 hB3) ?_
    refine x_iconst dX13_readAsked_75 li_1 ?_
    refine x_iaddN dX13_readAsked_76 ?_
    refine p_MB_asks fX13_378 dX13_readAsked_77 hbn ?_
    refine x_vret dX13_readAsked_80 rfl ?_
    have hfq : FQ ri I (xu (xu (xu I3 78 ri (s.1 0 9 0) (nI x1)) 79 ri (s.1 0 9 0) (nI x2)) 12 ri 10 (nI (s.1 0 9 0 + 1))) L L3 := ((f3.fq.xu (by omega)).xu (by omega)).xu (by omega)
    refine ⟨rfl, _, _, rfl, hfq, (fun g z => by rw [hs2] at z; cases z), fun s5 z => ?_⟩
    rw [hs2] at z
    cases z
    cases hs4
    refine ⟨?_, YB.ask (x := x1) (y := x2) (I' := (xu (xu (xu I3 78 ri (s.1 0 9 0) (nI x1)) 79 ri (s.1 0 9 0) (nI x2)) 12 ri 10 (nI (s.1 0 9 0 + 1)))) ?_ (fun l hl2 => ?_) ?_ (fun l hl2 => ?_) hB3 xu_s (fun k h1 h2 => ?_) (fun q h1 h2 h3 h4 => ?_), ?_⟩
    · have hx2 : x = nx T e (nx T e (nx T e s.2.2)) := hx.symm
      subst hx2
      exact YPS.st r3 (by funext y; rw [xu_ns (by decide), xu_ns (by decide), xu_ns (by decide)]) rfl
    · rw [xu_ns (by decide), xu_ns (by decide), xu_s]
    · rw [xu_ns (by decide), xu_ns (by decide), xu_nk hl2]
    · rw [xu_ns (by decide), xu_s]
    · rw [xu_ns (by decide), xu_nk hl2, xu_ns (by decide)]
    · rw [xu_nk h1, xu_ns (by decide), xu_ns (by decide)]
    · funext y; rw [xu_ns (by omega), xu_ns h4, xu_ns h3]
    · exact hN3.sm2 (by rw [xu_nk (by decide), xu_ns (by decide), xu_ns (by decide)]) (by funext y; rw [xu_ns (by decide), xu_ns (by decide), xu_ns (by decide)]) (by funext y; rw [xu_ns (by decide), xu_ns (by decide), xu_ns (by decide)]) rfl
end M39
