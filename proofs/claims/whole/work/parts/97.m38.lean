section M38
variable {G : xG} {ad : Nat → Nat → Nat} {nb : Nat} {b r : Option Nat} {L : Nat → Nat → Nat → Int64} {V : sV} {I : Nat → Nat → Nat → Int32} {d : Nat}

variable {T : Nat → Nat} {e a : Nat} {nm : List (Nat × Nat × Nat)} {ri : Nat} {c : cS} {s : pS}
theorem ch_2 (v : Int64) : wiN 2 v ≠ 0 ↔ v = pkS 26 := by rw [wiN_2]; constructor <;> intro h <;> (by_cases z : pkS 26 = v) <;> simp_all
theorem ch_5 (v : Int64) : wiN 5 v ≠ 0 ↔ v = pkS 33 := by rw [wiN_5]; constructor <;> intro h <;> (by_cases z : pkS 33 = v) <;> simp_all

set_option maxRecDepth 100000 in
set_option maxHeartbeats 600000 in
theorem m_read_land (hr : r = some ri) (hbn : ri < nb) (hT : YTp T e I) (hP : YPS T e s ri I L) (hW : PW s) (hZ : PZ s) (hl : lw T e s.2.2 = 2) : Mt G vX13_readLand (d + 8) (0, 0) [.ref (ad 13 0)] (MM ad nb b r I L) (qLn T e ad nb b r ri I L (rdLn T e s)) := by
  have hV := hW.1
  have v0 := hV.1
  have v1 := hV.2.1
  have v2 := hV.2.2.1
  have v3 := hV.2.2.2.1
  have v4 := hV.2.2.2.2.1
  have v7 := hV.2.2.2.2.2.2.2.1
  have v9 := hV.2.2.2.2.2.2.2.2.2.1
  have v10 := hV.2.2.2.2.2.2.2.2.2.2.1
  have hB := hP.2.1
  have hk1 := lw_kd (T := T) (e := e) (a := s.2.2) (by rw [hl]; decide)
  refine x_start (by decide) (Nat.le_of_ble_eq_true rfl) ?_
  refine x_aload_n dX13_readLand_0 rfl ?_
  refine x_aload_n dX13_readLand_1 rfl ?_
  refine g_M_read hr fX13_185 dX13_readLand_2 ?_
  refine g_MB_lands fX13_227 dX13_readLand_5 hbn ?_
  refine x_top (y12_1 hB) ?_
  refine x_iconst dX13_readLand_8 li_4 ?_
  refine x_cvv (m_begins (d := d + 5) (x := s.1 0 1 0) (y := 4) (w := s.1 0 0 0) hr hbn (by omega) (by omega) (y12_0 hB) (by omega) hT hP.1 (fun a z => by cases z; omega)) kX13_276 dX13_readLand_9 rfl (Nat.le_of_ble_eq_true rfl) rfl rfl (Nat.le_of_ble_eq_true rfl) (fun Mu hq => ?_)
  obtain ⟨I1, L1, rfl, r1, f1⟩ := hq
  refine x_aload_n dX13_readLand_12 rfl ?_
  refine x_cvl (m_readFresh (d := d) hr hbn (hT.fr f1) r1 (hP.2.2.fr f1)) kX13_280 dX13_readLand_13 rfl (Nat.le_of_ble_eq_true rfl) rfl rfl (Nat.le_of_ble_eq_true rfl) (fun rf Mu hq => ?_)
  obtain ⟨I2, L2, rfl, r2, f2, u2⟩ := hq
  have f12 := f1.tr f2
  refine x_lstore_n dX13_readLand_16 (by decide) rfl ?_
  refine x_aload_n dX13_readLand_17 rfl ?_
  refine x_ldcSw (n := 26) dX13_readLand_18 rfl ?_
  refine x_iconst dX13_readLand_21 li_0 ?_
  refine x_bipush dX13_readLand_22 lb_9 ?_
  refine x_cvi (m_readPart (d := d) (i := 26) (lo := 0) (hi := 9) (by decide) (by decide) (by decide) (by decide) (hT.fr f12) r2) kX13_270 dX13_readLand_24 rfl (Nat.le_of_ble_eq_true rfl) rfl rfl (Nat.le_of_ble_eq_true rfl) (fun rp Mu hq => ?_)
  obtain ⟨I3, L3, rfl, r3, f3, u3⟩ := hq
  have f3 := f12.tr f3
  refine x_istore_n dX13_readLand_27 (by decide) rfl ?_
  have hE : lcur (rdLn T e s) = (cpt T e 26 0 9 (cst T e (pFr T e s.2.1) (cbg T e (decide (s.1 0 1 0 = 4)) (s.1 0 0 0) (.inr s.2.2)))) := by
    have key := lc_begin (T := T) (e := e) (s := s) (so := 1) (cap := 4) (F := fun c => cst T e (pWhole T e 0 9) (cst T e (pChoice T e 2) (cst T e (pNew s.1 T e s.2.1 1) c))) (fun _ => rfl) (by decide) (by decide) hl hZ (by decide) rfl v1 ?_
    · rw [key]
      unfold cpt
      rw [cneed_ch ch_2, cst_fr (so := 1) (V := s.1)]
    · show lcur (bnd (pNew s.1 T e s.2.1 1 (nx T e s.2.2)) _) = _
      refine lc_step (q := pNew s.1 T e s.2.1 1) (F := fun c => cst T e (pWhole T e 0 9) (cst T e (pChoice T e 2) c)) (fun _ => rfl) (fun x _ => ?_)
      refine lc_step (q := pChoice T e 2) (F := fun c => cst T e (pWhole T e 0 9) c) (fun _ => rfl) (fun x2 _ => ?_)
      refine lc_step (q := pWhole T e 0 9) (F := fun c => c) (fun _ => rfl) (fun x3 _ => ?_)
      rfl
  cases hc3 : (cpt T e 26 0 9 (cst T e (pFr T e s.2.1) (cbg T e (decide (s.1 0 1 0 = 4)) (s.1 0 0 0) (.inr s.2.2)))) with
  | inl g =>
    rw [hc3] at r3 hE
    refine x_aload_n dX13_readLand_28 rfl ?_
    refine g_M_sort fX13_100 dX13_readLand_29 ?_
    refine x_top (r3.2.1) ?_
    refine x_iconst dX13_readLand_32 li_5 ?_
    refine x_icN_ne 37 dX13_readLand_33 (by decide) (by omega) (by omega) (fun h33 => absurd rfl h33) (fun h33 => ?_)
    refine x_vret dX13_readLand_36 rfl ?_
    exact ⟨rfl, _, _, rfl, f3.fq, (fun g z => by rw [lcur_l hE] at z; cases z; exact r3), (fun s2 z => by rw [lcur_l hE] at z; cases z)⟩
  | inr x =>
    rw [hc3] at r3 hE
    have hm9 := mso_le _ (kd_le (T := T) (e := e) (a := x))
    obtain ⟨s2, hs2, hx⟩ := lcur_r hE
    have hs3 := hs2
    rw [rdLn_so (so := 1) (by decide) (by decide) hl] at hs3
    split at hs3
    · cases hs3
    split at hs3
    · cases hs3
    rename_i hw0 hrm
    have hrm2 : s.1 0 1 0 < 4 := Nat.lt_of_not_le hrm
    have hs4 : rdLand T e 1 2 0 9 1 (s.1, s.2.1, nx T e s.2.2) = .inr s2 := hs3
    unfold rdLand at hs4
    obtain ⟨x1, e1, hs4⟩ := bnd_r hs4
    obtain ⟨x2, e2, hs4⟩ := bnd_r hs4
    obtain ⟨x3, e3, hs4⟩ := bnd_r hs4
    have hx1 := pNew_eq e1
    have hx1 : x1 = s.1 0 1 0 := hx1
    subst hx1
    have hc1 : (cbg T e (decide (s.1 0 1 0 = 4)) (s.1 0 0 0) (.inr s.2.2)) = .inr (nx T e s.2.2) := by unfold cbg; rw [if_neg hw0, if_neg (by rw [decide_eq_false (show ¬ s.1 0 1 0 = 4 by omega)]; decide)]; rfl
    have hf := pFr_new e1
    have hrf := u2 _ _ hc1 hf
    have hc2 : cneed T e 26 (cst T e (pFr T e s.2.1) (cbg T e (decide (s.1 0 1 0 = 4)) (s.1 0 0 0) (.inr s.2.2))) = .inr (nx T e (nx T e (nx T e s.2.2))) := by rw [cneed_ch ch_2, hc1, cst_r hf]; exact cst_r e2
    have hrp := u3 _ _ hc2 e3
    subst hrf
    subst hrp
    have hB3 := hB.sm (I' := I3) (fun q hq => f3.1 q (by omega))
    have hN3 := hP.2.2.fr f3
    have hln := hW.2.1
    refine x_aload_n dX13_readLand_28 rfl ?_
    refine g_M_sort fX13_100 dX13_readLand_29 ?_
    refine x_top (r3.2.1.1.2.2) ?_
    refine x_iconst dX13_readLand_32 li_5 ?_
    refine x_icN_ne 37 dX13_readLand_33 (by decide) (by omega) (by omega) (fun h33 => ?_) (fun h33 => absurd h33 (by omega))
    have hm9 : True := trivial
    refine x_aload_n dX13_readLand_37 rfl ?_
    refine x_lload_n dX13_readLand_38 rfl ?_
    refine x_iconst dX13_readLand_39 li_0 ?_
    refine x_aload_n dX13_readLand_40 rfl ?_
    refine g_M_read hr fX13_185 dX13_readLand_41 ?_
    refine g_MB_lands fX13_227 dX13_readLand_44 hbn ?_
    refine x_top (show I3 12 ri 1 = nI (s.1 0 1 0) from y12_1 hB3) ?_
    refine x_cvv (m_names (d := d + 7) (nm := s.2.1) (a := (nx T e s.2.2)) (so := 1) (x := s.1 0 1 0) hr hbn hN3 (by omega) (by omega) (by omega)) kX13_286 dX13_readLand_47 rfl (Nat.le_of_ble_eq_true rfl) rfl rfl (Nat.le_of_ble_eq_true rfl) (fun Mu hq => ?_)
    obtain ⟨I4, L4, rfl, y4, n2, n3, n4⟩ := hq
    have e12 : ∀ k, k < 12 → I4 12 ri k = I3 12 ri k := fun k hk => n3 k (by omega)
    refine x_aload_n dX13_readLand_50 rfl ?_
    refine g_M_read hr fX13_185 dX13_readLand_51 ?_
    refine g_MB_duty fX13_289 dX13_readLand_54 hbn ?_
    refine x_aload_n dX13_readLand_57 rfl ?_
    refine g_M_read hr fX13_185 dX13_readLand_58 ?_
    refine g_MB_lands fX13_227 dX13_readLand_61 hbn ?_
    refine x_top (show I4 12 ri 1 = nI (s.1 0 1 0) from (e12 1 (by decide)).trans (y12_1 hB3)) ?_
    refine x_iload_n dX13_readLand_64 rfl ?_
    refine x_iast dX13_readLand_65 rfl rfl hbn (by first | exact Nat.le_of_ble_eq_true rfl | assumption | omega) ?_
    refine x_aload_n dX13_readLand_66 rfl ?_
    refine g_M_read hr fX13_185 dX13_readLand_67 ?_
    refine x_dup dX13_readLand_70 rfl ?_
    refine g_MB_lands fX13_227 dX13_readLand_71 hbn ?_
    rw [xu_ns (by decide)]
    refine x_top (show I4 12 ri 1 = nI (s.1 0 1 0) from (e12 1 (by decide)).trans (y12_1 hB3)) ?_
    refine x_iconst dX13_readLand_74 li_1 ?_
    refine x_iaddN dX13_readLand_75 ?_
    refine p_MB_lands fX13_227 dX13_readLand_76 hbn ?_
    refine x_vret dX13_readLand_79 rfl ?_
    have hfq : FQ ri I (xu (xu I4 64 ri (s.1 0 1 0) (nI x3)) 12 ri 1 (nI (s.1 0 1 0 + 1))) L L4 := ((f3.fq.tr ⟨fun q c h1 h2 => n2 q c (by omega), fun k _ => by rw [n2 13 0 (by omega)], fun q c h1 h2 => n4 q c h2⟩).xu (by omega)).xu (by omega)
    refine ⟨rfl, _, _, rfl, hfq, (fun g z => by rw [hs2] at z; cases z), fun s5 z => ?_⟩
    rw [hs2] at z
    cases z
    cases hs4
    refine ⟨?_, YB.land (x := x3) (I' := (xu (xu I4 64 ri (s.1 0 1 0) (nI x3)) 12 ri 1 (nI (s.1 0 1 0 + 1)))) ?_ (fun l hl2 => ?_) hB3 xu_s (fun k h1 h2 => ?_) (fun q h1 h2 h3 => ?_), ?_⟩
    · have hx2 : x = (nx T e (nx T e (nx T e (nx T e s.2.2)))) := hx.symm
      subst hx2
      exact YPS.st r3 (by funext y; rw [xu_ns (by decide), xu_ns (by decide), n2 13 0 (by omega)]) (n4 13 0 (by omega))
    · rw [xu_ns (by decide), xu_s]
    · rw [xu_ns (by decide), xu_nk hl2, n2 64 ri (by omega)]
    · rw [xu_nk h1, xu_ns (by decide)]; exact n3 k h2
    · funext y; rw [xu_ns (by omega), xu_ns h3, n2 q ri (by omega)]
    · have y5 := y4
      unfold YNm at y5 ⊢
      have q82 : ∀ i, (xu (xu I4 64 ri (s.1 0 1 0) (nI x3)) 12 ri 1 (nI (s.1 0 1 0 + 1))) 82 ri i = I4 82 ri i := fun i => by rw [xu_ns (by decide), xu_ns (by decide)]
      have q83 : ∀ i, (xu (xu I4 64 ri (s.1 0 1 0) (nI x3)) 12 ri 1 (nI (s.1 0 1 0 + 1))) 83 ri i = I4 83 ri i := fun i => by rw [xu_ns (by decide), xu_ns (by decide)]
      have q12 : (xu (xu I4 64 ri (s.1 0 1 0) (nI x3)) 12 ri 1 (nI (s.1 0 1 0 + 1))) 12 ri 12 = I4 12 ri 12 := by rw [xu_nk (by decide), xu_ns (by decide)]
      simp only [q82, q83, q12]
      exact y5
set_option maxRecDepth 100000 in
set_option maxHeartbeats 600000 in
theorem m_read_nose (hr : r = some ri) (hbn : ri < nb) (hT : YTp T e I) (hP : YPS T e s ri I L) (hW : PW s) (hZ : PZ s) (hl : lw T e s.2.2 = 4) : Mt G vX13_readNose (d + 8) (0, 0) [.ref (ad 13 0)] (MM ad nb b r I L) (qLn T e ad nb b r ri I L (rdLn T e s)) := by
  have hV := hW.1
  have v0 := hV.1
  have v1 := hV.2.1
  have v2 := hV.2.2.1
  have v3 := hV.2.2.2.1
  have v4 := hV.2.2.2.2.1
  have v7 := hV.2.2.2.2.2.2.2.1
  have v9 := hV.2.2.2.2.2.2.2.2.2.1
  have v10 := hV.2.2.2.2.2.2.2.2.2.2.1
  have hB := hP.2.1
  have hk1 := lw_kd (T := T) (e := e) (a := s.2.2) (by rw [hl]; decide)
  refine x_start (by decide) (Nat.le_of_ble_eq_true rfl) ?_
  refine x_aload_n dX13_readNose_0 rfl ?_
  refine x_aload_n dX13_readNose_1 rfl ?_
  refine g_M_read hr fX13_185 dX13_readNose_2 ?_
  refine g_MB_noses fX13_318 dX13_readNose_5 hbn ?_
  refine x_top (y12_3 hB) ?_
  refine x_iconst dX13_readNose_8 li_4 ?_
  refine x_cvv (m_begins (d := d + 5) (x := s.1 0 3 0) (y := 4) (w := s.1 0 0 0) hr hbn (by omega) (by omega) (y12_0 hB) (by omega) hT hP.1 (fun a z => by cases z; omega)) kX13_276 dX13_readNose_9 rfl (Nat.le_of_ble_eq_true rfl) rfl rfl (Nat.le_of_ble_eq_true rfl) (fun Mu hq => ?_)
  obtain ⟨I1, L1, rfl, r1, f1⟩ := hq
  refine x_aload_n dX13_readNose_12 rfl ?_
  refine x_cvl (m_readFresh (d := d) hr hbn (hT.fr f1) r1 (hP.2.2.fr f1)) kX13_280 dX13_readNose_13 rfl (Nat.le_of_ble_eq_true rfl) rfl rfl (Nat.le_of_ble_eq_true rfl) (fun rf Mu hq => ?_)
  obtain ⟨I2, L2, rfl, r2, f2, u2⟩ := hq
  have f12 := f1.tr f2
  refine x_lstore_n dX13_readNose_16 (by decide) rfl ?_
  refine x_aload_n dX13_readNose_17 rfl ?_
  refine x_ldcSw (n := 33) dX13_readNose_18 rfl ?_
  refine x_iconst dX13_readNose_21 li_1 ?_
  refine x_bipush dX13_readNose_22 lb_60 ?_
  refine x_cvi (m_readPart (d := d) (i := 33) (lo := 1) (hi := 60) (by decide) (by decide) (by decide) (by decide) (hT.fr f12) r2) kX13_270 dX13_readNose_24 rfl (Nat.le_of_ble_eq_true rfl) rfl rfl (Nat.le_of_ble_eq_true rfl) (fun rp Mu hq => ?_)
  obtain ⟨I3, L3, rfl, r3, f3, u3⟩ := hq
  have f3 := f12.tr f3
  refine x_istore_n dX13_readNose_27 (by decide) rfl ?_
  have hE : lcur (rdLn T e s) = (cpt T e 33 1 60 (cst T e (pFr T e s.2.1) (cbg T e (decide (s.1 0 3 0 = 4)) (s.1 0 0 0) (.inr s.2.2)))) := by
    have key := lc_begin (T := T) (e := e) (s := s) (so := 3) (cap := 4) (F := fun c => cst T e (pWhole T e 1 60) (cst T e (pChoice T e 5) (cst T e (pNew s.1 T e s.2.1 3) c))) (fun _ => rfl) (by decide) (by decide) hl hZ (by decide) rfl v3 ?_
    · rw [key]
      unfold cpt
      rw [cneed_ch ch_5, cst_fr (so := 3) (V := s.1)]
    · show lcur (bnd (pNew s.1 T e s.2.1 3 (nx T e s.2.2)) _) = _
      refine lc_step (q := pNew s.1 T e s.2.1 3) (F := fun c => cst T e (pWhole T e 1 60) (cst T e (pChoice T e 5) c)) (fun _ => rfl) (fun x _ => ?_)
      refine lc_step (q := pChoice T e 5) (F := fun c => cst T e (pWhole T e 1 60) c) (fun _ => rfl) (fun x2 _ => ?_)
      refine lc_step (q := pWhole T e 1 60) (F := fun c => c) (fun _ => rfl) (fun x3 _ => ?_)
      rfl
  cases hc3 : (cpt T e 33 1 60 (cst T e (pFr T e s.2.1) (cbg T e (decide (s.1 0 3 0 = 4)) (s.1 0 0 0) (.inr s.2.2)))) with
  | inl g =>
    rw [hc3] at r3 hE
    refine x_aload_n dX13_readNose_28 rfl ?_
    refine g_M_sort fX13_100 dX13_readNose_29 ?_
    refine x_top (r3.2.1) ?_
    refine x_iconst dX13_readNose_32 li_5 ?_
    refine x_icN_ne 37 dX13_readNose_33 (by decide) (by omega) (by omega) (fun h33 => absurd rfl h33) (fun h33 => ?_)
    refine x_vret dX13_readNose_36 rfl ?_
    exact ⟨rfl, _, _, rfl, f3.fq, (fun g z => by rw [lcur_l hE] at z; cases z; exact r3), (fun s2 z => by rw [lcur_l hE] at z; cases z)⟩
  | inr x =>
    rw [hc3] at r3 hE
    have hm9 := mso_le _ (kd_le (T := T) (e := e) (a := x))
    obtain ⟨s2, hs2, hx⟩ := lcur_r hE
    have hs3 := hs2
    rw [rdLn_so (so := 3) (by decide) (by decide) hl] at hs3
    split at hs3
    · cases hs3
    split at hs3
    · cases hs3
    rename_i hw0 hrm
    have hrm2 : s.1 0 3 0 < 4 := Nat.lt_of_not_le hrm
    have hs4 : rdLand T e 3 5 1 60 4 (s.1, s.2.1, nx T e s.2.2) = .inr s2 := hs3
    unfold rdLand at hs4
    obtain ⟨x1, e1, hs4⟩ := bnd_r hs4
    obtain ⟨x2, e2, hs4⟩ := bnd_r hs4
    obtain ⟨x3, e3, hs4⟩ := bnd_r hs4
    have hx1 := pNew_eq e1
    have hx1 : x1 = s.1 0 3 0 := hx1
    subst hx1
    have hc1 : (cbg T e (decide (s.1 0 3 0 = 4)) (s.1 0 0 0) (.inr s.2.2)) = .inr (nx T e s.2.2) := by unfold cbg; rw [if_neg hw0, if_neg (by rw [decide_eq_false (show ¬ s.1 0 3 0 = 4 by omega)]; decide)]; rfl
    have hf := pFr_new e1
    have hrf := u2 _ _ hc1 hf
    have hc2 : cneed T e 33 (cst T e (pFr T e s.2.1) (cbg T e (decide (s.1 0 3 0 = 4)) (s.1 0 0 0) (.inr s.2.2))) = .inr (nx T e (nx T e (nx T e s.2.2))) := by rw [cneed_ch ch_5, hc1, cst_r hf]; exact cst_r e2
    have hrp := u3 _ _ hc2 e3
    subst hrf
    subst hrp
    have hB3 := hB.sm (I' := I3) (fun q hq => f3.1 q (by omega))
    have hN3 := hP.2.2.fr f3
    have hln := hW.2.1
    refine x_aload_n dX13_readNose_28 rfl ?_
    refine g_M_sort fX13_100 dX13_readNose_29 ?_
    refine x_top (r3.2.1.1.2.2) ?_
    refine x_iconst dX13_readNose_32 li_5 ?_
    refine x_icN_ne 37 dX13_readNose_33 (by decide) (by omega) (by omega) (fun h33 => ?_) (fun h33 => absurd h33 (by omega))
    have hm9 : True := trivial
    refine x_aload_n dX13_readNose_37 rfl ?_
    refine x_lload_n dX13_readNose_38 rfl ?_
    refine x_iconst dX13_readNose_39 li_2 ?_
    refine x_aload_n dX13_readNose_40 rfl ?_
    refine g_M_read hr fX13_185 dX13_readNose_41 ?_
    refine g_MB_noses fX13_318 dX13_readNose_44 hbn ?_
    refine x_top (show I3 12 ri 3 = nI (s.1 0 3 0) from y12_3 hB3) ?_
    refine x_cvv (m_names (d := d + 7) (nm := s.2.1) (a := (nx T e s.2.2)) (so := 3) (x := s.1 0 3 0) hr hbn hN3 (by omega) (by omega) (by omega)) kX13_286 dX13_readNose_47 rfl (Nat.le_of_ble_eq_true rfl) rfl rfl (Nat.le_of_ble_eq_true rfl) (fun Mu hq => ?_)
    obtain ⟨I4, L4, rfl, y4, n2, n3, n4⟩ := hq
    have e12 : ∀ k, k < 12 → I4 12 ri k = I3 12 ri k := fun k hk => n3 k (by omega)
    refine x_aload_n dX13_readNose_50 rfl ?_
    refine g_M_read hr fX13_185 dX13_readNose_51 ?_
    refine g_MB_skill fX13_323 dX13_readNose_54 hbn ?_
    refine x_aload_n dX13_readNose_57 rfl ?_
    refine g_M_read hr fX13_185 dX13_readNose_58 ?_
    refine g_MB_noses fX13_318 dX13_readNose_61 hbn ?_
    refine x_top (show I4 12 ri 3 = nI (s.1 0 3 0) from (e12 3 (by decide)).trans (y12_3 hB3)) ?_
    refine x_iload_n dX13_readNose_64 rfl ?_
    refine x_iast dX13_readNose_65 rfl rfl hbn (by first | exact Nat.le_of_ble_eq_true rfl | assumption | omega) ?_
    refine x_aload_n dX13_readNose_66 rfl ?_
    refine g_M_read hr fX13_185 dX13_readNose_67 ?_
    refine x_dup dX13_readNose_70 rfl ?_
    refine g_MB_noses fX13_318 dX13_readNose_71 hbn ?_
    rw [xu_ns (by decide)]
    refine x_top (show I4 12 ri 3 = nI (s.1 0 3 0) from (e12 3 (by decide)).trans (y12_3 hB3)) ?_
    refine x_iconst dX13_readNose_74 li_1 ?_
    refine x_iaddN dX13_readNose_75 ?_
    refine p_MB_noses fX13_318 dX13_readNose_76 hbn ?_
    refine x_vret dX13_readNose_79 rfl ?_
    have hfq : FQ ri I (xu (xu I4 67 ri (s.1 0 3 0) (nI x3)) 12 ri 3 (nI (s.1 0 3 0 + 1))) L L4 := ((f3.fq.tr ⟨fun q c h1 h2 => n2 q c (by omega), fun k _ => by rw [n2 13 0 (by omega)], fun q c h1 h2 => n4 q c h2⟩).xu (by omega)).xu (by omega)
    refine ⟨rfl, _, _, rfl, hfq, (fun g z => by rw [hs2] at z; cases z), fun s5 z => ?_⟩
    rw [hs2] at z
    cases z
    cases hs4
    refine ⟨?_, YB.nose (x := x3) (I' := (xu (xu I4 67 ri (s.1 0 3 0) (nI x3)) 12 ri 3 (nI (s.1 0 3 0 + 1)))) ?_ (fun l hl2 => ?_) hB3 xu_s (fun k h1 h2 => ?_) (fun q h1 h2 h3 => ?_), ?_⟩
    · have hx2 : x = (nx T e (nx T e (nx T e (nx T e s.2.2)))) := hx.symm
      subst hx2
      exact YPS.st r3 (by funext y; rw [xu_ns (by decide), xu_ns (by decide), n2 13 0 (by omega)]) (n4 13 0 (by omega))
    · rw [xu_ns (by decide), xu_s]
    · rw [xu_ns (by decide), xu_nk hl2, n2 67 ri (by omega)]
    · rw [xu_nk h1, xu_ns (by decide)]; exact n3 k h2
    · funext y; rw [xu_ns (by omega), xu_ns h3, n2 q ri (by omega)]
    · have y5 := y4
      unfold YNm at y5 ⊢
      have q82 : ∀ i, (xu (xu I4 67 ri (s.1 0 3 0) (nI x3)) 12 ri 3 (nI (s.1 0 3 0 + 1))) 82 ri i = I4 82 ri i := fun i => by rw [xu_ns (by decide), xu_ns (by decide)]
      have q83 : ∀ i, (xu (xu I4 67 ri (s.1 0 3 0) (nI x3)) 12 ri 3 (nI (s.1 0 3 0 + 1))) 83 ri i = I4 83 ri i := fun i => by rw [xu_ns (by decide), xu_ns (by decide)]
      have q12 : (xu (xu I4 67 ri (s.1 0 3 0) (nI x3)) 12 ri 3 (nI (s.1 0 3 0 + 1))) 12 ri 12 = I4 12 ri 12 := by rw [xu_nk (by decide), xu_ns (by decide)]
      simp only [q82, q83, q12]
      exact y5
end M38
