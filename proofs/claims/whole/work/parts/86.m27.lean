section M27
variable {G : xG} {ad : Nat → Nat → Nat} {nb : Nat} {b r : Option Nat} {L : Nat → Nat → Nat → Int64} {V : sV} {I : Nat → Nat → Nat → Int32} {d : Nat}

variable {N : sN} {ns : List Nat} {A : List (List Nat)}
theorem md_ne : ∀ (r : Nat) (ns : List Nat), ns.Nodup → (∀ x ∈ ns, x < V 0 3 0) → ns.length + r ≤ V 0 3 0 → md V r ns ≠ []
  | 0, ns, _, _, _ => fun h => nomatch h
  | r + 1, ns, hd, hl, hr => fun h => by
    have hex : ∃ k, k < V 0 3 0 ∧ k ∉ ns := by
      refine Classical.byContradiction fun q => ?_
      have h3 : (List.range (V 0 3 0)).length ≤ ns.length := List.Nodup.length_le_of_subset List.nodup_range (fun x hx => Classical.byContradiction fun y => q ⟨x, List.mem_range.mp hx, y⟩)
      rw [List.length_range] at h3
      omega
    obtain ⟨k, hk, hn⟩ := hex
    have hz := List.flatMap_eq_nil_iff.mp (show (List.range (V 0 3 0)).flatMap (fun k => if k ∉ ns then md V r (ns ++ [k]) else []) = [] from h) k (List.mem_range.mpr hk)
    rw [if_pos hn] at hz
    refine md_ne r (ns ++ [k]) ?_ (fun x hx => (List.mem_append.mp hx).elim (hl x) (fun e => by rw [List.mem_singleton.mp e]; exact hk)) (by rw [List.length_append]; show ns.length + 1 + r ≤ _; omega) hz
    rw [List.nodup_append]
    exact ⟨hd, by simp, fun a ha c hc e => hn (by rw [List.mem_singleton.mp hc] at e; exact e ▸ ha)⟩
theorem md_len : ∀ (r : Nat) (ns u : List Nat), u ∈ md V r ns → u.length = ns.length + r
  | 0, ns, u, h => by rw [List.mem_singleton.mp h]; rfl
  | r + 1, ns, u, h => by
    obtain ⟨k, _, hk⟩ := List.mem_flatMap.mp (show u ∈ (List.range (V 0 3 0)).flatMap (fun k => if k ∉ ns then md V r (ns ++ [k]) else []) from h)
    split at hk
    · rw [md_len r (ns ++ [k]) u hk, List.length_append]; show ns.length + 1 + r = _; omega
    · exact absurd hk List.not_mem_nil
theorem psM_acc : ∀ (A : List (List Nat)) (q : Nat × List Nat), 0 < q.1 → 0 < (A.foldl (pmF V N) q).1 ∧ ((A.foldl (pmF V N) q).2 = q.2 ∨ (A.foldl (pmF V N) q).2 ∈ A)
  | [], q, h => ⟨h, Or.inl rfl⟩
  | a :: A, q, h => by
    show 0 < (A.foldl (pmF V N) (pmF V N q a)).1 ∧ ((A.foldl (pmF V N) (pmF V N q a)).2 = q.2 ∨ (A.foldl (pmF V N) (pmF V N q a)).2 ∈ a :: A)
    by_cases z : q.1 ≤ wsN V N a
    · rw [show pmF V N q a = (wsN V N a + 1, a) from if_pos z]
      obtain ⟨h1, h2⟩ := psM_acc A (wsN V N a + 1, a) (Nat.succ_pos _)
      exact ⟨h1, Or.inr (h2.elim (fun e => by rw [e]; exact List.mem_cons_self) (fun e => List.mem_cons_of_mem _ e))⟩
    · rw [show pmF V N q a = q from if_neg z]
      obtain ⟨h1, h2⟩ := psM_acc A q h
      exact ⟨h1, h2.imp id (fun e => List.mem_cons_of_mem _ e)⟩
theorem psM_in (hA : A ≠ []) : 0 < (psM V N A).1 ∧ (psM V N A).2 ∈ A := by
  cases A with
  | nil => exact absurd rfl hA
  | cons a A =>
    have e1 : pmF V N (0, []) a = (wsN V N a + 1, a) := if_pos (Nat.zero_le _)
    have := psM_acc (V := V) (N := N) A (wsN V N a + 1, a) (Nat.succ_pos _)
    show 0 < (A.foldl (pmF V N) (pmF V N (0, []) a)).1 ∧ (A.foldl (pmF V N) (pmF V N (0, []) a)).2 ∈ a :: A
    rw [e1]
    exact ⟨this.1, this.2.elim (fun e => by rw [e]; exact List.mem_cons_self) (fun e => List.mem_cons_of_mem _ e)⟩
theorem mdA_ne : md V (mnd V) [] ≠ [] := md_ne (mnd V) [] List.nodup_nil (fun x hx => absurd hx List.not_mem_nil) (by show 0 + mnd V ≤ _; unfold mnd; omega)
theorem psT_psa : psT V N (psa V) = ((psM V N (md V (mnd V) [])).1, toA V (psM V N (md V (mnd V) [])).2) := by
  rw [psa_md]
  exact psT_md mdA_ne

set_option maxRecDepth 100000 in
set_option maxHeartbeats 600000 in
theorem m_postings (hV : VW V) {bi : Nat} (hb : b = some bi) (hbn : bi < nb) (hW : NW V N) (hB : YB V bi I) (hN : YN V N I) : Mt G vX13_postings (d + 6) (0, 0) [.ref (ad 13 0)] (MM ad nb b r I L) (qI (fun rr M' => rr = nI ((psM V N (md V (mnd V) [])).1 - 1) ∧ ∃ I', M' = MM ad nb b r I' L ∧ MX I I' ∧ I' 13 0 41 = nI (mnd V) ∧ PP V (V 0 4 0) I' ∧ ∀ i, i < mnd V → I' 102 0 i = nI ((psM V N (md V (mnd V) [])).2.getD i 0))) := by
  have v0 := hV.1
  have v1 := hV.2.1
  have v2 := hV.2.2.1
  have v3 := hV.2.2.2.1
  have v4 := hV.2.2.2.2.1
  have v7 := hV.2.2.2.2.2.2.2.1
  have v9 := hV.2.2.2.2.2.2.2.2.2.1
  have v10 := hV.2.2.2.2.2.2.2.2.2.2.1
  have hps := psM_in (V := V) (N := N) (A := (md V (mnd V) [])) mdA_ne
  have hpl := pc_le (V := V) (V 0 4 0)
  have loop4 : ∀ (n : Nat) (k : Nat) (I1 : Nat → Nat → Nat → Int32), V 0 4 0 - k < n → k ≤ V 0 4 0 → PP V k I1 → (∀ s, s ≠ 100 → I1 s = I s) → X G vX13_postings (d + 6) (0, 0) 4 [(0, some (.ref (ad 13 0))), (1, some (.int (nI (pc V k)))), (2, some (.int (nI (k))))] [] (MM ad nb b r I1 L) (xT G (qI (fun rr M' => rr = nI ((psM V N (md V (mnd V) [])).1 - 1) ∧ ∃ I', M' = MM ad nb b r I' L ∧ MX I I' ∧ I' 13 0 41 = nI (mnd V) ∧ PP V (V 0 4 0) I' ∧ ∀ i, i < mnd V → I' 102 0 i = nI ((psM V N (md V (mnd V) [])).2.getD i 0)))) := by
    intro n
    induction n with
    | zero => intro k I1 h0; omega
    | succ n ih =>
      intro k I1 hn hk hP hs
      have hB1 := hB.sm (I' := I1) (fun q hq => hs q (by omega))
      have hpk := pc_le (V := V) k
      refine x_iload_n dX13_postings_4 rfl ?_
      refine x_aload_n dX13_postings_5 rfl ?_
      refine g_M_border hb fX13_397 dX13_postings_6 ?_
      refine g_MB_places fX13_230 dX13_postings_9 hbn ?_
      refine x_top (y12_4 hB1) ?_
      refine x_icN_ge 48 dX13_postings_12 (by decide) (by omega) (by omega) (fun h12 => ?_) (fun h12 => ?_)
      · obtain rfl : k = V 0 4 0 := by omega
        refine x_aload_n dX13_postings_48 rfl ?_
        refine x_iload_n dX13_postings_49 rfl ?_
        refine x_aload_n dX13_postings_50 rfl ?_
        refine g_M_border hb fX13_397 dX13_postings_51 ?_
        refine g_MB_noses fX13_318 dX13_postings_54 hbn ?_
        refine x_top (y12_3 hB1) ?_
        refine x_icN_ge 64 dX13_postings_57 (by decide) (by omega) (by omega) (fun h57 => ?_) (fun h57 => ?_)
        · have emn : V 0 3 0 = mnd V := by unfold mnd; omega
          refine x_aload_n dX13_postings_64 rfl ?_
          refine g_M_border hb fX13_397 dX13_postings_65 ?_
          refine g_MB_noses fX13_318 dX13_postings_68 hbn ?_
          refine x_top (y12_3 hB1) ?_
          rw [emn]
          refine p_M_manned fX13_502 dX13_postings_71 ?_
          have fo : FO I (xu I1 13 0 41 (nI (mnd V))) := ⟨fun s _ _ _ a _ _ c => by rw [← hs s a]; funext x y; rw [xu_ns c], fun k hk => by rw [xu_nk hk, hs 13 (by decide)]⟩
          have hmn : mnd V ≤ 4 := by unfold mnd; omega
          refine x_iconst dX13_postings_74 li_m1 ?_
          refine x_istore_n dX13_postings_75 (by decide) rfl ?_
          refine x_iconst dX13_postings_76 li_0 ?_
          refine x_istore_n dX13_postings_77 (by decide) rfl ?_
          refine x_aload_n dX13_postings_78 rfl ?_
          refine g_M_manned fX13_502 dX13_postings_79 ?_
          rw [xu_s]
          refine x_ifN_ne 90 dX13_postings_82 (by decide) (by omega) (fun h82 => ?_) (fun h82 => ?_)
          · refine x_aload_n dX13_postings_90 rfl ?_
            refine g_M_nose fX13_66 dX13_postings_91 ?_
            refine x_iconst dX13_postings_94 li_0 ?_
            refine x_iconst dX13_postings_95 li_m1 ?_
            refine x_iast dX13_postings_96 rfl rfl (Nat.le_of_ble_eq_true rfl) (by first | exact Nat.le_of_ble_eq_true rfl | assumption | omega) ?_
            obtain ⟨r0, hr0⟩ : ∃ r0, mnd V = r0 + 1 := ⟨mnd V - 1, by omega⟩
            have ew : (md V (mnd V) []) = mdr V r0 [] (V 0 3 0 - 0) 0 := by rw [Nat.sub_zero, hr0]; exact md_mdr
            have hS : SO V N [] [] I (xu (xu I1 13 0 41 (nI (mnd V))) 101 0 0 (-1)) := SO.w ⟨⟨xu_s, fun q h1 h2 => by rw [xu_ns (by decide)]; exact hP q h1 h2, fo⟩, fun i hi => absurd hi (Nat.not_lt_zero i), fun z => absurd rfl z⟩ (Nat.le_refl 0)
            refine x_wk (x_ls ?_ (lp_pst (Az := (md V (mnd V) [])) hV hb hbn hW hB hN r0 [] (by show 0 + (r0 + 1) = _; omega) (fun x hx => absurd hx List.not_mem_nil) (V 0 3 0 + 1) 0 [] _ (by omega) (by omega) hS xu_s (fun I2 hI2 => ?_))) (fun v M2 hv => ?_)
            · exact ⟨rfl, rfl, rfl, trivial⟩
            · rw [List.nil_append, ← ew] at hI2 ⊢
              refine x_iload_n dX13_postings_97 rfl ?_
              refine x_if_lt 246 dX13_postings_98 (by decide) (fun h98 => ?_) (fun h98 => absurd (show nI 0 + Int32.ofInt (-1) < 0 by decide) h98)
              refine x_iload_n dX13_postings_246 rfl ?_
              refine x_iret dX13_postings_247 rfl ?_
              exact ⟨_, rfl, rfl, _, rfl, hI2⟩
            · obtain ⟨rr, e1, e2, I2, e3, hI2⟩ := hv
              refine ⟨rr, e1, ?_, I2, e3, hI2.1.2.2.mx, hI2.1.1, hI2.1.2.1, hI2.2.2 (by omega)⟩
              rw [e2, nO_pos (by omega)]
          · refine x_aload_n dX13_postings_85 rfl ?_
            refine x_cvi (m_dutyOfAll (d := d) (ns := []) hV hb hbn hW (hB.mx fo.mx) (hN.mx fo.mx) (by rw [xu_s, h82]; rfl) (fun q h1 h2 => by rw [xu_ns (by decide)]; exact hP q h1 h2) (fun i hi => absurd hi (Nat.not_lt_zero i)) (fun x hx => absurd hx List.not_mem_nil) (Nat.zero_le _)) kX13_505 dX13_postings_86 rfl (Nat.le_of_ble_eq_true rfl) rfl rfl (Nat.le_of_ble_eq_true rfl) (fun ru Mu hq => ?_)
            obtain ⟨rfl, I3, rfl, w3⟩ := hq
            refine x_iret dX13_postings_89 rfl ?_
            have e0 : (md V (mnd V) []) = [[]] := by rw [h82]; rfl
            rw [e0]
            have e1 : psM V N [[]] = (wsN V N [] + 1, []) := by show pmF V N (0, []) [] = _; unfold pmF; rw [if_pos (Nat.zero_le _)]
            refine ⟨_, rfl, by rw [e1]; rfl, _, rfl, (fo.tr (FO.of3 w3)).mx, by rw [w3 13 (by decide) (by decide) (by decide), xu_s], fun q h1 h2 => by rw [w3 100 (by decide) (by decide) (by decide), xu_ns (by decide)]; exact hP q h1 h2, fun i hi => by omega⟩
        · have emn : pc V (V 0 4 0) = mnd V := by unfold mnd; omega
          refine x_iload_n dX13_postings_60 rfl ?_
          refine x_goto 71 dX13_postings_61 (by decide) ?_
          rw [emn]
          refine p_M_manned fX13_502 dX13_postings_71 ?_
          have fo : FO I (xu I1 13 0 41 (nI (mnd V))) := ⟨fun s _ _ _ a _ _ c => by rw [← hs s a]; funext x y; rw [xu_ns c], fun k hk => by rw [xu_nk hk, hs 13 (by decide)]⟩
          have hmn : mnd V ≤ 4 := by unfold mnd; omega
          refine x_iconst dX13_postings_74 li_m1 ?_
          refine x_istore_n dX13_postings_75 (by decide) rfl ?_
          refine x_iconst dX13_postings_76 li_0 ?_
          refine x_istore_n dX13_postings_77 (by decide) rfl ?_
          refine x_aload_n dX13_postings_78 rfl ?_
          refine g_M_manned fX13_502 dX13_postings_79 ?_
          rw [xu_s]
          refine x_ifN_ne 90 dX13_postings_82 (by decide) (by omega) (fun h82 => ?_) (fun h82 => ?_)
          · refine x_aload_n dX13_postings_90 rfl ?_
            refine g_M_nose fX13_66 dX13_postings_91 ?_
            refine x_iconst dX13_postings_94 li_0 ?_
            refine x_iconst dX13_postings_95 li_m1 ?_
            refine x_iast dX13_postings_96 rfl rfl (Nat.le_of_ble_eq_true rfl) (by first | exact Nat.le_of_ble_eq_true rfl | assumption | omega) ?_
            obtain ⟨r0, hr0⟩ : ∃ r0, mnd V = r0 + 1 := ⟨mnd V - 1, by omega⟩
            have ew : (md V (mnd V) []) = mdr V r0 [] (V 0 3 0 - 0) 0 := by rw [Nat.sub_zero, hr0]; exact md_mdr
            have hS : SO V N [] [] I (xu (xu I1 13 0 41 (nI (mnd V))) 101 0 0 (-1)) := SO.w ⟨⟨xu_s, fun q h1 h2 => by rw [xu_ns (by decide)]; exact hP q h1 h2, fo⟩, fun i hi => absurd hi (Nat.not_lt_zero i), fun z => absurd rfl z⟩ (Nat.le_refl 0)
            refine x_wk (x_ls ?_ (lp_pst (Az := (md V (mnd V) [])) hV hb hbn hW hB hN r0 [] (by show 0 + (r0 + 1) = _; omega) (fun x hx => absurd hx List.not_mem_nil) (V 0 3 0 + 1) 0 [] _ (by omega) (by omega) hS xu_s (fun I2 hI2 => ?_))) (fun v M2 hv => ?_)
            · exact ⟨rfl, rfl, rfl, trivial⟩
            · rw [List.nil_append, ← ew] at hI2 ⊢
              refine x_iload_n dX13_postings_97 rfl ?_
              refine x_if_lt 246 dX13_postings_98 (by decide) (fun h98 => ?_) (fun h98 => absurd (show nI 0 + Int32.ofInt (-1) < 0 by decide) h98)
              refine x_iload_n dX13_postings_246 rfl ?_
              refine x_iret dX13_postings_247 rfl ?_
              exact ⟨_, rfl, rfl, _, rfl, hI2⟩
            · obtain ⟨rr, e1, e2, I2, e3, hI2⟩ := hv
              refine ⟨rr, e1, ?_, I2, e3, hI2.1.2.2.mx, hI2.1.1, hI2.1.2.1, hI2.2.2 (by omega)⟩
              rw [e2, nO_pos (by omega)]
          · refine x_aload_n dX13_postings_85 rfl ?_
            refine x_cvi (m_dutyOfAll (d := d) (ns := []) hV hb hbn hW (hB.mx fo.mx) (hN.mx fo.mx) (by rw [xu_s, h82]; rfl) (fun q h1 h2 => by rw [xu_ns (by decide)]; exact hP q h1 h2) (fun i hi => absurd hi (Nat.not_lt_zero i)) (fun x hx => absurd hx List.not_mem_nil) (Nat.zero_le _)) kX13_505 dX13_postings_86 rfl (Nat.le_of_ble_eq_true rfl) rfl rfl (Nat.le_of_ble_eq_true rfl) (fun ru Mu hq => ?_)
            obtain ⟨rfl, I3, rfl, w3⟩ := hq
            refine x_iret dX13_postings_89 rfl ?_
            have e0 : (md V (mnd V) []) = [[]] := by rw [h82]; rfl
            rw [e0]
            have e1 : psM V N [[]] = (wsN V N [] + 1, []) := by show pmF V N (0, []) [] = _; unfold pmF; rw [if_pos (Nat.zero_le _)]
            refine ⟨_, rfl, by rw [e1]; rfl, _, rfl, (fo.tr (FO.of3 w3)).mx, by rw [w3 13 (by decide) (by decide) (by decide), xu_s], fun q h1 h2 => by rw [w3 100 (by decide) (by decide) (by decide), xu_ns (by decide)]; exact hP q h1 h2, fun i hi => by omega⟩
      · refine x_aload_n dX13_postings_15 rfl ?_
        refine g_M_border hb fX13_397 dX13_postings_16 ?_
        refine g_MB_noseOf fX13_328 dX13_postings_19 hbn ?_
        refine x_iload_n dX13_postings_22 rfl ?_
        refine x_iald dX13_postings_23 rfl rfl hbn (by first | exact Nat.le_of_ble_eq_true rfl | assumption | omega) ?_
        refine x_top (y69 hB1 (by first | assumption | omega)) ?_
        have h6k := (hV.2.2.2.2.2.2.2.2.2.2.2.2.2.2.2.1 k h12).2
        refine x_bipush dX13_postings_24 lb_m2 ?_
        refine x_ic_ne 32 dX13_postings_26 (by decide) (fun h26 => ?_) (fun h26 => ?_)
        · have hn0 : V 6 k 0 ≠ 0 := fun z => h26 ((nO_m2 (by omega)).mpr z)
          refine x_aload_n dX13_postings_32 rfl ?_
          refine g_M_postPlace fX13_63 dX13_postings_33 ?_
          refine x_iload_n dX13_postings_36 rfl ?_
          refine x_iload_n dX13_postings_37 rfl ?_
          refine x_iast dX13_postings_38 rfl rfl (Nat.le_of_ble_eq_true rfl) (by first | exact Nat.le_of_ble_eq_true rfl | assumption | omega) ?_
          refine x_iincN 1 dX13_postings_39 li_1 rfl (by decide) rfl ?_
          refine x_iincN 1 dX13_postings_42 li_1 rfl (by decide) rfl ?_
          refine x_goto 4 dX13_postings_45 (by decide) ?_
          first
            | (refine x_ls ?_ (ih (k + 1) _ (by omega) (by omega) (fun q h1 h2 => ?_) (fun s h => ?_))
               · exact ⟨rfl, by rw [show pc V (k + 1) = pc V k + 1 by show _ + _ = _; rw [if_neg hn0]]; rfl, rfl, trivial⟩
               · rw [xu_at]
                 by_cases e0 : q = k
                 · rw [if_pos (by rw [e0]), e0]
                 · rw [if_neg (by have := pc_lt (V := V) (show q < k by omega) h2; omega)]; exact hP q (by omega) h2
               · rw [← hs s h]; funext x y; rw [xu_ns h])
            | (refine x_ls ?_ (ih (k + 1) I1 (by omega) (by omega) (fun q h1 h2 => ?_) hs)
               · exact ⟨rfl, by rw [show pc V (k + 1) = pc V k + 0 by show _ + _ = _; rw [if_pos hn0]]; rfl, rfl, trivial⟩
               · exact hP q (by rcases (show q = k ∨ q < k by omega) with e | e; exact absurd (e ▸ hn0) h2; exact e) h2)
        · have hn0 : V 6 k 0 = 0 := (nO_m2 (by have := (hV.2.2.2.2.2.2.2.2.2.2.2.2.2.2.2.1 k h12).2; omega)).mp (by first | exact h26 | exact Decidable.of_not_not h26)
          refine x_goto 42 dX13_postings_29 (by decide) ?_
          refine x_iincN 1 dX13_postings_42 li_1 rfl (by decide) rfl ?_
          refine x_goto 4 dX13_postings_45 (by decide) ?_
          first
            | (refine x_ls ?_ (ih (k + 1) _ (by omega) (by omega) (fun q h1 h2 => ?_) (fun s h => ?_))
               · exact ⟨rfl, by rw [show pc V (k + 1) = pc V k + 1 by show _ + _ = _; rw [if_neg hn0]]; rfl, rfl, trivial⟩
               · rw [xu_at]
                 by_cases e0 : q = k
                 · rw [if_pos (by rw [e0]), e0]
                 · rw [if_neg (by have := pc_lt (V := V) (show q < k by omega) h2; omega)]; exact hP q (by omega) h2
               · rw [← hs s h]; funext x y; rw [xu_ns h])
            | (refine x_ls ?_ (ih (k + 1) I1 (by omega) (by omega) (fun q h1 h2 => ?_) hs)
               · exact ⟨rfl, by rw [show pc V (k + 1) = pc V k + 0 by show _ + _ = _; rw [if_pos hn0]]; rfl, rfl, trivial⟩
               · exact hP q (by rcases (show q = k ∨ q < k by omega) with e | e; exact absurd (e ▸ hn0) h2; exact e) h2)
  refine x_start (by decide) (Nat.le_of_ble_eq_true rfl) ?_
  refine x_iconst dX13_postings_0 li_0 ?_
  refine x_istore_n dX13_postings_1 (by decide) rfl ?_
  refine x_iconst dX13_postings_2 li_0 ?_
  refine x_istore_n dX13_postings_3 (by decide) rfl ?_
  refine x_ls ?_ (loop4 (V 0 4 0 + 1) 0 I (by omega) (by omega) (fun q h => absurd h (Nat.not_lt_zero q)) (fun _ _ => rfl))
  exact ⟨rfl, rfl, rfl, trivial⟩
set_option maxRecDepth 100000 in
set_option maxHeartbeats 600000 in
theorem m_posts0 (hn : b = none) (hz : ∀ k, k < 12 → V 0 k 0 = 0) {N : sN} : Mt G vX13_posts (d + 7) (0, 0) [.ref (ad 13 0)] (MM ad nb b r I L) (qM ad nb b r I L (a_posts V N)) := by
  have hm := MX.rf (I := (xu I 13 0 0 (nI 0)))
  refine x_start (by decide) (Nat.le_of_ble_eq_true rfl) ?_
  refine x_aload_n dX13_posts_0 rfl ?_
  refine x_iconst dX13_posts_1 li_0 ?_
  refine p_M_thrown fX13_72 dX13_posts_2 ?_
  refine x_aload_n dX13_posts_5 rfl ?_
  refine g_M_borderN hn fX13_397 dX13_posts_6 ?_
  refine x_ifnonnullN dX13_posts_9 ?_
  refine x_aload_n dX13_posts_12 rfl ?_
  refine x_iconst dX13_posts_13 li_1 ?_
  refine x_cvi (m_refused) kX13_78 dX13_posts_14 rfl (Nat.le_of_ble_eq_true rfl) rfl rfl (Nat.le_of_ble_eq_true rfl) (fun ru Mu hq => ?_)
  obtain ⟨rfl, rfl⟩ := hq
  refine x_goto 28 dX13_posts_17 (by decide) ?_
  refine x_iret dX13_posts_28 rfl ?_
  refine qM_ok (show a_posts V N = (-1, 1) from if_neg (by rw [hz 0 (by decide)]; decide)) hm
set_option maxRecDepth 100000 in
set_option maxHeartbeats 600000 in
theorem m_posts1 (hV : VW V) {bi : Nat} (hb : b = some bi) (hbn : bi < nb) {N : sN} (hW : NW V N) (hB : YB V bi I) (h0 : 0 < V 0 0 0) (hN : YN V N I) : Mt G vX13_posts (d + 7) (0, 0) [.ref (ad 13 0)] (MM ad nb b r I L) (qM ad nb b r I L (a_posts V N)) := by
  have v0 := hV.1
  have v1 := hV.2.1
  have v2 := hV.2.2.1
  have v3 := hV.2.2.2.1
  have v4 := hV.2.2.2.2.1
  have v7 := hV.2.2.2.2.2.2.2.1
  have v9 := hV.2.2.2.2.2.2.2.2.2.1
  have v10 := hV.2.2.2.2.2.2.2.2.2.2.1
  have hB := hB.sm (I' := (xu I 13 0 0 (nI 0))) (fun q hq => by funext x y; rw [xu_ns (by omega)])
  have hN := hN.sm (I' := (xu I 13 0 0 (nI 0))) (by funext x y; rw [xu_ns (by decide)])
  have hm := MX.rf (I := (xu I 13 0 0 (nI 0)))
  refine x_start (by decide) (Nat.le_of_ble_eq_true rfl) ?_
  refine x_aload_n dX13_posts_0 rfl ?_
  refine x_iconst dX13_posts_1 li_0 ?_
  refine p_M_thrown fX13_72 dX13_posts_2 ?_
  refine x_aload_n dX13_posts_5 rfl ?_
  refine g_M_border hb fX13_397 dX13_posts_6 ?_
  refine x_ifnonnull 20 dX13_posts_9 (by decide) ?_
  refine x_aload_n dX13_posts_20 rfl ?_
  refine x_aload_n dX13_posts_21 rfl ?_
  refine x_cvi (m_postings (d := d) hV hb hbn hW hB hN) kX13_511 dX13_posts_22 rfl (Nat.le_of_ble_eq_true rfl) rfl rfl (Nat.le_of_ble_eq_true rfl) (fun ru Mu hq => ?_)
  obtain ⟨rfl, I1, rfl, m1, h41, hP, hb2⟩ := hq
  refine x_cvi (m_good) kX13_82 dX13_posts_25 rfl (Nat.le_of_ble_eq_true rfl) rfl rfl (Nat.le_of_ble_eq_true rfl) (fun ru Mu hq => ?_)
  obtain ⟨rfl, rfl⟩ := hq
  refine x_iret dX13_posts_28 rfl ?_
  refine qM_ok (show a_posts V N = _ from ?_) m1
  unfold a_posts
  rw [if_pos h0, psT_psa]
theorem m_posts (hV : VW V) (hO : YO V nb b I) {N : sN} (hW : NW V N) (hN : YN V N I) : Mt G vX13_posts (d + 7) (0, 0) [.ref (ad 13 0)] (MM ad nb b r I L) (qM ad nb b r I L (a_posts V N)) := by
  rcases hO with ⟨hn, hz⟩ | ⟨bi, hb, hbn, hB, h0⟩
  · exact m_posts0 hn hz
  · exact m_posts1 hV hb hbn hW hB h0 hN
set_option maxRecDepth 100000 in
set_option maxHeartbeats 600000 in
theorem lp_mpo (hV : VW V) {bi : Nat} (hb : b = some bi) (hbn : bi < nb) (hW : NW V N) {q : Nat} (hq4 : q < V 0 4 0) {I1 : Nat → Nat → Nat → Int32} (m1 : MX (xu I 13 0 0 (nI 0)) I1) (h41 : I1 13 0 41 = nI (mnd V)) (hP : PP V (V 0 4 0) I1) (hb2 : ∀ i, i < mnd V → I1 102 0 i = nI ((psM V N (md V (mnd V) [])).2.getD i 0)) : ∀ (n : Nat) (k : Nat), mnd V - k < n → k ≤ mnd V → (V 6 q 0 ≠ 0 → k ≤ pc V q) → X G vX13_postOf (d + 7) (0, 0) 26 [(0, some (.ref (ad 13 0))), (1, some (.int (nI (q)))), (2, some (.int (nI (k))))] [] (MM ad nb b r I1 L) (xT G (qM ad nb b r I L (a_postOf V N (nI q)))) := by
  have v0 := hV.1
  have v1 := hV.2.1
  have v2 := hV.2.2.1
  have v3 := hV.2.2.2.1
  have v4 := hV.2.2.2.2.1
  have v7 := hV.2.2.2.2.2.2.2.1
  have v9 := hV.2.2.2.2.2.2.2.2.2.1
  have v10 := hV.2.2.2.2.2.2.2.2.2.2.1
  have hbl : (psM V N (md V (mnd V) [])).2.length = mnd V := by rw [md_len _ _ _ (psM_in (V := V) (N := N) mdA_ne).2]; show 0 + _ = _; omega
  have hm3 : mnd V ≤ V 0 3 0 := Nat.min_le_right _ _
  have hmp : mnd V ≤ pc V (V 0 4 0) := Nat.min_le_left _ _
  intro n
  induction n with
  | zero => intro k h0; omega
  | succ n ih =>
    intro k hn hk hn
    refine x_iload_n dX13_postOf_26 rfl ?_
    refine x_aload_n dX13_postOf_27 rfl ?_
    refine g_M_manned fX13_502 dX13_postOf_28 ?_
    rw [h41]
    refine x_icN_ge 61 dX13_postOf_31 (by decide) (by omega) (by omega) (fun h31 => ?_) (fun h31 => ?_)
    · refine x_aload_n dX13_postOf_61 rfl ?_
      refine x_bipush dX13_postOf_62 lb_m2 ?_
      refine x_cvi (m_good) kX13_82 dX13_postOf_64 rfl (Nat.le_of_ble_eq_true rfl) rfl rfl (Nat.le_of_ble_eq_true rfl) (fun ru Mu hq => ?_)
      obtain ⟨rfl, rfl⟩ := hq
      refine x_iret dX13_postOf_67 rfl ?_
      refine qM_ok (show a_postOf V N _ = _ from ?_) m1
      unfold a_postOf
      rw [inr_nI (by omega) (by omega), decide_eq_true hq4, if_pos rfl, zN_nI (by omega), psT_psa, toA_get hq4]
      unfold fJ
      rw [if_neg (fun z => by have := hn z.1; have := z.2; omega)]
      rfl
    · obtain ⟨x, hx4, hx6, hxk⟩ := pc_surj (V := V) (j := k) (V 0 4 0) (by omega)
      refine x_aload_n dX13_postOf_34 rfl ?_
      refine g_M_postPlace fX13_63 dX13_postOf_35 ?_
      refine x_iload_n dX13_postOf_38 rfl ?_
      refine x_iald dX13_postOf_39 rfl rfl (Nat.le_of_ble_eq_true rfl) (by first | exact Nat.le_of_ble_eq_true rfl | assumption | omega) ?_
      rw [show I1 100 0 k = nI x by rw [← hxk]; exact hP x hx4 hx6]
      refine x_iload_n dX13_postOf_40 rfl ?_
      refine x_icN_ne 55 dX13_postOf_41 (by decide) (by omega) (by omega) (fun h41 => ?_) (fun h41 => ?_)
      · refine x_iincN 1 dX13_postOf_55 li_1 rfl (by decide) rfl ?_
        refine x_goto 26 dX13_postOf_58 (by decide) ?_
        refine x_ls ?_ (ih (k + 1) (by omega) (by omega) (fun z => ?_))
        · exact ⟨rfl, rfl, rfl, trivial⟩
        · have := hn z
          rcases Nat.lt_trichotomy q x with l | l | l
          · have := pc_lt l z; omega
          · exact absurd l.symm h41
          · have := pc_lt l hx6; omega
      · refine x_aload_n dX13_postOf_44 rfl ?_
        refine x_aload_n dX13_postOf_45 rfl ?_
        refine g_M_bestNose fX13_69 dX13_postOf_46 ?_
        refine x_iload_n dX13_postOf_49 rfl ?_
        refine x_iald dX13_postOf_50 rfl rfl (Nat.le_of_ble_eq_true rfl) (by first | exact Nat.le_of_ble_eq_true rfl | assumption | omega) ?_
        rw [hb2 k h31]
        refine x_cvi (m_good) kX13_82 dX13_postOf_51 rfl (Nat.le_of_ble_eq_true rfl) rfl rfl (Nat.le_of_ble_eq_true rfl) (fun ru Mu hq => ?_)
        obtain ⟨rfl, rfl⟩ := hq
        refine x_iret dX13_postOf_54 rfl ?_
        refine qM_ok (show a_postOf V N _ = _ from ?_) m1
        unfold a_postOf
        rw [inr_nI (by omega) (by omega), decide_eq_true hq4, if_pos rfl, zN_nI (by omega), psT_psa, toA_get hq4, ← h41]
        unfold fJ
        rw [if_pos ⟨hx6, by omega⟩, hxk, nO_pos (by omega), Nat.add_sub_cancel]
set_option maxRecDepth 100000 in
set_option maxHeartbeats 600000 in
theorem m_postOf (hV : VW V) (hO : YO V nb b I) (hW : NW V N) (hN : YN V N I) {z1 : Int32} : Mt G vX13_postOf (d + 7) (0, 0) [.ref (ad 13 0), .int (z1)] (MM ad nb b r I L) (qM ad nb b r I L (a_postOf V N z1)) := by
  have v0 := hV.1
  have v1 := hV.2.1
  have v2 := hV.2.2.1
  have v3 := hV.2.2.2.1
  have v4 := hV.2.2.2.2.1
  have v7 := hV.2.2.2.2.2.2.2.1
  have v9 := hV.2.2.2.2.2.2.2.2.2.1
  have v10 := hV.2.2.2.2.2.2.2.2.2.2.1
  have hO := hO.sm (I' := (xu I 13 0 0 (nI 0))) (fun q hq => by funext x y; rw [xu_ns (by omega)])
  have hN := hN.sm (I' := (xu I 13 0 0 (nI 0))) (by funext x y; rw [xu_ns (by decide)])
  have hm := MX.rf (I := (xu I 13 0 0 (nI 0)))
  refine x_start (by decide) (Nat.le_of_ble_eq_true rfl) ?_
  refine x_aload_n dX13_postOf_0 rfl ?_
  refine x_iconst dX13_postOf_1 li_0 ?_
  refine p_M_thrown fX13_72 dX13_postOf_2 ?_
  refine x_aload_n dX13_postOf_5 rfl ?_
  refine x_iload_n dX13_postOf_6 rfl ?_
  refine x_cvi (m_isPlace' hV hO) kX13_422 dX13_postOf_7 rfl (Nat.le_of_ble_eq_true rfl) rfl rfl (Nat.le_of_ble_eq_true rfl) (fun ru Mu hq => ?_)
  obtain ⟨rfl, rfl⟩ := hq
  refine x_if_ne 19 dX13_postOf_10 (by decide) (fun h10 => ?_) (fun h10 => ?_)
  · have qq := bI_ne.mp h10
    obtain ⟨q, hq, rfl⟩ := inr_of qq (by omega)
    obtain ⟨bi, hb, hbn, hB⟩ := hO.some (show V 0 4 0 ≠ 0 by omega) (by decide)
    refine x_aload_n dX13_postOf_19 rfl ?_
    refine x_cvi (m_postings (d := d) hV hb hbn hW hB hN) kX13_511 dX13_postOf_20 rfl (Nat.le_of_ble_eq_true rfl) rfl rfl (Nat.le_of_ble_eq_true rfl) (fun ru Mu hq => ?_)
    obtain ⟨rfl, I1, rfl, m1, h41, hP, hb2⟩ := hq
    refine x_pop dX13_postOf_23 rfl ?_
    refine x_iconst dX13_postOf_24 li_0 ?_
    refine x_istore_n dX13_postOf_25 (by decide) rfl ?_
    refine x_ls ?_ (lp_mpo hV hb hbn hW hq m1 h41 hP hb2 (mnd V + 1) 0 (by omega) (by omega) (fun _ => Nat.zero_le _))
    exact ⟨rfl, rfl, rfl, trivial⟩
  · refine x_aload_n dX13_postOf_13 rfl ?_
    refine x_iconst dX13_postOf_14 li_1 ?_
    refine x_cvi (m_refused) kX13_78 dX13_postOf_15 rfl (Nat.le_of_ble_eq_true rfl) rfl rfl (Nat.le_of_ble_eq_true rfl) (fun ru Mu hq => ?_)
    obtain ⟨rfl, rfl⟩ := hq
    refine x_iret dX13_postOf_18 rfl ?_
    refine qM_ok (show a_postOf V N _ = (-1, 1) from if_neg (by rw [bI_eq.mp h10]; decide)) hm
end M27
