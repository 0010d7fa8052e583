section M48
variable {G : xG} {y : xY} {d : Nat} {b1 b2 : Nat} {B : Nat × Nat} {pc : Nat} {ls : List (Nat × Option Value)} {st : List Value} {M M' : xM} {Q : xTg} {g q idx : Nat}
/-- a cell more, at the end of a segment: everything in it is 0 -/
def xnew (M : xM) (g q : Nat) : xM := (fun a b => if a = g ∧ b = M.2.1 g then q else M.1 a b, fun a => if a = g then M.2.1 g + 1 else M.2.1 a, fun a b c => if a = g ∧ b = M.2.1 g then 0 else M.2.2.1 a b c, fun a b c => if a = g ∧ b = M.2.1 g then 0 else M.2.2.2.1 a b c, fun a b c => if a = g ∧ b = M.2.1 g then none else M.2.2.2.2 a b c)
theorem xE_sm {s i : Nat} (h1 : M'.2.2.1 s i = M.2.2.1 s i) (h2 : M'.2.2.2.1 s i = M.2.2.2.1 s i) (h3 : M'.2.2.2.2 s i = M.2.2.2.2 s i) : xE G M' s i = xE G M s i := by
  unfold xE
  rw [h1, h2, h3]
theorem xH_same {H : Heap} (hC : ∀ s, M'.2.1 s = M.2.1 s) (hA : ∀ s i, i < M.2.1 s → M'.1 s i = M.1 s i) (h1 : ∀ s i, i < M.2.1 s → M'.2.2.1 s i = M.2.2.1 s i) (h2 : ∀ s i, i < M.2.1 s → M'.2.2.2.1 s i = M.2.2.2.1 s i) (h3 : ∀ s i, i < M.2.1 s → M'.2.2.2.2 s i = M.2.2.2.2 s i) (h : xH G M H) : xH G M' H := by
  obtain ⟨hb, dom, hnd, hm, hP, hD⟩ := h
  have e : xw G M' dom = xw G M dom := by
    unfold xw
    refine List.map_congr_left (fun z hz => ?_)
    have hz2 := (hm z.1 z.2).mp hz
    rw [hA _ _ hz2, xE_sm (h1 _ _ hz2) (h2 _ _ hz2) (h3 _ _ hz2)]
  exact ⟨hb, dom, hnd, fun s i => by rw [hC]; exact hm s i, by rw [e]; exact hP, by rw [e]; exact hD⟩
/-- memory is what its live cells hold -/
theorem x_same (hC : ∀ s, M'.2.1 s = M.2.1 s) (hA : ∀ s i, i < M.2.1 s → M'.1 s i = M.1 s i) (h1 : ∀ s i, i < M.2.1 s → M'.2.2.1 s i = M.2.2.1 s i) (h2 : ∀ s i, i < M.2.1 s → M'.2.2.2.1 s i = M.2.2.2.1 s i) (h3 : ∀ s i, i < M.2.1 s → M'.2.2.2.2 s i = M.2.2.2.2 s i) (k : X G y d B pc ls st M' Q) : X G y d B pc ls st M Q := by
  intro p l e RM s m args below meth c H locs cells slots lsA hC2 hR hH hS hc hs hl
  exact k p l e RM s m args below meth c H locs cells slots lsA hC2 hR (xH_same hC hA h1 h2 h3 hH) hS hc hs hl
theorem xw_new {dom : List (Nat × Nat)} (hm : ∀ s i, (s, i) ∈ dom ↔ i < M.2.1 s) : xw G (xnew M g q) (dom ++ [(g, M.2.1 g)]) = xw G M dom ++ [(q, xE G (xnew M g q) g (M.2.1 g))] := by
  unfold xw
  rw [List.map_append]
  congr 1
  · refine List.map_congr_left (fun z hz => ?_)
    have hz2 := (hm z.1 z.2).mp hz
    have hne : ¬ (z.1 = g ∧ z.2 = M.2.1 g) := fun h => by rw [h.1, h.2] at hz2; exact Nat.lt_irrefl _ hz2
    rw [xE_sm (M := M) (M' := xnew M g q) (funext fun c => if_neg hne) (funext fun c => if_neg hne) (funext fun c => if_neg hne)]
    show (ite _ _ _, _) = _
    rw [if_neg hne]
  · show [(ite _ _ _, _)] = _
    rw [if_pos ⟨rfl, rfl⟩]
theorem xH_new {H H1 : Heap} {dom : List (Nat × Nat)} (hb : G.2.2.2.2.2 ≤ H1.size) (hnd : dom.Nodup) (hm : ∀ s i, (s, i) ∈ dom ↔ i < M.2.1 s) (hP : va_P G.1 vwCl (xw G M dom ++ [(q, xE G (xnew M g q) g (M.2.1 g))]) H1) (hD : va_D (xA G) (xw G M dom ++ [(q, xE G (xnew M g q) g (M.2.1 g))])) : xH G (xnew M g q) H1 := by
  refine ⟨hb, dom ++ [(g, M.2.1 g)], ?_, fun s i => ?_, by rw [xw_new hm]; exact hP, by rw [xw_new hm]; exact hD⟩
  · rw [List.nodup_append]
    refine ⟨hnd, by simp, fun a ha b hb2 h => ?_⟩
    rw [List.mem_singleton.mp hb2] at h
    rw [h] at ha
    exact Nat.lt_irrefl _ ((hm _ _).mp ha)
  · rw [List.mem_append, List.mem_singleton, hm]
    show _ ↔ i < if s = g then _ else _
    by_cases h : s = g
    · subst h
      rw [if_pos rfl]
      constructor
      · rintro (h | h)
        · omega
        · cases h; omega
      · intro h
        by_cases z : i < M.2.1 s
        · exact Or.inl z
        · exact Or.inr (by rw [show i = M.2.1 s by omega])
    · rw [if_neg h]
      constructor
      · rintro (z | z)
        · exact z
        · cases z; exact absurd rfl h
      · exact Or.inl
theorem xE_nA {t n : Nat} (hg : xsh g = .inl (t, n)) : xE G (xnew M g q) g (M.2.1 g) = .inl (G.2.1 t, n, xar t (fun _ => 0) (fun _ => 0) (fun _ => none)) := by
  rw [xE_a hg]
  have e1 : (xnew M g q).2.2.1 g (M.2.1 g) = fun _ => 0 := funext fun c => if_pos ⟨rfl, rfl⟩
  have e2 : (xnew M g q).2.2.2.1 g (M.2.1 g) = fun _ => 0 := funext fun c => if_pos ⟨rfl, rfl⟩
  have e3 : (xnew M g q).2.2.2.2 g (M.2.1 g) = fun _ => none := funext fun c => if_pos ⟨rfl, rfl⟩
  rw [e1, e2, e3]
theorem xE_nO {cn : Nat} (hg : xsh g = .inr cn) : xE G (xnew M g q) g (M.2.1 g) = .inr (cn, xfs cn (fun _ => 0) (fun _ => 0) (fun _ => none)) := by
  rw [xE_o hg]
  have e1 : (xnew M g q).2.2.1 g (M.2.1 g) = fun _ => 0 := funext fun c => if_pos ⟨rfl, rfl⟩
  have e2 : (xnew M g q).2.2.2.1 g (M.2.1 g) = fun _ => 0 := funext fun c => if_pos ⟨rfl, rfl⟩
  have e3 : (xnew M g q).2.2.2.2 g (M.2.1 g) = fun _ => none := funext fun c => if_pos ⟨rfl, rfl⟩
  rw [e1, e2, e3]
/-- new int[n], new byte[n], new long[n] -/
theorem x_newarr {atype : ArrayType} {t n : Nat} (hd : decode y.2.1 pc = .ok (.newarray atype, 2)) (hty : newarray.typeOf atype = xty t) (ht : t < 3) (hg : xsh g = .inl (t, n)) (hn : n ≤ 2000) (harr : Cond.arrayClass (xty t) ∈ xTBL) (kk : ∀ q, X G y d (b1, b2) (pc + 2) ls (.ref q :: st) (xnew M g q) Q) : X G y d (b1 + 1, b2 + n) pc ls (.int (nI n) :: st) M Q := by
  intro p l e RM s m args below meth c H locs cells slots lsA hC hR hH hS hc hs hl
  obtain ⟨hb, dom, hnd, hm, hP, hD⟩ := id hH
  have hc : cells + (b1 + 1) ≤ RM.cells := hc
  have hs : slots + (b2 + n) ≤ RM.slots := hs
  have hK := hC.2.2.2.2.2.2.2.2.2.2
  have h3 : t = 0 ∨ t = 1 ∨ t = 2 := by omega
  refine va_newa (N' := n) (a0 := (n, xar t (fun _ => 0) (fun _ => 0) (fun _ => none))) hC.1 hC.2.1 (atype := atype) (by rw [hty]; exact hC.2.2.2.2.2.1 _ harr) hty hK hP hD hS (fun q hq => Nat.le_trans hC.2.2.2.2.2.2.2.2.1 hq) (fun cA => ?_) (nI_pos (by omega)) (nI_clamp (by omega)) ?_ (by omega) (by omega) hd (fun q cA H1 hK1 hP1 hD1 hS1 => ?_)
  · rcases h3 with rfl | rfl | rfl <;> rfl
  · rcases h3 with rfl | rfl | rfl
    · show n * 4 ≤ _; omega
    · show n * 1 ≤ _; omega
    · show n * 8 ≤ _; omega
  · have e1 : cA = G.2.1 t := by
      have q1 := (hK1.2 5 (cA, xty t) rfl).2
      rcases h3 with rfl | rfl | rfl
      · exact Option.some.inj (Eq.trans (Eq.symm q1) (hK.2 0 (G.2.1 0, .int) rfl).2)
      · exact Option.some.inj (Eq.trans (Eq.symm q1) (hK.2 1 (G.2.1 1, .byte) rfl).2)
      · exact Option.some.inj (Eq.trans (Eq.symm q1) (hK.2 2 (G.2.1 2, .long) rfl).2)
    subst e1
    exact kk q p l e RM s m args below meth c H1 locs (cells + 1) (slots + n) lsA hC hR (xH_new (H := H) (Nat.le_trans hC.2.2.2.2.2.2.2.2.1 hS1.1) hnd hm (by rw [xE_nA hg]; exact hP1) (by rw [xE_nA hg]; exact hD1)) hS1 (by show cells + 1 + b1 ≤ _; omega) (by show slots + n + b2 ≤ _; omega) hl
/-- new C -/
theorem x_newobj {cn N : Nat} {CN : String} {T : u_T} (hd : decode y.2.1 pc = .ok (.new idx, 3)) (hcl : Cond.classLink y.1.cls idx CN ∈ xTBL) (hin : Cond.instantiable CN N ∈ xTBL) (hini : Cond.initialized CN ∈ xTBL) (hq : vwCl[cn]? = some (CN, T, N)) (hN : (xft cn).length = N) (hf3 : ∀ k, k < N → ∃ t, (xft cn)[k]? = some t ∧ t < 3) (hg : xsh g = .inr cn) (kk : ∀ q, X G y d (b1, b2) (pc + 3) ls (.ref q :: st) (xnew M g q) Q) : X G y d (b1 + 1, b2 + N) pc ls st M Q := by
  intro p l e RM s m args below meth c H locs cells slots lsA hC hR hH hS hc hs hl
  obtain ⟨hb, dom, hnd, hm, hP, hD⟩ := id hH
  have hc : cells + (b1 + 1) ≤ RM.cells := hc
  have hs : slots + (b2 + N) ≤ RM.slots := hs
  obtain ⟨ty0, hty⟩ := xtk cn CN T N hq
  have hK := hC.2.2.2.2.2.2.2.2.2.2
  have hts := hC.2.2.2.2.2.1
  refine va_new (fs := xfs cn (fun _ => 0) (fun _ => 0) (fun _ => none)) hC.1 hC.2.1 hts (xin cn CN T N hq) ty0 hty hC.2.2.2.2.1 (hts _ hcl) (hts _ hin) (hts _ hini) hK hP hD hS (fun q hq => Nat.le_trans hC.2.2.2.2.2.2.2.2.1 hq) hq (fun j hj => ?_) (by omega) (by omega) hd (fun q H1 hP1 hD1 hS1 => ?_)
  · obtain ⟨t, ht, h3⟩ := hf3 j hj
    have hlt := xft_lt ht
    have e1 := (xpd_of (k := j) hq).trans (hty j hj)
    unfold vp_V
    rw [List.getD_eq_getElem?_getD, xfs_get ht]
    rcases (show t = 0 ∨ t = 1 ∨ t = 2 by omega) with rfl | rfl | rfl
    · have := (xpd_0 cn hlt.1 j hlt.2 ht).symm.trans e1
      rw [← Option.some.inj this]; rfl
    · have := (xpd_1 cn hlt.1 j hlt.2 ht).symm.trans e1
      rw [← Option.some.inj this]; rfl
    · have h2 := xpd_2 cn hlt.1 j hlt.2 ht
      rw [e1] at h2
      have h2 : xref (ty0 j) = true := h2
      cases hz : ty0 j <;> rw [hz] at h2 <;> first | (cases h2; done) | rfl
  · exact kk q p l e RM s m args below meth c H1 locs (cells + 1) (slots + N) lsA hC hR (xH_new (H := H) (Nat.le_trans hC.2.2.2.2.2.2.2.2.1 hS1.1) hnd hm (by rw [xE_nO hg]; exact hP1) (by rw [xE_nO hg]; exact hD1)) hS1 (by show cells + 1 + b1 ≤ _; omega) (by show slots + N + b2 ≤ _; omega) hl
/-- Object.<init> -/
theorem x_objinit {a : Nat} (hd : decode y.2.1 pc = .ok (.invokespecial idx, 3)) (hw : Cond.methodLink y.1.cls idx Lib.objectInit ∈ xTBL) (hst : (st.map fun v => v.category).sum ≤ 8) (kk : X G y (d + 1) B (pc + 3) ls st M Q) : X G y (d + 1) B pc ls (.ref a :: st) M Q := by
  intro p l e RM s m args below meth c H locs cells slots lsA hC hR hH hS hc hs hl
  have hts := hC.2.2.2.2.2.1
  refine W.objInit hC.1 hC.2.1 hC.2.2.2.2.1 (hts _ hw) (hts _ (xm1 31 rfl rfl)) (hts _ (xm1 32 rfl rfl)) (g := F0 m pc lsA (.ref a :: st)) rfl (hl.1.trans hC.2.2.2.1.symm) rfl hd (by have := hR.1; omega) (Nat.le_trans (Nat.add_le_add_right (lv_room hst) 12) (by have := hR.2.1; omega)) ?_
  exact kk p l e RM s m args below meth c H locs cells slots lsA hC hR hH hS hc hs hl
/-- a constructor that answers nothing -/
theorem x_civ {y' : xY} {mc ms n a : Nat} {As st0 : List Value} {P : xM → Prop} (hM : Mt G y' d (mc, ms) (.ref a :: As) M (qV P)) (hcv : xCI y.1.cls idx y' n) (hd : decode y.2.1 pc = .ok (.invokespecial idx, 3)) (hn : As.length = n) (hst : st0 = As.reverse ++ .ref a :: st) (hs8 : (st.map fun v => v.category).sum ≤ 8) (kk : ∀ M', P M' → X G y (d + 1) (b1, b2) (pc + 3) ls st M' Q) : X G y (d + 1) (b1 + mc, b2 + ms) pc ls st0 M Q := x_callI hM hcv hd hn hst hs8 (fun v M' h => by obtain ⟨rfl, h⟩ := h; exact kk M' h)
end M48
section M48b
variable {G : xG} {y : xY} {d : Nat} {B : Nat × Nat} {pc idx k : Nat} {ls : List (Nat × Option Value)} {st : List Value} {Q : xTg} {ad : Nat → Nat → Nat} {C : Nat → Nat} {I : Nat → Nat → Nat → Int32} {L : Nat → Nat → Nat → Int64} {R : Nat → Nat → Nat → Option Nat} {g i : Nat}
/-- a field of one's own -/
def xFS (own : String) (idx c k : Nat) : Prop := ∃ (C : String) (T : u_T) (N : Nat), vwCl[c]? = some (C, T, N) ∧ k < N ∧ (T k).1 = C ∧ C = own ∧ Cond.fieldLink own idx C (T k).2.1 (T k).2.2.1 ∈ xTBL
/-- a final field of one's own, in the constructor -/
theorem x_putRF {cn : Nat} {v : Option Nat} (hf : xFS y.1.cls idx cn k) (hd : decode y.2.1 pc = .ok (.putfield idx, 3)) (hg : xsh g = .inr cn) (ht : (xft cn)[k]? = some 2) (hn : xfin cn k = true) (hin : y.1.name = "<init>") (hi : i < C g) (kk : X G y d B (pc + 3) ls st (ad, C, I, L, xu R g i k v) Q) : X G y d B pc ls (va_rf v :: .ref (ad g i) :: st) (ad, C, I, L, R) Q := by
  intro p l e RM s m args below meth c H locs cells slots lsA hC hR hH hS hc hs hl
  obtain ⟨hb, dom, hnd, hm, hP, hD⟩ := id hH
  obtain ⟨q0, hq0, hw⟩ := xw_get (G := G) (M := (ad, C, I, L, R)) ((hm g i).mpr hi)
  rw [xE_o hg] at hw
  obtain ⟨CC, T, N, hq, hk, hdecl, e9, hlink⟩ := hf
  obtain ⟨ty0, hty⟩ := xtk cn CC T N hq
  have hlt := xft_lt ht
  have hp2 := xpd_2 cn hlt.1 k hlt.2 ht
  rw [xpd_of hq] at hp2
  obtain ⟨tyr, hpd, hrf⟩ : ∃ t, parseFieldDescriptor (T k).2.2.1 = some t ∧ xref t = true := by
    cases hz : parseFieldDescriptor (T k).2.2.1 with
    | none => rw [hz] at hp2; cases hp2
    | some t => rw [hz] at hp2; exact ⟨t, rfl, hp2⟩
  have hnar : narrow tyr (va_rf v) = va_rf v := by cases tyr <;> first | (cases hrf; done) | (cases v <;> rfl)
  have hfit : fits tyr (va_rf v) = true := by cases tyr <;> first | (cases hrf; done) | (cases v <;> rfl)
  have hfin : (T k).2.2.2 = true := (xfin_of hq).symm.trans hn
  have hlen : k < (xfs cn (I g i) (L g i) (R g i)).length := by rw [xfs_len]; exact (List.getElem?_eq_some_iff.mp ht).1
  have hset : (xw G (ad, C, I, L, R) dom).set q0 (ad g i, .inr (cn, (xfs cn (I g i) (L g i) (R g i)).set k (va_rf v))) = xw G (ad, C, I, L, xu R g i k v) dom := by
    refine xw_set (M' := (ad, C, I, L, xu R g i k v)) hnd hq0 rfl ?_ ?_
    · rw [xE_o hg, xfs_setR ht]
      have : xu R g i k v g i = fun a => if a = k then v else R g i a := funext fun a => xu_at
      show (Sum.inr (cn, _) : va_E) = _
      simp only [this]
    · intro a b _ hne
      have : xu R g i k v a b = R a b := funext fun z => xu_n (fun q => hne ⟨q.1, q.2.1⟩)
      unfold xE
      simp only [this]
  have fin : ∀ (H1 : Heap) (locs1 : List Loc), va_P G.1 vwCl ((xw G (ad, C, I, L, R) dom).set q0 (ad g i, .inr (cn, (xfs cn (I g i) (L g i) (R g i)).set k (va_rf v)))) H1 → va_D (xA G) ((xw G (ad, C, I, L, R) dom).set q0 (ad g i, .inr (cn, (xfs cn (I g i) (L g i) (R g i)).set k (va_rf v)))) → va_S (xA G) s.heap H1 locs1 → W p l e RM s m args below meth c H1 locs1 cells slots (Q below args s RM.cells RM.slots) (F0 m (pc + 3) lsA st) := by
    intro H1 locs1 h1 h2 h3
    rw [hset] at h1 h2
    exact kk p l e RM s m args below meth c H1 locs1 cells slots lsA hC hR ⟨Nat.le_trans hC.2.2.2.2.2.2.2.2.1 h3.1, dom, hnd, hm, h1, h2⟩ h3 hc hs hl
  exact va_putF hC.1 hC.2.1 hC.2.2.2.2.2.1 (xin cn CC T N hq) ty0 hty (xnm cn CC T N hq) hC.2.2.2.2.1 hC.2.2.2.2.2.2.2.2.2.2 hP hD hS q0 hw hq k hk (hC.2.2.2.2.2.1 _ hlink) (fun z h => by rw [hdecl] at h; exact h) hfin (hC.2.2.2.2.2.2.2.1.1.trans hin) (hdecl.trans e9) hpd hnar hfit hlen hd fin
theorem fsX0_15 : xFS RX0 15 0 1 := ⟨RX0, TX0, 8, rfl, by decide, rfl, rfl, xm2 41 rfl rfl⟩
theorem fsX0_19 : xFS RX0 19 0 4 := ⟨RX0, TX0, 8, rfl, by decide, rfl, rfl, xm2 48 rfl rfl⟩
theorem fsX0_22 : xFS RX0 22 0 5 := ⟨RX0, TX0, 8, rfl, by decide, rfl, rfl, xm2 49 rfl rfl⟩
theorem fsX0_26 : xFS RX0 26 0 7 := ⟨RX0, TX0, 8, rfl, by decide, rfl, rfl, xm2 51 rfl rfl⟩
theorem fsX0_29 : xFS RX0 29 0 0 := ⟨RX0, TX0, 8, rfl, by decide, rfl, rfl, xm2 40 rfl rfl⟩
theorem fsX1_9 : xFS RX1 9 1 1 := ⟨RX1, TX1, 3, rfl, by decide, rfl, rfl, xm1 227 rfl rfl⟩
theorem fsX1_15 : xFS RX1 15 1 0 := ⟨RX1, TX1, 3, rfl, by decide, rfl, rfl, xm1 226 rfl rfl⟩
theorem fsX2_9 : xFS RX2 9 2 0 := ⟨RX2, TX2, 18, rfl, by decide, rfl, rfl, xm1 41 rfl rfl⟩
theorem fsX2_15 : xFS RX2 15 2 1 := ⟨RX2, TX2, 18, rfl, by decide, rfl, rfl, xm1 49 rfl rfl⟩
theorem fsX2_18 : xFS RX2 18 2 2 := ⟨RX2, TX2, 18, rfl, by decide, rfl, rfl, xm1 53 rfl rfl⟩
theorem fsX2_21 : xFS RX2 21 2 3 := ⟨RX2, TX2, 18, rfl, by decide, rfl, rfl, xm1 57 rfl rfl⟩
theorem fsX2_24 : xFS RX2 24 2 4 := ⟨RX2, TX2, 18, rfl, by decide, rfl, rfl, xm1 61 rfl rfl⟩
theorem fsX2_27 : xFS RX2 27 2 5 := ⟨RX2, TX2, 18, rfl, by decide, rfl, rfl, xm1 64 rfl rfl⟩
theorem fsX2_30 : xFS RX2 30 2 6 := ⟨RX2, TX2, 18, rfl, by decide, rfl, rfl, xm1 68 rfl rfl⟩
theorem fsX2_35 : xFS RX2 35 2 7 := ⟨RX2, TX2, 18, rfl, by decide, rfl, rfl, xm1 73 rfl rfl⟩
theorem fsX2_38 : xFS RX2 38 2 8 := ⟨RX2, TX2, 18, rfl, by decide, rfl, rfl, xm1 79 rfl rfl⟩
theorem fsX2_41 : xFS RX2 41 2 9 := ⟨RX2, TX2, 18, rfl, by decide, rfl, rfl, xm1 82 rfl rfl⟩
theorem fsX2_44 : xFS RX2 44 2 10 := ⟨RX2, TX2, 18, rfl, by decide, rfl, rfl, xm1 86 rfl rfl⟩
theorem fsX2_47 : xFS RX2 47 2 11 := ⟨RX2, TX2, 18, rfl, by decide, rfl, rfl, xm1 89 rfl rfl⟩
theorem fsX2_50 : xFS RX2 50 2 12 := ⟨RX2, TX2, 18, rfl, by decide, rfl, rfl, xm1 92 rfl rfl⟩
theorem fsX2_53 : xFS RX2 53 2 13 := ⟨RX2, TX2, 18, rfl, by decide, rfl, rfl, xm1 95 rfl rfl⟩
theorem fsX2_56 : xFS RX2 56 2 14 := ⟨RX2, TX2, 18, rfl, by decide, rfl, rfl, xm1 99 rfl rfl⟩
theorem fsX2_59 : xFS RX2 59 2 15 := ⟨RX2, TX2, 18, rfl, by decide, rfl, rfl, xm1 102 rfl rfl⟩
theorem fsX2_62 : xFS RX2 62 2 16 := ⟨RX2, TX2, 18, rfl, by decide, rfl, rfl, xm1 105 rfl rfl⟩
theorem fsX2_65 : xFS RX2 65 2 17 := ⟨RX2, TX2, 18, rfl, by decide, rfl, rfl, xm1 108 rfl rfl⟩
theorem fsX3_13 : xFS RX3 13 3 5 := ⟨RX3, TX3, 6, rfl, by decide, rfl, rfl, xm2 214 rfl rfl⟩
theorem fsX3_18 : xFS RX3 18 3 0 := ⟨RX3, TX3, 6, rfl, by decide, rfl, rfl, xm2 207 rfl rfl⟩
theorem fsX3_22 : xFS RX3 22 3 1 := ⟨RX3, TX3, 6, rfl, by decide, rfl, rfl, xm2 208 rfl rfl⟩
theorem fsX3_26 : xFS RX3 26 3 2 := ⟨RX3, TX3, 6, rfl, by decide, rfl, rfl, xm2 209 rfl rfl⟩
theorem fsX4_9 : xFS RX4 9 4 3 := ⟨RX4, TX4, 4, rfl, by decide, rfl, rfl, xm2 25 rfl rfl⟩
theorem fsX5_9 : xFS RX5 9 5 3 := ⟨RX5, TX5, 5, rfl, by decide, rfl, rfl, xm2 186 rfl rfl⟩
theorem fsX5_15 : xFS RX5 15 5 4 := ⟨RX5, TX5, 5, rfl, by decide, rfl, rfl, xm2 188 rfl rfl⟩
theorem fsX5_18 : xFS RX5 18 5 0 := ⟨RX5, TX5, 5, rfl, by decide, rfl, rfl, xm2 182 rfl rfl⟩
theorem fsX5_22 : xFS RX5 22 5 1 := ⟨RX5, TX5, 5, rfl, by decide, rfl, rfl, xm2 183 rfl rfl⟩
theorem fsX6_12 : xFS RX6 12 6 0 := ⟨RX6, TX6, 10, rfl, by decide, rfl, rfl, xm1 186 rfl rfl⟩
theorem fsX6_18 : xFS RX6 18 6 4 := ⟨RX6, TX6, 10, rfl, by decide, rfl, rfl, xm1 193 rfl rfl⟩
theorem fsX6_22 : xFS RX6 22 6 5 := ⟨RX6, TX6, 10, rfl, by decide, rfl, rfl, xm1 194 rfl rfl⟩
theorem fsX6_26 : xFS RX6 26 6 6 := ⟨RX6, TX6, 10, rfl, by decide, rfl, rfl, xm1 195 rfl rfl⟩
theorem fsX6_34 : xFS RX6 34 6 3 := ⟨RX6, TX6, 10, rfl, by decide, rfl, rfl, xm1 192 rfl rfl⟩
theorem fsX7_9 : xFS RX7 9 7 0 := ⟨RX7, TX7, 6, rfl, by decide, rfl, rfl, xm1 163 rfl rfl⟩
theorem fsX8_11 : xFS RX8 11 8 6 := ⟨RX8, TX8, 9, rfl, by decide, rfl, rfl, xm2 153 rfl rfl⟩
theorem fsX8_15 : xFS RX8 15 8 7 := ⟨RX8, TX8, 9, rfl, by decide, rfl, rfl, xm2 155 rfl rfl⟩
theorem fsX8_20 : xFS RX8 20 8 8 := ⟨RX8, TX8, 9, rfl, by decide, rfl, rfl, xm2 156 rfl rfl⟩
theorem fsX8_23 : xFS RX8 23 8 0 := ⟨RX8, TX8, 9, rfl, by decide, rfl, rfl, xm2 143 rfl rfl⟩
theorem fsX8_27 : xFS RX8 27 8 1 := ⟨RX8, TX8, 9, rfl, by decide, rfl, rfl, xm2 144 rfl rfl⟩
theorem fsX9_9 : xFS RX9 9 9 3 := ⟨RX9, TX9, 5, rfl, by decide, rfl, rfl, xm2 78 rfl rfl⟩
theorem fsX9_15 : xFS RX9 15 9 0 := ⟨RX9, TX9, 5, rfl, by decide, rfl, rfl, xm2 75 rfl rfl⟩
theorem fsX9_19 : xFS RX9 19 9 1 := ⟨RX9, TX9, 5, rfl, by decide, rfl, rfl, xm2 76 rfl rfl⟩
theorem fsX9_23 : xFS RX9 23 9 2 := ⟨RX9, TX9, 5, rfl, by decide, rfl, rfl, xm2 77 rfl rfl⟩
theorem fsX10_11 : xFS RX10 11 10 3 := ⟨RX10, TX10, 9, rfl, by decide, rfl, rfl, xm2 105 rfl rfl⟩
theorem fsX10_17 : xFS RX10 17 10 4 := ⟨RX10, TX10, 9, rfl, by decide, rfl, rfl, xm2 108 rfl rfl⟩
theorem fsX10_20 : xFS RX10 20 10 5 := ⟨RX10, TX10, 9, rfl, by decide, rfl, rfl, xm2 111 rfl rfl⟩
theorem fsX10_23 : xFS RX10 23 10 6 := ⟨RX10, TX10, 9, rfl, by decide, rfl, rfl, xm2 113 rfl rfl⟩
theorem fsX10_26 : xFS RX10 26 10 7 := ⟨RX10, TX10, 9, rfl, by decide, rfl, rfl, xm2 115 rfl rfl⟩
theorem fsX10_29 : xFS RX10 29 10 8 := ⟨RX10, TX10, 9, rfl, by decide, rfl, rfl, xm2 116 rfl rfl⟩
theorem fsX10_32 : xFS RX10 32 10 0 := ⟨RX10, TX10, 9, rfl, by decide, rfl, rfl, xm2 101 rfl rfl⟩
theorem fsX10_36 : xFS RX10 36 10 1 := ⟨RX10, TX10, 9, rfl, by decide, rfl, rfl, xm2 102 rfl rfl⟩
theorem fsX11_9 : xFS RX11 9 11 0 := ⟨RX11, TX11, 15, rfl, by decide, rfl, rfl, xm2 228 rfl rfl⟩
theorem fsX11_16 : xFS RX11 16 11 2 := ⟨RX11, TX11, 15, rfl, by decide, rfl, rfl, xm2 230 rfl rfl⟩
theorem fsX11_25 : xFS RX11 25 11 3 := ⟨RX11, TX11, 15, rfl, by decide, rfl, rfl, xm2 231 rfl rfl⟩
theorem fsX11_34 : xFS RX11 34 11 4 := ⟨RX11, TX11, 15, rfl, by decide, rfl, rfl, xm2 232 rfl rfl⟩
theorem fsX11_41 : xFS RX11 41 11 5 := ⟨RX11, TX11, 15, rfl, by decide, rfl, rfl, xm2 233 rfl rfl⟩
theorem fsX11_50 : xFS RX11 50 11 6 := ⟨RX11, TX11, 15, rfl, by decide, rfl, rfl, xm2 234 rfl rfl⟩
theorem fsX11_59 : xFS RX11 59 11 7 := ⟨RX11, TX11, 15, rfl, by decide, rfl, rfl, xm2 235 rfl rfl⟩
theorem fsX11_66 : xFS RX11 66 11 8 := ⟨RX11, TX11, 15, rfl, by decide, rfl, rfl, xm2 236 rfl rfl⟩
theorem fsX11_75 : xFS RX11 75 11 9 := ⟨RX11, TX11, 15, rfl, by decide, rfl, rfl, xm2 237 rfl rfl⟩
theorem fsX11_84 : xFS RX11 84 11 10 := ⟨RX11, TX11, 15, rfl, by decide, rfl, rfl, xm2 238 rfl rfl⟩
theorem fsX11_88 : xFS RX11 88 11 11 := ⟨RX11, TX11, 15, rfl, by decide, rfl, rfl, xm2 239 rfl rfl⟩
theorem fsX12_9 : xFS RX12 9 12 13 := ⟨RX12, TX12, 33, rfl, by decide, rfl, rfl, xm6 160 rfl rfl⟩
theorem fsX12_15 : xFS RX12 15 12 14 := ⟨RX12, TX12, 33, rfl, by decide, rfl, rfl, xm6 162 rfl rfl⟩
theorem fsX12_18 : xFS RX12 18 12 15 := ⟨RX12, TX12, 33, rfl, by decide, rfl, rfl, xm6 164 rfl rfl⟩
theorem fsX12_21 : xFS RX12 21 12 16 := ⟨RX12, TX12, 33, rfl, by decide, rfl, rfl, xm6 166 rfl rfl⟩
theorem fsX12_24 : xFS RX12 24 12 17 := ⟨RX12, TX12, 33, rfl, by decide, rfl, rfl, xm6 168 rfl rfl⟩
theorem fsX12_27 : xFS RX12 27 12 18 := ⟨RX12, TX12, 33, rfl, by decide, rfl, rfl, xm6 170 rfl rfl⟩
theorem fsX12_30 : xFS RX12 30 12 19 := ⟨RX12, TX12, 33, rfl, by decide, rfl, rfl, xm6 172 rfl rfl⟩
theorem fsX12_33 : xFS RX12 33 12 20 := ⟨RX12, TX12, 33, rfl, by decide, rfl, rfl, xm6 174 rfl rfl⟩
theorem fsX12_36 : xFS RX12 36 12 21 := ⟨RX12, TX12, 33, rfl, by decide, rfl, rfl, xm6 176 rfl rfl⟩
theorem fsX12_39 : xFS RX12 39 12 22 := ⟨RX12, TX12, 33, rfl, by decide, rfl, rfl, xm6 178 rfl rfl⟩
theorem fsX12_42 : xFS RX12 42 12 23 := ⟨RX12, TX12, 33, rfl, by decide, rfl, rfl, xm6 180 rfl rfl⟩
theorem fsX12_45 : xFS RX12 45 12 24 := ⟨RX12, TX12, 33, rfl, by decide, rfl, rfl, xm6 182 rfl rfl⟩
theorem fsX12_48 : xFS RX12 48 12 25 := ⟨RX12, TX12, 33, rfl, by decide, rfl, rfl, xm6 184 rfl rfl⟩
theorem fsX12_51 : xFS RX12 51 12 26 := ⟨RX12, TX12, 33, rfl, by decide, rfl, rfl, xm6 186 rfl rfl⟩
theorem fsX12_54 : xFS RX12 54 12 27 := ⟨RX12, TX12, 33, rfl, by decide, rfl, rfl, xm6 188 rfl rfl⟩
theorem fsX12_57 : xFS RX12 57 12 28 := ⟨RX12, TX12, 33, rfl, by decide, rfl, rfl, xm6 190 rfl rfl⟩
theorem fsX12_60 : xFS RX12 60 12 29 := ⟨RX12, TX12, 33, rfl, by decide, rfl, rfl, xm6 192 rfl rfl⟩
theorem fsX12_63 : xFS RX12 63 12 30 := ⟨RX12, TX12, 33, rfl, by decide, rfl, rfl, xm6 194 rfl rfl⟩
theorem fsX12_67 : xFS RX12 67 12 31 := ⟨RX12, TX12, 33, rfl, by decide, rfl, rfl, xm6 196 rfl rfl⟩
theorem fsX12_70 : xFS RX12 70 12 32 := ⟨RX12, TX12, 33, rfl, by decide, rfl, rfl, xm6 198 rfl rfl⟩
theorem fsX13_13 : xFS RX13 13 13 5 := ⟨RX13, TX13, 42, rfl, by decide, rfl, rfl, xm6 2 rfl rfl⟩
theorem fsX13_17 : xFS RX13 17 13 16 := ⟨RX13, TX13, 42, rfl, by decide, rfl, rfl, xm6 13 rfl rfl⟩
theorem fsX13_21 : xFS RX13 21 13 17 := ⟨RX13, TX13, 42, rfl, by decide, rfl, rfl, xm6 14 rfl rfl⟩
theorem fsX13_24 : xFS RX13 24 13 18 := ⟨RX13, TX13, 42, rfl, by decide, rfl, rfl, xm6 15 rfl rfl⟩
theorem fsX13_27 : xFS RX13 27 13 21 := ⟨RX13, TX13, 42, rfl, by decide, rfl, rfl, xm6 18 rfl rfl⟩
theorem fsX13_30 : xFS RX13 30 13 22 := ⟨RX13, TX13, 42, rfl, by decide, rfl, rfl, xm6 19 rfl rfl⟩
theorem fsX13_33 : xFS RX13 33 13 23 := ⟨RX13, TX13, 42, rfl, by decide, rfl, rfl, xm6 20 rfl rfl⟩
theorem fsX13_36 : xFS RX13 36 13 24 := ⟨RX13, TX13, 42, rfl, by decide, rfl, rfl, xm6 21 rfl rfl⟩
theorem fsX13_39 : xFS RX13 39 13 25 := ⟨RX13, TX13, 42, rfl, by decide, rfl, rfl, xm6 22 rfl rfl⟩
theorem fsX13_42 : xFS RX13 42 13 26 := ⟨RX13, TX13, 42, rfl, by decide, rfl, rfl, xm6 23 rfl rfl⟩
theorem fsX13_45 : xFS RX13 45 13 27 := ⟨RX13, TX13, 42, rfl, by decide, rfl, rfl, xm6 24 rfl rfl⟩
theorem fsX13_48 : xFS RX13 48 13 28 := ⟨RX13, TX13, 42, rfl, by decide, rfl, rfl, xm6 25 rfl rfl⟩
theorem fsX13_51 : xFS RX13 51 13 29 := ⟨RX13, TX13, 42, rfl, by decide, rfl, rfl, xm6 26 rfl rfl⟩
theorem fsX13_54 : xFS RX13 54 13 30 := ⟨RX13, TX13, 42, rfl, by decide, rfl, rfl, xm6 27 rfl rfl⟩
theorem fsX13_57 : xFS RX13 57 13 32 := ⟨RX13, TX13, 42, rfl, by decide, rfl, rfl, xm6 29 rfl rfl⟩
theorem fsX13_60 : xFS RX13 60 13 33 := ⟨RX13, TX13, 42, rfl, by decide, rfl, rfl, xm6 30 rfl rfl⟩
theorem fsX13_63 : xFS RX13 63 13 38 := ⟨RX13, TX13, 42, rfl, by decide, rfl, rfl, xm6 35 rfl rfl⟩
theorem fsX13_66 : xFS RX13 66 13 39 := ⟨RX13, TX13, 42, rfl, by decide, rfl, rfl, xm6 36 rfl rfl⟩
theorem fsX13_69 : xFS RX13 69 13 40 := ⟨RX13, TX13, 42, rfl, by decide, rfl, rfl, xm6 37 rfl rfl⟩
end M48b
