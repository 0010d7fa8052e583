
def xfin (c k : Nat) : Bool := match vwCl[c]? with
  | some q => (q.2.1 k).2.2.2
  | none => true
def xpd (c k : Nat) : Option FieldType := match vwCl[c]? with
  | some q => parseFieldDescriptor (q.2.1 k).2.2.1
  | none => none
def xref (t : FieldType) : Bool := match t with
  | .object _ => true
  | .array _ => true
  | _ => false
set_option maxRecDepth 100000 in
theorem xpd_0 : ∀ c, c < 14 → ∀ k, k < 42 → (xft c)[k]? = some 0 → xpd c k = some .int := by decide +kernel
set_option maxRecDepth 100000 in
theorem xpd_1 : ∀ c, c < 14 → ∀ k, k < 42 → (xft c)[k]? = some 1 → xpd c k = some .long := by decide +kernel
set_option maxRecDepth 100000 in
theorem xpd_2 : ∀ c, c < 14 → ∀ k, k < 42 → (xft c)[k]? = some 2 → (match xpd c k with | some t => xref t | none => false) = true := by decide +kernel
theorem xft_lt {c k t : Nat} (h : (xft c)[k]? = some t) : c < 14 ∧ k < 42 := by
  have hc : c < 14 := by
    rcases Nat.lt_or_ge c 14 with q | q
    · exact q
    · have : xft c = [] := by
        unfold xft
        rw [List.getD_eq_getElem?_getD, List.getElem?_eq_none (by exact q)]
        rfl
      rw [this] at h
      simp at h
  refine ⟨hc, ?_⟩
  have hk := (List.getElem?_eq_some_iff.mp h).1
  have : ∀ c, c < 14 → (xft c).length ≤ 42 := by decide +kernel
  have := this c hc
  omega
/-- a field of a kind, by a number of the pool -/
def xFL (own : String) (idx c k : Nat) : Prop := ∃ (C : String) (T : u_T) (N : Nat), vwCl[c]? = some (C, T, N) ∧ k < N ∧ (T k).1 = C ∧ (Cond.fieldLink own idx C (T k).2.1 (T k).2.2.1 ∈ xTBL ∨ ∃ host, (own, idx, C, (T k).2.1, (T k).2.2.1, host) ∈ xNFL)
theorem xpd_of {c k : Nat} {C : String} {T : u_T} {N : Nat} (h : vwCl[c]? = some (C, T, N)) : xpd c k = parseFieldDescriptor (T k).2.2.1 := by unfold xpd; rw [h]
theorem xfin_of {c k : Nat} {C : String} {T : u_T} {N : Nat} (h : vwCl[c]? = some (C, T, N)) : xfin c k = (T k).2.2.2 := by unfold xfin; rw [h]
theorem xsh_small {s t n : Nat} (h : xsh s = .inl (t, n)) : n < 2 ^ 31 := by
  have key : ∀ e ∈ xshL, (match e with | .inl q => decide (q.2 < 2 ^ 31) | .inr _ => true) = true := by decide +kernel
  unfold xsh at h
  rw [List.getD_eq_getElem?_getD] at h
  cases hx : xshL[s]? with
  | none => rw [hx] at h; cases h
  | some e =>
    rw [hx] at h
    have h1 := key e (List.mem_of_getElem? hx)
    have : e = .inl (t, n) := h
    rw [this] at h1
    simpa using h1
section XM
variable {G : xG} {y : xY} {d : Nat} {B : Nat × Nat} {pc : Nat} {ls : List (Nat × Option Value)} {st : List Value} {Q : xTg} {ad : Nat → Nat → Nat} {C : Nat → Nat} {I : Nat → Nat → Nat → Int32} {L : Nat → Nat → Nat → Int64} {R : Nat → Nat → Nat → Option Nat} {g i k idx n j : Nat}

theorem x_get {cn t : Nat} (hf : xFL y.1.cls idx cn k) (hd : decode y.2.1 pc = .ok (.getfield idx, 3)) (hg : xsh g = .inr cn) (ht : (xft cn)[k]? = some t) (hi : i < C g) (kk : X G y d B (pc + 3) ls (xfv t (I g i k) (L g i k) (R g i k) :: st) (ad, C, I, L, R) Q) : X G y d B pc ls (.ref (ad g i) :: st) (ad, C, I, L, R) Q := by
  intro p l e RM s m args below meth c H locs cells slots lsA hC hR hH hS hc hs hl
  obtain ⟨hb, dom, hnd, hm, hP, hD⟩ := id hH
  obtain ⟨q0, hq0, hw⟩ := xw_get (G := G) (M := (ad, C, I, L, R)) ((hm g i).mpr hi)
  rw [xE_o hg] at hw
  obtain ⟨CC, T, N, hq, hk, hdecl, hlink⟩ := hf
  rcases hlink with hlink | ⟨host, hlink⟩
  · exact va_get hC.1 hC.2.1 hC.2.2.2.2.2.1 (xin cn CC T N hq) hC.2.2.2.2.1 hC.2.2.2.2.2.2.2.2.2.2 hP q0 hw hq k hk (hC.2.2.2.2.2.1 _ hlink) (fun z h => by rw [hdecl] at h; exact h) (xfs_get ht) hd (kk p l e RM s m args below meth c H locs cells slots lsA hC hR hH hS hc hs hl)
  · exact va_getN hC.1 hC.2.1 hC.2.2.2.2.2.1 (xin cn CC T N hq) hC.2.2.2.2.1 hC.2.2.2.2.2.2.2.2.2.2 hP q0 hw hq k hk (va_Nw.use rfl (hC.2.2.2.2.2.2.2.2.2.1.2.2.2.2.2.2.2.2.1 _ hlink)) (fun z h => by rw [hdecl] at h; exact h) (xfs_get ht) hd (kk p l e RM s m args below meth c H locs cells slots lsA hC hR hH hS hc hs hl)
theorem x_putI {cn : Nat} {v : Int32} (hf : xFL y.1.cls idx cn k) (hd : decode y.2.1 pc = .ok (.putfield idx, 3)) (hg : xsh g = .inr cn) (ht : (xft cn)[k]? = some 0) (hn : xfin cn k = false) (hi : i < C g) (kk : X G y d B (pc + 3) ls st (ad, C, xu I g i k v, L, R) Q) : X G y d B pc ls (.int v :: .ref (ad g i) :: st) (ad, C, I, L, R) Q := by
  intro p l e RM s m args below meth c H locs cells slots lsA hC hR hH hS hc hs hl
  obtain ⟨hb, dom, hnd, hm, hP, hD⟩ := id hH
  obtain ⟨q0, hq0, hw⟩ := xw_get (G := G) (M := (ad, C, I, L, R)) ((hm g i).mpr hi)
  rw [xE_o hg] at hw
  obtain ⟨CC, T, N, hq, hk, hdecl, hlink⟩ := hf
  obtain ⟨ty0, hty⟩ := xtk cn CC T N hq
  have hlt := xft_lt ht
  have hpd : parseFieldDescriptor (T k).2.2.1 = some .int := (xpd_of hq).symm.trans (xpd_0 cn hlt.1 k hlt.2 ht)
  have hfin : (T k).2.2.2 = false := (xfin_of hq).symm.trans hn
  have hlen : k < (xfs cn (I g i) (L g i) (R g i)).length := by rw [xfs_len]; exact (List.getElem?_eq_some_iff.mp ht).1
  have hset : (xw G (ad, C, I, L, R) dom).set q0 (ad g i, .inr (cn, (xfs cn (I g i) (L g i) (R g i)).set k (.int v))) = xw G (ad, C, xu I g i k v, L, R) dom := by
    refine xw_set (M' := (ad, C, xu I g i k v, L, R)) hnd hq0 rfl ?_ ?_
    · rw [xE_o hg, xfs_setI ht]
      have : xu I g i k v g i = fun a => if a = k then v else I g i a := funext fun a => xu_at
      show (Sum.inr (cn, _) : va_E) = _
      simp only [this]
    · intro a b _ hne
      have : xu I g i k v a b = I a b := funext fun z => xu_n (fun q => hne ⟨q.1, q.2.1⟩)
      unfold xE
      simp only [this]
  have fin : ∀ (H1 : Heap) (locs1 : List Loc), va_P G.1 vwCl ((xw G (ad, C, I, L, R) dom).set q0 (ad g i, .inr (cn, (xfs cn (I g i) (L g i) (R g i)).set k (.int v)))) H1 → va_D (xA G) ((xw G (ad, C, I, L, R) dom).set q0 (ad g i, .inr (cn, (xfs cn (I g i) (L g i) (R g i)).set k (.int v)))) → va_S (xA G) s.heap H1 locs1 → W p l e RM s m args below meth c H1 locs1 cells slots (Q below args s RM.cells RM.slots) (F0 m (pc + 3) lsA st) := by
    intro H1 locs1 h1 h2 h3
    rw [hset] at h1 h2
    exact kk p l e RM s m args below meth c H1 locs1 cells slots lsA hC hR ⟨Nat.le_trans hC.2.2.2.2.2.2.2.2.1 h3.1, dom, hnd, hm, h1, h2⟩ h3 hc hs hl
  rcases hlink with hlink | ⟨host, hlink⟩
  · exact va_put hC.1 hC.2.1 hC.2.2.2.2.2.1 (xin cn CC T N hq) ty0 hty (xnm cn CC T N hq) hC.2.2.2.2.1 hC.2.2.2.2.2.2.2.2.2.2 hP hD hS q0 hw hq k hk (hC.2.2.2.2.2.1 _ hlink) (fun z h => by rw [hdecl] at h; exact h) hfin hpd rfl rfl hlen hd fin
  · exact va_putN hC.1 hC.2.1 hC.2.2.2.2.2.1 (xin cn CC T N hq) ty0 hty (xnm cn CC T N hq) hC.2.2.2.2.1 hC.2.2.2.2.2.2.2.2.2.2 hP hD hS q0 hw hq k hk (va_Nw.use rfl (hC.2.2.2.2.2.2.2.2.2.1.2.2.2.2.2.2.2.2.1 _ hlink)) (fun z h => by rw [hdecl] at h; exact h) hfin hpd rfl rfl hlen hd fin
theorem x_putL {cn : Nat} {v : Int64} (hf : xFL y.1.cls idx cn k) (hd : decode y.2.1 pc = .ok (.putfield idx, 3)) (hg : xsh g = .inr cn) (ht : (xft cn)[k]? = some 1) (hn : xfin cn k = false) (hi : i < C g) (kk : X G y d B (pc + 3) ls st (ad, C, I, xu L g i k v, R) Q) : X G y d B pc ls (.long v :: .ref (ad g i) :: st) (ad, C, I, L, R) Q := by
  intro p l e RM s m args below meth c H locs cells slots lsA hC hR hH hS hc hs hl
  obtain ⟨hb, dom, hnd, hm, hP, hD⟩ := id hH
  obtain ⟨q0, hq0, hw⟩ := xw_get (G := G) (M := (ad, C, I, L, R)) ((hm g i).mpr hi)
  rw [xE_o hg] at hw
  obtain ⟨CC, T, N, hq, hk, hdecl, hlink⟩ := hf
  obtain ⟨ty0, hty⟩ := xtk cn CC T N hq
  have hlt := xft_lt ht
  have hpd : parseFieldDescriptor (T k).2.2.1 = some .long := (xpd_of hq).symm.trans (xpd_1 cn hlt.1 k hlt.2 ht)
  have hfin : (T k).2.2.2 = false := (xfin_of hq).symm.trans hn
  have hlen : k < (xfs cn (I g i) (L g i) (R g i)).length := by rw [xfs_len]; exact (List.getElem?_eq_some_iff.mp ht).1
  have hset : (xw G (ad, C, I, L, R) dom).set q0 (ad g i, .inr (cn, (xfs cn (I g i) (L g i) (R g i)).set k (.long v))) = xw G (ad, C, I, xu L g i k v, R) dom := by
    refine xw_set (M' := (ad, C, I, xu L g i k v, R)) hnd hq0 rfl ?_ ?_
    · rw [xE_o hg, xfs_setL ht]
      have : xu L g i k v g i = fun a => if a = k then v else L g i a := funext fun a => xu_at
      show (Sum.inr (cn, _) : va_E) = _
      simp only [this]
    · intro a b _ hne
      have : xu L g i k v a b = L a b := funext fun z => xu_n (fun q => hne ⟨q.1, q.2.1⟩)
      unfold xE
      simp only [this]
  have fin : ∀ (H1 : Heap) (locs1 : List Loc), va_P G.1 vwCl ((xw G (ad, C, I, L, R) dom).set q0 (ad g i, .inr (cn, (xfs cn (I g i) (L g i) (R g i)).set k (.long v)))) H1 → va_D (xA G) ((xw G (ad, C, I, L, R) dom).set q0 (ad g i, .inr (cn, (xfs cn (I g i) (L g i) (R g i)).set k (.long v)))) → va_S (xA G) s.heap H1 locs1 → W p l e RM s m args below meth c H1 locs1 cells slots (Q below args s RM.cells RM.slots) (F0 m (pc + 3) lsA st) := by
    intro H1 locs1 h1 h2 h3
    rw [hset] at h1 h2
    exact kk p l e RM s m args below meth c H1 locs1 cells slots lsA hC hR ⟨Nat.le_trans hC.2.2.2.2.2.2.2.2.1 h3.1, dom, hnd, hm, h1, h2⟩ h3 hc hs hl
  rcases hlink with hlink | ⟨host, hlink⟩
  · exact va_put hC.1 hC.2.1 hC.2.2.2.2.2.1 (xin cn CC T N hq) ty0 hty (xnm cn CC T N hq) hC.2.2.2.2.1 hC.2.2.2.2.2.2.2.2.2.2 hP hD hS q0 hw hq k hk (hC.2.2.2.2.2.1 _ hlink) (fun z h => by rw [hdecl] at h; exact h) hfin hpd rfl rfl hlen hd fin
  · exact va_putN hC.1 hC.2.1 hC.2.2.2.2.2.1 (xin cn CC T N hq) ty0 hty (xnm cn CC T N hq) hC.2.2.2.2.1 hC.2.2.2.2.2.2.2.2.2.2 hP hD hS q0 hw hq k hk (va_Nw.use rfl (hC.2.2.2.2.2.2.2.2.2.1.2.2.2.2.2.2.2.2.1 _ hlink)) (fun z h => by rw [hdecl] at h; exact h) hfin hpd rfl rfl hlen hd fin
theorem x_putR {cn : Nat} {v : Option Nat} (hf : xFL y.1.cls idx cn k) (hd : decode y.2.1 pc = .ok (.putfield idx, 3)) (hg : xsh g = .inr cn) (ht : (xft cn)[k]? = some 2) (hn : xfin cn k = false) (hi : i < C g) (kk : X G y d B (pc + 3) ls st (ad, C, I, L, xu R g i k v) Q) : X G y d B pc ls (va_rf v :: .ref (ad g i) :: st) (ad, C, I, L, R) Q := by
  intro p l e RM s m args below meth c H locs cells slots lsA hC hR hH hS hc hs hl
  obtain ⟨hb, dom, hnd, hm, hP, hD⟩ := id hH
  obtain ⟨q0, hq0, hw⟩ := xw_get (G := G) (M := (ad, C, I, L, R)) ((hm g i).mpr hi)
  rw [xE_o hg] at hw
  obtain ⟨CC, T, N, hq, hk, hdecl, hlink⟩ := hf
  obtain ⟨ty0, hty⟩ := xtk cn CC T N hq
  have hlt := xft_lt ht
  have hp2 := xpd_2 cn hlt.1 k hlt.2 ht
  rw [xpd_of hq] at hp2
  obtain ⟨tyr, hpd, hrf⟩ : ∃ t, parseFieldDescriptor (T k).2.2.1 = some t ∧ xref t = true := by
    cases hz : parseFieldDescriptor (T k).2.2.1 with
    | none => rw [hz] at hp2; cases hp2
    | some t => rw [hz] at hp2; exact ⟨t, rfl, hp2⟩
  have hnar : narrow tyr (va_rf v) = va_rf v := by cases tyr <;> first | (cases hrf; done) | (cases v <;> rfl)
  have hfit : fits tyr (va_rf v) = true := by cases tyr <;> first | (cases hrf; done) | (cases v <;> rfl)
  have hfin : (T k).2.2.2 = false := (xfin_of hq).symm.trans hn
  have hlen : k < (xfs cn (I g i) (L g i) (R g i)).length := by rw [xfs_len]; exact (List.getElem?_eq_some_iff.mp ht).1
  have hset : (xw G (ad, C, I, L, R) dom).set q0 (ad g i, .inr (cn, (xfs cn (I g i) (L g i) (R g i)).set k (va_rf v))) = xw G (ad, C, I, L, xu R g i k v) dom := by
    refine xw_set (M' := (ad, C, I, L, xu R g i k v)) hnd hq0 rfl ?_ ?_
    · rw [xE_o hg, xfs_setR ht]
      have : xu R g i k v g i = fun a => if a = k then v else R g i a := funext fun a => xu_at
      show (Sum.inr (cn, _) : va_E) = _
      simp only [this]
    · intro a b _ hne
      have : xu R g i k v a b = R a b := funext fun z => xu_n (fun q => hne ⟨q.1, q.2.1⟩)
      unfold xE
      simp only [this]
  have fin : ∀ (H1 : Heap) (locs1 : List Loc), va_P G.1 vwCl ((xw G (ad, C, I, L, R) dom).set q0 (ad g i, .inr (cn, (xfs cn (I g i) (L g i) (R g i)).set k (va_rf v)))) H1 → va_D (xA G) ((xw G (ad, C, I, L, R) dom).set q0 (ad g i, .inr (cn, (xfs cn (I g i) (L g i) (R g i)).set k (va_rf v)))) → va_S (xA G) s.heap H1 locs1 → W p l e RM s m args below meth c H1 locs1 cells slots (Q below args s RM.cells RM.slots) (F0 m (pc + 3) lsA st) := by
    intro H1 locs1 h1 h2 h3
    rw [hset] at h1 h2
    exact kk p l e RM s m args below meth c H1 locs1 cells slots lsA hC hR ⟨Nat.le_trans hC.2.2.2.2.2.2.2.2.1 h3.1, dom, hnd, hm, h1, h2⟩ h3 hc hs hl
  rcases hlink with hlink | ⟨host, hlink⟩
  · exact va_put hC.1 hC.2.1 hC.2.2.2.2.2.1 (xin cn CC T N hq) ty0 hty (xnm cn CC T N hq) hC.2.2.2.2.1 hC.2.2.2.2.2.2.2.2.2.2 hP hD hS q0 hw hq k hk (hC.2.2.2.2.2.1 _ hlink) (fun z h => by rw [hdecl] at h; exact h) hfin hpd hnar hfit hlen hd fin
  · exact va_putN hC.1 hC.2.1 hC.2.2.2.2.2.1 (xin cn CC T N hq) ty0 hty (xnm cn CC T N hq) hC.2.2.2.2.1 hC.2.2.2.2.2.2.2.2.2.2 hP hD hS q0 hw hq k hk (va_Nw.use rfl (hC.2.2.2.2.2.2.2.2.2.1.2.2.2.2.2.2.2.2.1 _ hlink)) (fun z h => by rw [hdecl] at h; exact h) hfin hpd hnar hfit hlen hd fin
theorem x_iald {z : Int32} (hd : decode y.2.1 pc = .ok (.iaload, 1)) (hz : z = nI j) (hg : xsh g = .inl (0, n)) (hi : i < C g) (hj : j < n) (kk : X G y d B (pc + 1) ls (.int (I g i j) :: st) (ad, C, I, L, R) Q) : X G y d B pc ls (.int z :: .ref (ad g i) :: st) (ad, C, I, L, R) Q := by
  subst hz
  intro p l e RM s m args below meth c H locs cells slots lsA hC hR hH hS hc hs hl
  obtain ⟨hb, dom, hnd, hm, hP, hD⟩ := id hH
  obtain ⟨q0, hq0, hw⟩ := xw_get (G := G) (M := (ad, C, I, L, R)) ((hm g i).mpr hi)
  rw [xE_a hg] at hw
  have hn := xsh_small hg
  have hix := vp_in_nI hj hn
  have hcl := nI_clamp (Nat.lt_trans hj hn)
  exact va_iald hC.1 hC.2.1 hC.2.2.2.2.2.2.2.2.2.2 hP q0 0 hw rfl hix hd (by rw [hcl]; exact kk p l e RM s m args below meth c H locs cells slots lsA hC hR hH hS hc hs hl)
theorem x_bald {z : Int32} (hd : decode y.2.1 pc = .ok (.baload, 1)) (hz : z = nI j) (hg : xsh g = .inl (1, n)) (hi : i < C g) (hj : j < n) (kk : X G y d B (pc + 1) ls (.int (I g i j) :: st) (ad, C, I, L, R) Q) : X G y d B pc ls (.int z :: .ref (ad g i) :: st) (ad, C, I, L, R) Q := by
  subst hz
  intro p l e RM s m args below meth c H locs cells slots lsA hC hR hH hS hc hs hl
  obtain ⟨hb, dom, hnd, hm, hP, hD⟩ := id hH
  obtain ⟨q0, hq0, hw⟩ := xw_get (G := G) (M := (ad, C, I, L, R)) ((hm g i).mpr hi)
  rw [xE_a hg] at hw
  have hn := xsh_small hg
  have hix := vp_in_nI hj hn
  have hcl := nI_clamp (Nat.lt_trans hj hn)
  exact va_bald hC.1 hC.2.1 hC.2.2.2.2.2.2.2.2.2.2 hP q0 1 hw rfl hix hd (by rw [hcl]; exact kk p l e RM s m args below meth c H locs cells slots lsA hC hR hH hS hc hs hl)
theorem x_lald {z : Int32} (hd : decode y.2.1 pc = .ok (.laload, 1)) (hz : z = nI j) (hg : xsh g = .inl (2, n)) (hi : i < C g) (hj : j < n) (kk : X G y d B (pc + 1) ls (.long (L g i j) :: st) (ad, C, I, L, R) Q) : X G y d B pc ls (.int z :: .ref (ad g i) :: st) (ad, C, I, L, R) Q := by
  subst hz
  intro p l e RM s m args below meth c H locs cells slots lsA hC hR hH hS hc hs hl
  obtain ⟨hb, dom, hnd, hm, hP, hD⟩ := id hH
  obtain ⟨q0, hq0, hw⟩ := xw_get (G := G) (M := (ad, C, I, L, R)) ((hm g i).mpr hi)
  rw [xE_a hg] at hw
  have hn := xsh_small hg
  have hix := vp_in_nI hj hn
  have hcl := nI_clamp (Nat.lt_trans hj hn)
  exact va_lald hC.1 hC.2.1 hC.2.2.2.2.2.2.2.2.2.2 hP q0 2 hw rfl hix hd (by rw [hcl]; exact kk p l e RM s m args below meth c H locs cells slots lsA hC hR hH hS hc hs hl)
theorem x_aald {z : Int32} {t : Nat} (hd : decode y.2.1 pc = .ok (.aaload, 1)) (hz : z = nI j) (hg : xsh g = .inl (t, n)) (ht : t = 3 ∨ t = 4) (hi : i < C g) (hj : j < n) (kk : X G y d B (pc + 1) ls (va_rf (R g i j) :: st) (ad, C, I, L, R) Q) : X G y d B pc ls (.int z :: .ref (ad g i) :: st) (ad, C, I, L, R) Q := by
  subst hz
  intro p l e RM s m args below meth c H locs cells slots lsA hC hR hH hS hc hs hl
  obtain ⟨hb, dom, hnd, hm, hP, hD⟩ := id hH
  obtain ⟨q0, hq0, hw⟩ := xw_get (G := G) (M := (ad, C, I, L, R)) ((hm g i).mpr hi)
  rw [xE_a hg] at hw
  have hn := xsh_small hg
  have hix := vp_in_nI hj hn
  have hcl := nI_clamp (Nat.lt_trans hj hn)
  have k1 := kk p l e RM s m args below meth c H locs cells slots lsA hC hR hH hS hc hs hl
  rcases ht with rfl | rfl
  · exact va_aldq hC.1 hC.2.1 hC.2.2.2.2.2.2.2.2.2.2 hP q0 3 hw rfl hix hd (by rw [hcl]; exact k1)
  · exact W.aald (v := va_rf (R g i j)) (ty := .array .int) hC.1 hC.2.1 (hP q0 _ hw) ((hC.2.2.2.2.2.2.2.2.2.2.2 4 _ rfl).1 n (fun j => va_rf (R g i j))) rfl (fun q => by cases q) (by show ¬ (nI j < 0 ∨ (arrV _ _ _).slots.size ≤ _); rw [arrV_size]; exact hix) (by show (arrV _ _ _).slots[_]? = _; rw [hcl, arrV_read _ _ hj]) rfl rfl hd k1
theorem x_alen {t : Nat} (hd : decode y.2.1 pc = .ok (.arraylength, 1)) (hg : xsh g = .inl (t, n)) (ht : t < 5) (hi : i < C g) (kk : X G y d B (pc + 1) ls (.int (nI n) :: st) (ad, C, I, L, R) Q) : X G y d B pc ls (.ref (ad g i) :: st) (ad, C, I, L, R) Q := by
  intro p l e RM s m args below meth c H locs cells slots lsA hC hR hH hS hc hs hl
  obtain ⟨hb, dom, hnd, hm, hP, hD⟩ := id hH
  obtain ⟨q0, hq0, hw⟩ := xw_get (G := G) (M := (ad, C, I, L, R)) ((hm g i).mpr hi)
  rw [xE_a hg] at hw
  have k1 := kk p l e RM s m args below meth c H locs cells slots lsA hC hR hH hS hc hs hl
  rcases (show t = 0 ∨ t = 1 ∨ t = 2 ∨ t = 3 ∨ t = 4 by omega) with rfl | rfl | rfl | rfl | rfl
  · exact va_alen hC.1 hC.2.1 hC.2.2.2.2.2.2.2.2.2.2 hP q0 0 hw rfl rfl hd k1
  · exact va_alen hC.1 hC.2.1 hC.2.2.2.2.2.2.2.2.2.2 hP q0 1 hw rfl rfl hd k1
  · exact va_alen hC.1 hC.2.1 hC.2.2.2.2.2.2.2.2.2.2 hP q0 2 hw rfl rfl hd k1
  · exact va_alen hC.1 hC.2.1 hC.2.2.2.2.2.2.2.2.2.2 hP q0 3 hw rfl rfl hd k1
  · exact va_alen hC.1 hC.2.1 hC.2.2.2.2.2.2.2.2.2.2 hP q0 4 hw rfl rfl hd k1
theorem x_iast {z : Int32} {v : Int32} (hd : decode y.2.1 pc = .ok (.iastore, 1)) (hz : z = nI j) (hg : xsh g = .inl (0, n)) (hi : i < C g) (hj : j < n) (kk : X G y d B (pc + 1) ls st (ad, C, xu I g i j v, L, R) Q) : X G y d B pc ls (.int v :: .int z :: .ref (ad g i) :: st) (ad, C, I, L, R) Q := by
  subst hz
  intro p l e RM s m args below meth c H locs cells slots lsA hC hR hH hS hc hs hl
  obtain ⟨hb, dom, hnd, hm, hP, hD⟩ := id hH
  obtain ⟨q0, hq0, hw⟩ := xw_get (G := G) (M := (ad, C, I, L, R)) ((hm g i).mpr hi)
  rw [xE_a hg] at hw
  have hn := xsh_small hg
  have hix := vp_in_nI hj hn
  have hcl := nI_clamp (Nat.lt_trans hj hn)
  refine va_iast hC.1 hC.2.1 hC.2.2.2.2.2.2.2.2.2.2 hP hD hS q0 0 hw rfl hix hd (fun H1 locs1 h1 h2 h3 => ?_)
  have hset : (xw G (ad, C, I, L, R) dom).set q0 (ad g i, .inl (G.2.1 0, n, .inl (upd (I g i) j v))) = xw G (ad, C, xu I g i j v, L, R) dom := by
    refine xw_set (M' := (ad, C, xu I g i j v, L, R)) hnd hq0 rfl ?_ ?_
    · rw [xE_a hg]
      have : xu I g i j v g i = upd (I g i) j v := funext fun a => xu_at
      show (Sum.inl (G.2.1 0, n, xar 0 _ _ _) : va_E) = _
      simp only [this]
      rfl
    · intro a b _ hne
      have : xu I g i j v a b = I a b := funext fun z => xu_n (fun q => hne ⟨q.1, q.2.1⟩)
      unfold xE
      simp only [this]
  rw [hcl, hset] at h1 h2
  exact kk p l e RM s m args below meth c H1 locs1 cells slots lsA hC hR ⟨Nat.le_trans hC.2.2.2.2.2.2.2.2.1 h3.1, dom, hnd, hm, h1, h2⟩ h3 hc hs hl
theorem x_bast {z : Int32} {v : Int32} (hd : decode y.2.1 pc = .ok (.bastore, 1)) (hz : z = nI j) (hg : xsh g = .inl (1, n)) (hi : i < C g) (hj : j < n) (kk : X G y d B (pc + 1) ls st (ad, C, xu I g i j (vp_nar .byte v), L, R) Q) : X G y d B pc ls (.int v :: .int z :: .ref (ad g i) :: st) (ad, C, I, L, R) Q := by
  subst hz
  intro p l e RM s m args below meth c H locs cells slots lsA hC hR hH hS hc hs hl
  obtain ⟨hb, dom, hnd, hm, hP, hD⟩ := id hH
  obtain ⟨q0, hq0, hw⟩ := xw_get (G := G) (M := (ad, C, I, L, R)) ((hm g i).mpr hi)
  rw [xE_a hg] at hw
  have hn := xsh_small hg
  have hix := vp_in_nI hj hn
  have hcl := nI_clamp (Nat.lt_trans hj hn)
  refine va_bast hC.1 hC.2.1 hC.2.2.2.2.2.2.2.2.2.2 hP hD hS q0 1 hw rfl hix hd (fun H1 locs1 h1 h2 h3 => ?_)
  have hset : (xw G (ad, C, I, L, R) dom).set q0 (ad g i, .inl (G.2.1 1, n, .inl (upd (I g i) j (vp_nar .byte v)))) = xw G (ad, C, xu I g i j (vp_nar .byte v), L, R) dom := by
    refine xw_set (M' := (ad, C, xu I g i j (vp_nar .byte v), L, R)) hnd hq0 rfl ?_ ?_
    · rw [xE_a hg]
      have : xu I g i j (vp_nar .byte v) g i = upd (I g i) j (vp_nar .byte v) := funext fun a => xu_at
      show (Sum.inl (G.2.1 1, n, xar 1 _ _ _) : va_E) = _
      simp only [this]
      rfl
    · intro a b _ hne
      have : xu I g i j (vp_nar .byte v) a b = I a b := funext fun z => xu_n (fun q => hne ⟨q.1, q.2.1⟩)
      unfold xE
      simp only [this]
  rw [hcl, hset] at h1 h2
  exact kk p l e RM s m args below meth c H1 locs1 cells slots lsA hC hR ⟨Nat.le_trans hC.2.2.2.2.2.2.2.2.1 h3.1, dom, hnd, hm, h1, h2⟩ h3 hc hs hl
theorem x_last {z : Int32} {v : Int64} (hd : decode y.2.1 pc = .ok (.lastore, 1)) (hz : z = nI j) (hg : xsh g = .inl (2, n)) (hi : i < C g) (hj : j < n) (kk : X G y d B (pc + 1) ls st (ad, C, I, xu L g i j v, R) Q) : X G y d B pc ls (.long v :: .int z :: .ref (ad g i) :: st) (ad, C, I, L, R) Q := by
  subst hz
  intro p l e RM s m args below meth c H locs cells slots lsA hC hR hH hS hc hs hl
  obtain ⟨hb, dom, hnd, hm, hP, hD⟩ := id hH
  obtain ⟨q0, hq0, hw⟩ := xw_get (G := G) (M := (ad, C, I, L, R)) ((hm g i).mpr hi)
  rw [xE_a hg] at hw
  have hn := xsh_small hg
  have hix := vp_in_nI hj hn
  have hcl := nI_clamp (Nat.lt_trans hj hn)
  refine va_last hC.1 hC.2.1 hC.2.2.2.2.2.2.2.2.2.2 hP hD hS q0 2 hw rfl hix hd (fun H1 locs1 h1 h2 h3 => ?_)
  have hset : (xw G (ad, C, I, L, R) dom).set q0 (ad g i, .inl (G.2.1 2, n, .inr (.inl (vp_updL (L g i) j v)))) = xw G (ad, C, I, xu L g i j v, R) dom := by
    refine xw_set (M' := (ad, C, I, xu L g i j v, R)) hnd hq0 rfl ?_ ?_
    · rw [xE_a hg]
      have : xu L g i j v g i = vp_updL (L g i) j v := funext fun a => xu_at
      show (Sum.inl (G.2.1 2, n, xar 2 _ _ _) : va_E) = _
      simp only [this]
      rfl
    · intro a b _ hne
      have : xu L g i j v a b = L a b := funext fun z => xu_n (fun q => hne ⟨q.1, q.2.1⟩)
      unfold xE
      simp only [this]
  rw [hcl, hset] at h1 h2
  exact kk p l e RM s m args below meth c H1 locs1 cells slots lsA hC hR ⟨Nat.le_trans hC.2.2.2.2.2.2.2.2.1 h3.1, dom, hnd, hm, h1, h2⟩ h3 hc hs hl

/-- one row of a three-place function -/
def xur {α : Type} (f : Nat → Nat → Nat → α) (s i : Nat) (r : Nat → α) : Nat → Nat → Nat → α := fun a b => if a = s ∧ b = i then r else f a b
theorem xur_s {α : Type} {f : Nat → Nat → Nat → α} {s i : Nat} {r : Nat → α} : xur f s i r s i = r := if_pos ⟨rfl, rfl⟩
theorem xur_n {α : Type} {f : Nat → Nat → Nat → α} {s i a b : Nat} {r : Nat → α} (h : ¬ (a = s ∧ b = i)) : xur f s i r a b = f a b := if_neg h
theorem xur_ns {α : Type} {f : Nat → Nat → Nat → α} {s i a b : Nat} {r : Nat → α} (h : a ≠ s) : xur f s i r a b = f a b := if_neg (fun q => h q.1)
theorem xur_ni {α : Type} {f : Nat → Nat → Nat → α} {s i a b : Nat} {r : Nat → α} (h : b ≠ i) : xur f s i r a b = f a b := if_neg (fun q => h q.2)
def xSC : List Cond := [.native arraycopyName, .static arraycopyName, .initialized "java/lang/System"]
theorem xSC_in : ∀ w ∈ xSC, w ∈ xTBL := by decide +kernel

theorem x_copy {g2 i2 n2 sp dp m0 : Nat} {zs zd zm : Int32} (hd : decode y.2.1 pc = .ok (.invokestatic idx, 3)) (hw : Cond.methodLink y.1.cls idx arraycopyName ∈ xTBL) (h1z : zs = nI sp) (h2z : zd = nI dp) (h3z : zm = nI m0) (hg : xsh g = .inl (0, n)) (hg2 : xsh g2 = .inl (0, n2)) (hi : i < C g) (hi2 : i2 < C g2) (h4 : sp + m0 ≤ n) (h5 : dp + m0 ≤ n2) (hst : (st.map fun v => v.category).sum ≤ 8) (kk : X G y (d + 1) B (pc + 3) ls st (ad, C, xur I g2 i2 (va_cpy (I g i) (I g2 i2) sp dp m0), L, R) Q) : X G y (d + 1) B pc ls (.int zm :: .int zd :: .ref (ad g2 i2) :: .int zs :: .ref (ad g i) :: st) (ad, C, I, L, R) Q := by
  subst h1z; subst h2z; subst h3z
  intro p l e RM s m args below meth c H locs cells slots lsA hC hR hH hS hc hs hl
  obtain ⟨hb, dom, hnd, hm, hP, hD⟩ := id hH
  obtain ⟨q0, hq0, hw0⟩ := xw_get (G := G) (M := (ad, C, I, L, R)) ((hm g i).mpr hi)
  obtain ⟨q1, hq1, hw1⟩ := xw_get (G := G) (M := (ad, C, I, L, R)) ((hm g2 i2).mpr hi2)
  rw [xE_a hg] at hw0
  rw [xE_a hg2] at hw1
  have hn := xsh_small hg
  have hn2 := xsh_small hg2
  have c1 := nI_clamp (n := sp) (by omega)
  have c2 := nI_clamp (n := dp) (by omega)
  have c3 := nI_clamp (n := m0) (by omega)
  refine va_copyi hC.1 hC.2.1 (hC.2.2.2.1.trans hl.1.symm) hC.2.2.2.2.1 (hC.2.2.2.2.2.1 _ hw) (hC.2.2.2.2.2.1 _ (xSC_in _ (by simp [xSC]))) (hC.2.2.2.2.2.1 _ (xSC_in _ (by simp [xSC]))) (hC.2.2.2.2.2.1 _ (xSC_in _ (by simp [xSC]))) hC.2.2.2.2.2.2.2.2.2.2 hP hD hS q0 q1 0 0 hw0 hw1 rfl rfl rfl (nI_pos (by omega)) (nI_pos (by omega)) (nI_pos (by omega)) (by rw [c1, c3]; exact h4) (by rw [c2, c3]; exact h5) (fun _ _ => rfl) (Nat.le_trans (Nat.le_add_left 1 d) hR.1) ?_ hd (fun H1 locs1 h1 h2 h3 => ?_)
  · have : nativeFrameWords "java/lang/System" "arraycopy" 5 + 11 ≤ 40 := by decide
    have := hR.2
    omega
  have hset : (xw G (ad, C, I, L, R) dom).set q1 (ad g2 i2, .inl (G.2.1 0, n2, .inl (va_cpy (I g i) (I g2 i2) sp dp m0))) = xw G (ad, C, xur I g2 i2 (va_cpy (I g i) (I g2 i2) sp dp m0), L, R) dom := by
    refine xw_set (M' := (ad, C, xur I g2 i2 (va_cpy (I g i) (I g2 i2) sp dp m0), L, R)) hnd hq1 rfl ?_ ?_
    · rw [xE_a hg2]
      show (Sum.inl (G.2.1 0, n2, xar 0 (xur I g2 i2 _ g2 i2) _ _) : va_E) = _
      rw [xur_s]
      rfl
    · intro a b _ hne
      unfold xE
      simp only [xur_n hne]
  rw [c1, c2, c3, hset] at h1 h2
  exact kk p l e RM s m args below meth c H1 locs1 cells slots lsA hC hR ⟨Nat.le_trans hC.2.2.2.2.2.2.2.2.1 h3.1, dom, hnd, hm, h1, h2⟩ h3 hc hs hl
def xMC : List Cond := [.static Lib.Math.max.name, .static Lib.Math.min.name, .initialized "java/lang/Math", .code Lib.Math.max.name Lib.Math.max.code 2 (some .int), .code Lib.Math.min.name Lib.Math.min.code 2 (some .int)]
theorem xMC_in : ∀ w ∈ xMC, w ∈ xTBL := by decide +kernel
theorem x_max {a b : Int32} {M : xM} (hd : decode y.2.1 pc = .ok (.invokestatic idx, 3)) (hw : Cond.methodLink y.1.cls idx Lib.Math.max.name ∈ xTBL) (hst : (st.map fun v => v.category).sum ≤ 8) (kk : X G y (d + 1) B (pc + 3) ls (.int (if a < b then b else a) :: st) M Q) : X G y (d + 1) B pc ls (.int b :: .int a :: st) M Q := by
  intro p l e RM s m args below meth c H locs cells slots lsA hC hR hH hS hc hs hl
  exact va_mmax hC.1 hC.2.1 (hC.2.2.2.1.trans hl.1.symm) hC.2.2.2.2.1 (hC.2.2.2.2.2.1 _ hw) (hC.2.2.2.2.2.1 _ (xMC_in _ (by simp [xMC]))) (hC.2.2.2.2.2.1 _ (xMC_in _ (by simp [xMC]))) (hC.2.2.2.2.2.1 _ (xMC_in _ (by simp [xMC]))) (Nat.le_trans (Nat.le_add_left 1 d) hR.1) (by have := hR.2.1; omega) (Nat.le_trans (Nat.le_add_right _ _) hc) (Nat.le_trans (Nat.le_add_right _ _) hs) hd (kk p l e RM s m args below meth c H locs cells slots lsA hC hR hH hS hc hs hl)
theorem x_min {a b : Int32} {M : xM} (hd : decode y.2.1 pc = .ok (.invokestatic idx, 3)) (hw : Cond.methodLink y.1.cls idx Lib.Math.min.name ∈ xTBL) (hst : (st.map fun v => v.category).sum ≤ 8) (kk : X G y (d + 1) B (pc + 3) ls (.int (if b < a then b else a) :: st) M Q) : X G y (d + 1) B pc ls (.int b :: .int a :: st) M Q := by
  intro p l e RM s m args below meth c H locs cells slots lsA hC hR hH hS hc hs hl
  exact va_mmin hC.1 hC.2.1 (hC.2.2.2.1.trans hl.1.symm) hC.2.2.2.2.1 (hC.2.2.2.2.2.1 _ hw) (hC.2.2.2.2.2.1 _ (xMC_in _ (by simp [xMC]))) (hC.2.2.2.2.2.1 _ (xMC_in _ (by simp [xMC]))) (hC.2.2.2.2.2.1 _ (xMC_in _ (by simp [xMC]))) (Nat.le_trans (Nat.le_add_left 1 d) hR.1) (by have := hR.2.1; omega) (Nat.le_trans (Nat.le_add_right _ _) hc) (Nat.le_trans (Nat.le_add_right _ _) hs) hd (kk p l e RM s m args below meth c H locs cells slots lsA hC hR hH hS hc hs hl)
theorem x_fades {M : xM} (hd : decode y.2.1 pc = .ok (.getstatic idx, 3)) (hw : Cond.fieldLink y.1.cls idx "SmellCustoms$Air" "FADES" "[I" ∈ xTBL) (kk : X G y d B (pc + 3) ls (.ref (G.2.2.2.2.1 0) :: st) M Q) : X G y d B pc ls st M Q := by
  intro p l e RM s m args below meth c H locs cells slots lsA hC hR hH hS hc hs hl
  exact va_gets hC.1 hC.2.1 hC.2.2.2.2.2.2.2.2.2.1.2.2.1 hS hC.2.2.2.2.1 (hC.2.2.2.2.2.1 _ hw) (fun z h => h) hd (kk p l e RM s m args below meth c H locs cells slots lsA hC hR hH hS hc hs hl)
theorem x_fadesL {M : xM} {z : Int32} (hd : decode y.2.1 pc = .ok (.iaload, 1)) (hz : z = nI j) (hj : j < 5) (kk : X G y d B (pc + 1) ls (.int (xFadesL.getD j 0) :: st) M Q) : X G y d B pc ls (.int z :: .ref (G.2.2.2.2.1 0) :: st) M Q := by
  subst hz
  intro p l e RM s m args below meth c H locs cells slots lsA hC hR hH hS hc hs hl
  exact va_ti hC.1 hC.2.1 hC.2.2.2.2.2.2.2.2.2.1.2.2.2.1 hS (vp_in_nI hj (by omega)) (by rw [nI_clamp (by omega)]) hd (kk p l e RM s m args below meth c H locs cells slots lsA hC hR hH hS hc hs hl)
theorem x_room {M : xM} (hd : decode y.2.1 pc = .ok (.getstatic idx, 3)) (hw : Cond.fieldLink y.1.cls idx "SmellCustoms$Teller" "ROOM" "[I" ∈ xTBL) (kk : X G y d B (pc + 3) ls (.ref (G.2.2.2.2.1 1) :: st) M Q) : X G y d B pc ls st M Q := by
  intro p l e RM s m args below meth c H locs cells slots lsA hC hR hH hS hc hs hl
  exact va_gets hC.1 hC.2.1 hC.2.2.2.2.2.2.2.2.2.1.2.2.2.2.1 hS hC.2.2.2.2.1 (hC.2.2.2.2.2.1 _ hw) (fun z h => h) hd (kk p l e RM s m args below meth c H locs cells slots lsA hC hR hH hS hc hs hl)
theorem x_roomL {M : xM} {z : Int32} (hd : decode y.2.1 pc = .ok (.iaload, 1)) (hz : z = nI j) (hj : j < 12) (kk : X G y d B (pc + 1) ls (.int (xRoomL.getD j 0) :: st) M Q) : X G y d B pc ls (.int z :: .ref (G.2.2.2.2.1 1) :: st) M Q := by
  subst hz
  intro p l e RM s m args below meth c H locs cells slots lsA hC hR hH hS hc hs hl
  exact va_ti hC.1 hC.2.1 hC.2.2.2.2.2.2.2.2.2.1.2.2.2.2.2.1 hS (vp_in_nI hj (by omega)) (by rw [nI_clamp (by omega)]) hd (kk p l e RM s m args below meth c H locs cells slots lsA hC hR hH hS hc hs hl)
end XM
