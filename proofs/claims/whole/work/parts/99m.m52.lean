section M52
variable {G : xG} {ad : Nat → Nat → Nat} {nb : Nat} {b r : Option Nat} {L : Nat → Nat → Nat → Int64} {V : sV} {I : Nat → Nat → Nat → Int32} {d : Nat}

variable {y y' : xY} {b1 b2 mc ms : Nat} {B : Nat × Nat} {pc idx n cn g i : Nat} {ls : List (Nat × Option Value)} {st st0 As as : List Value} {M : xM} {Q : Option Value → xM → Prop} {P : xM → Prop} {Qt : xTg} {C : Nat → Nat} {R : Nat → Nat → Nat → Option Nat}
/-- where a method has thrown: by whom, with which memory -/
def xXC (G : xG) (P : xM → Prop) : String → State → State → Prop := fun E st t => E = xNE ∧ (∃ M, P M ∧ xH G M t.heap) ∧ va_F (xA G) st t
def xTx (G : xG) (Q : Option Value → xM → Prop) (P : xM → Prop) : xTg := fun below args s MC MS => vx_MQ below (xQ G Q) (xXC G P) args s MC MS (xA G)
def MtX (G : xG) (y : xY) (d : Nat) (B : Nat × Nat) (as : List Value) (M : xM) (Q : Option Value → xM → Prop) (P : xM → Prop) : Prop :=
  ∀ l : Launch, l.stackTraces = false → vx_Met l y.1 (Cond.code y.1 y.2.1 y.2.2.1 y.2.2.2 :: xTBL) (xR d B.1 B.2) (va_Pc as (fun U => xH G M U.heap ∧ xSt G U U.heap ∧ va_K G.1 vwCl (xtys G) U)) (xQ G Q) (xXC G P) B.1 B.2 (xA G)
theorem x_startX (hn : plainName y.1.cls = true) (hl : (lg_sl as).length ≤ y.2.2.1) (h : X G y d B 0 (xla 0 as) [] M (xTx G Q P)) : MtX G y d B as M Q P := by
  intro l hl0
  refine vx_ofW (cc := y.2.1) (maxL := y.2.2.1) (ret := y.2.2.2) hn rfl ?_
  intro p e s m args below meth c s₁ Bo hml _ hv
  obtain ⟨rfl, hH, hSt, hK⟩ := hv
  have hts := atoms_spec (ws := Cond.code y.1 y.2.1 y.2.2.1 y.2.2.2 :: xTBL) Bo.pre
  have hent := lv_entry as (n := y.2.2.1) hl
  rw [lg_entry_eq]
  refine h p l e (xR d B.1 B.2) s m _ below meth c s.heap [] 0 0 _ ⟨Bo.exec, Bo.bytes, Bo.returns, hml, findClass_of_methodNamed Bo.named, fun w hw => hts w (List.mem_cons_of_mem _ hw), Bo.notSynchronized, ⟨(name_of_methodNamed Bo.named Bo.method).1, Bo.named⟩, hH.1, hSt, hK⟩ ⟨Nat.le_refl _, Nat.le_refl _, hl0⟩ hH va_S.rf (Nat.le_of_eq (Nat.zero_add _)) (Nat.le_of_eq (Nat.zero_add _)) ⟨hent.1, hent.2.1, fun i v hi => hent.2.2 (i, v) (xla_mem as 0 i v hi)⟩
/-- a method with handlers that only returns -/
theorem x_startW {hh : List (Nat × Nat × Nat × Nat)} (hn : plainName y.1.cls = true) (hl : (lg_sl as).length ≤ y.2.2.1) (h : X G y d B 0 (xla 0 as) [] M (xT G Q)) : ∀ l : Launch, l.stackTraces = false → Met l y.1 (Cond.codeWith y.1 y.2.1 y.2.2.1 y.2.2.2 hh :: xTBL) (xR d B.1 B.2) (va_Pc as (fun U => xH G M U.heap ∧ xSt G U U.heap ∧ va_K G.1 vwCl (xtys G) U)) (xQ G Q) B.1 B.2 (xA G) := by
  intro l hl0
  refine MetFree.of_bodyS (code := y.2.1) (maxLocals := y.2.2.1) (ret := y.2.2.2) hn ?_ ?_
  · intro args s m h hn
    obtain ⟨m9, meth, c, hn9, h1, h2, h3, h4, -, h5, h6, -⟩ := Cond.codeWith_spec (atoms_spec (ws := Cond.codeWith y.1 y.2.1 y.2.2.1 y.2.2.2 hh :: xTBL) h _ List.mem_cons_self)
    cases hn.symm.trans hn9
    exact ⟨meth, c, h1, h2, h3, h4, h5, h6⟩
  · intro p e s m args below meth c s₁ Bo hml hv _
    obtain ⟨rfl, hH, hSt, hK⟩ := hv
    have hh0 : s₁.heap = s.heap := by rw [Bo.state]; rfl
    have hts := atoms_spec (ws := Cond.codeWith y.1 y.2.1 y.2.2.1 y.2.2.2 hh :: xTBL) Bo.pre
    have hent := lv_entry as (n := y.2.2.1) hl
    have K : W p l e (xR d B.1 B.2) s m as.toArray below meth c s.heap [] 0 0 (MQ below (xQ G Q) as.toArray s B.1 B.2 (xA G)) (entryFrame m as.toArray y.2.2.1) := by
      rw [lg_entry_eq]
      exact h p l e (xR d B.1 B.2) s m _ below meth c s.heap [] 0 0 _ ⟨Bo.exec, Bo.bytes, Bo.returns, hml, findClass_of_methodNamed Bo.named, fun w hw => hts w (List.mem_cons_of_mem _ hw), Bo.notSynchronized, ⟨(name_of_methodNamed Bo.named Bo.method).1, Bo.named⟩, hH.1, hSt, hK⟩ ⟨Nat.le_refl _, Nat.le_refl _, hl0⟩ hH va_S.rf (Nat.le_of_eq (Nat.zero_add _)) (Nat.le_of_eq (Nat.zero_add _)) ⟨hent.1, hent.2.1, fun i v hi => hent.2.2 (i, v) (xla_mem as 0 i v hi)⟩
    obtain ⟨t, a1, o, b1, b2, b3⟩ := K s₁ hh0 (Stand.of_body Bo)
    exact ⟨t, o, a1, b1, b2, b3⟩
theorem x_toX (k : X G y d B pc ls st M (xT G Q)) : X G y d B pc ls st M (xTx G Q P) := by
  intro p l e RM s m args below meth c H locs cells slots lsA hC hR hH hS hc hs hl
  exact vx_ret (k p l e RM s m args below meth c H locs cells slots lsA hC hR hH hS hc hs hl)
theorem xH_ext {H H1 : Heap} (h : xH G M H) (hz : H.size ≤ H1.size) (hk : ∀ q : Nat, q < H.size → H1[q]? = H[q]?) : xH G M H1 := by
  obtain ⟨hb, dom, hnd, hm, hP, hD⟩ := h
  exact ⟨Nat.le_trans hb hz, dom, hnd, hm, hP.kept (fun k x hx => hk x.1 ((hP k x hx).lt)), hD⟩
theorem xat_in : ∀ w ∈ (vx_at0 "SmellCustoms" 337 xNE xNC).filter goodWord, w ∈ xTBL := by decide +kernel
theorem xat_ot : ∀ w ∈ Cond.classLink "SmellCustoms" 335 xNE :: Cond.initialized xNE :: vx_at0 "SmellCustoms" 337 xNE xNC, vx_ot w = true := by decide +kernel
theorem xat_all {args : Array Value} {s : State} {A : Nat → Prop} {H : Heap} (h1 : ∀ w ∈ xTBL, w.before args s = true) (h2 : xSx A s H) : ∀ w ∈ vx_at0 "SmellCustoms" 337 xNE xNC, w.before args s = true := by
  intro w hw
  by_cases g : goodWord w = true
  · exact h1 w (xat_in w (List.mem_filter.mpr ⟨hw, g⟩))
  · have hm : w ∈ (vx_at0 "SmellCustoms" 337 xNE xNC).filter (fun w => !goodWord w) := List.mem_filter.mpr ⟨hw, by simp [g]⟩
    rw [xSx_ng] at hm
    simp only [List.mem_cons, List.not_mem_nil, or_false] at hm
    rcases hm with rfl | rfl | rfl | rfl
    · exact va_Nw.use rfl (h2.2.2.2.1 _ (by simp))
    · exact va_Nw.use rfl (h2.2.2.2.1 _ (by simp))
    · exact va_Nw.use rfl (h2.2.2.2.1 _ (by simp))
    · exact va_Nw.use rfl h2.2.2.1
/-- throw new NoSuchElementException() -/
theorem x_throw (hy : y.1.cls = "SmellCustoms") (hcode : Cond.code y.1 y.2.1 y.2.2.1 y.2.2.2 ∈ xTBL) (hcl : Cond.classLink "SmellCustoms" 335 xNE ∈ xTBL) (hini : Cond.initialized xNE ∈ xTBL) (d0 : decode y.2.1 pc = .ok (.new 335, 3)) (d3 : decode y.2.1 (pc + 3) = .ok (.dup, 1)) (d4 : decode y.2.1 (pc + 4) = .ok (.invokespecial 337, 3)) (d7 : decode y.2.1 (pc + 7) = .ok (.athrow, 1)) (hst : (st.map fun v => v.category).sum ≤ 8) (hPM : P M) : X G y (d + 6) (b1 + 1, b2 + 6) pc ls st M (xTx G Q P) := by
  intro p l e RM s m args below meth c H locs cells slots lsA hC hR hH hS hc hs hl
  intro T hT XS
  have hc : cells + (b1 + 1) ≤ RM.cells := hc
  have hs : slots + (b2 + 6) ≤ RM.slots := hs
  have hts := hC.2.2.2.2.2.1
  have hSx := hC.2.2.2.2.2.2.2.2.2.1.2.2.2.2.2.2.2.2.2.2.1
  have htab : ∀ x ∈ c.exceptionTable.toList, covers x (pc + 7) = false := by
    obtain ⟨meth9, c9, h1, h2, -, -, -, -, h7, -⟩ := Cond.code_spec hC.2.2.2.2.2.2.2.1.2 (hts _ hcode)
    cases Option.some.inj (h1.symm.trans XS.method)
    cases Option.some.inj (h2.symm.trans XS.code)
    intro x hx
    rw [Array.isEmpty_iff.mp h7] at hx
    cases hx
  have hown := hC.2.2.2.2.1
  rw [hy] at hown
  exact vx_throw0 (names := xNC) (A := xA G) hC.1 hC.2.1 hR.2.2 hown (by decide +kernel) (by decide +kernel) (hts _ hcl) (hts _ hini) (xat_all hts hSx) xat_ot hSx.2.2.2.2.1 hSx.2.2.2.2.2 hS (hl.1.trans hC.2.2.2.1.symm) d0 d3 d4 d7 htab (by have := hR.1; show 2 + 3 < _; omega) (by have := hR.2.1; show _ + (13 * (2 + 1) + 42) ≤ _; omega) (by omega) (by omega) hC.2.2.2.2.2.2.1 (fun t _ h1 h2 => ⟨rfl, ⟨M, hPM, xH_ext hH h1 h2⟩, Nat.le_trans hS.1 h1, fun q g1 g2 => (h2 q (Nat.lt_of_lt_of_le g1 hS.1)).trans (hS.2.1 q g1 g2)⟩) hS.2.2 (by omega) (by omega) T hT XS
/-- a call that answers an int or throws; caught at 12 -/
theorem x_cvX {P1 : Int32 → xM → Prop} (hM : MtX G y' d (mc, ms) (.ref (ad g i) :: As) (ad, C, I, L, R) (qI P1) P) (hcv : xCV y.1.cls idx y' cn n) (hd : decode y.2.1 pc = .ok (.invokevirtual idx, 3)) (hg : xsh g = .inr cn) (hi : i < C g) (hn : As.length = n) (hst : st0 = As.reverse ++ .ref (ad g i) :: st) (hs8 : (st.map fun v => v.category).sum ≤ 8)
    (hw : Cond.codeWith y.1 y.2.1 y.2.2.1 y.2.2.2 [(0, 9, 12, 13)] ∈ xTBL) (hpc : pc < 9) (hlk : Cond.classLink y.1.cls 13 xNE ∈ xTBL) (kx : ∀ q M', P M' → X G y (d + 1) (b1, b2) 12 ls [.ref q] M' Qt) (kk : ∀ r M', P1 r M' → X G y (d + 1) (b1, b2) (pc + 3) ls (.int r :: st) M' Qt) : X G y (d + 1) (b1 + mc, b2 + ms) pc ls st0 (ad, C, I, L, R) Qt := by
  intro p l e RM s m args below meth c H locs cells slots lsA hC hR hH hS hc hs hl
  obtain ⟨hb, dom, hnd, hm, hP, hD⟩ := id hH
  obtain ⟨q0, hq0, hw9⟩ := xw_get (G := G) (M := (ad, C, I, L, R)) ((hm g i).mpr hi)
  rw [xE_o hg] at hw9
  obtain ⟨w1, w2, w3, w4, w5, w6, w7, T9, N9, w8⟩ := hcv
  have hts := hC.2.2.2.2.2.1
  have hSt := hC.2.2.2.2.2.2.2.2.2.1
  have hK := hC.2.2.2.2.2.2.2.2.2.2
  have hc : cells + (b1 + mc) ≤ RM.cells := hc
  have hs : slots + (b2 + ms) ≤ RM.slots := hs
  have hr := vx_runV (cells := cells) (slots := slots) (locs := locs) (below := below) (e := e) (meth := meth) (R := RM) (g := F0 m pc lsA st0) (As := As) (rest := st) (nL := y.2.2.1) (Ts := xTBL) (own := y.1.cls) (cc := y.2.1) ⟨hC.1, hC.2.1, hC.2.2.2.1, hC.2.2.2.2.1, hts⟩ (hM l hR.2.2) ⟨callB_of n hts (x_goodIn w5) rfl rfl rfl (hts _ w4) (hts _ w1) w6 ⟨hR.1, by have := hR.2.1; show 8 + (y'.2.2.1 + 11) + 48 * d ≤ _; omega⟩, hts _ w2, hts _ w3⟩ ⟨x_blind, va_recv hK hP w8 hw9, x_pre hSt hK hH hS⟩ rfl hn hl.1 hst (lv_room hs8) hd ⟨by show cells + mc ≤ _; omega, by show slots + ms ≤ _; omega⟩
  intro T hT XS
  rcases hr T hT XS with ⟨v, st₀, t, T', L9, h0, X', hL, e1, e2, ⟨⟨v', M', hv, hq, hH'⟩, hz, hk⟩, stp⟩ | ⟨q, st₀, t, T', L9, E, ce, h0, X', hL, e1, e2, ⟨hE, ⟨M', hPM, hH'⟩, hz, hk⟩, hce, hcv2, hcl2, stp⟩
  · cases hv
    obtain ⟨r9, rfl, hq⟩ := hq
    rw [h0] at hz hk
    have hS2 : va_S (xA G) s.heap T'.heap (locs ++ L9) := ⟨Nat.le_trans hS.1 (by rw [e1]; exact hz), fun q h1 h2 => by rw [e1, hk q (Nat.lt_of_lt_of_le h1 hS.1) h2]; exact hS.2.1 q h1 h2, fun q hq => by
      rcases List.mem_append.mp hq with h | h
      · exact hS.2.2 q h
      · exact hL q h⟩
    obtain ⟨t2, a1, c1⟩ := kk r9 M' hq p l e RM s m args below meth c T'.heap (locs ++ L9) (cells + mc) (slots + ms) lsA hC hR (by rw [e1]; exact hH') hS2 (by show cells + mc + b1 ≤ _; omega) (by show slots + ms + b2 ≤ _; omega) hl T' rfl X'
    exact ⟨t2, stp t2 a1, c1⟩
  · subst hE
    rw [h0] at hz hk
    have hS2 : va_S (xA G) s.heap T'.heap (locs ++ L9) := ⟨Nat.le_trans hS.1 (by rw [e1]; exact hz), fun q h1 h2 => by rw [e1, hk q (Nat.lt_of_lt_of_le h1 hS.1) h2]; exact hS.2.1 q h1 h2, fun q hq => by
      rcases List.mem_append.mp hq with h | h
      · exact hS.2.2 q h
      · exact hL q h⟩
    have htab : c.exceptionTable.toList = tableOf [(0, 9, 12, 13)] := by
      obtain ⟨m9, meth9, c9, hn9, h1, h2, -, -, h6, -⟩ := Cond.codeWith_spec (hts _ hw)
      cases Option.some.inj (hn9.symm.trans hC.2.2.2.2.2.2.2.1.2)
      cases Option.some.inj (h1.symm.trans XS.method)
      cases Option.some.inj (h2.symm.trans XS.code)
      rw [← h6, table_eq]
    have hW := vx_catch (own := y.1.cls) (name := xNE) (E := xNE) (ce := ce) (q := q) (pc := pc) (ls := lsA) (rest := st) (H := T'.heap) (locs := locs ++ L9) (cells := cells + mc) (slots := slots + ms) (l := l) (p := p) (e := e) (R := RM) (args := args) (below := below) (meth := meth) (c := c) (Q := Qt below args s RM.cells RM.slots) hC.2.2.2.2.1 [] ⟨0, 9, 12, 13⟩ [] htab (fun z hz => nomatch hz) (by
      show (decide (0 ≤ pc) && decide (pc < 9)) = true
      rw [decide_eq_true (Nat.zero_le pc), decide_eq_true hpc]; rfl) (by decide) (hts _ hlk) (va_Nw.use rfl hSt.2.2.2.2.2.2.2.2.2.2.1.2.2.1) (by rw [e1]; exact hce) hcv2 hcl2 (kx q M' hPM p l e RM s m args below meth c T'.heap (locs ++ L9) (cells + mc) (slots + ms) lsA hC hR (by rw [e1]; exact hH') hS2 (by show cells + mc + b1 ≤ _; omega) (by show slots + ms + b2 ≤ _; omega) hl)
    obtain ⟨t2, a1, c1⟩ := hW T' rfl X'
    exact ⟨t2, stp.trans a1, c1⟩
/-- a static call of a method with handlers -/
theorem x_csW {P1 : Int32 → xM → Prop} {hh : List (Nat × Nat × Nat × Nat)} (hM : ∀ l : Launch, l.stackTraces = false → Met l y'.1 (Cond.codeWith y'.1 y'.2.1 y'.2.2.1 y'.2.2.2 hh :: xTBL) (xR d mc ms) (va_Pc As (fun U => xH G M U.heap ∧ xSt G U U.heap ∧ va_K G.1 vwCl (xtys G) U)) (xQ G (qI P1)) mc ms (xA G)) (w1 : Cond.methodLink y.1.cls idx y'.1 ∈ xTBL) (w2 : Cond.static y'.1 ∈ xTBL) (w3 : Cond.initialized y'.1.cls ∈ xTBL) (w4 : Cond.codeWith y'.1 y'.2.1 y'.2.2.1 y'.2.2.2 hh ∈ xTBL) (w5 : y'.1.cls ≠ "java/lang/invoke/MethodHandle" ∧ y'.1.cls ≠ "java/lang/invoke/VarHandle") (w6 : (parseMethodDescriptor y'.1.desc).map (fun d => d.parameters.length) = some n) (w7 : y'.2.2.1 ≤ 29) (hd : decode y.2.1 pc = .ok (.invokestatic idx, 3)) (hn : As.length = n) (hst : st0 = As.reverse ++ st) (hs8 : (st.map fun v => v.category).sum ≤ 8) (kk : ∀ r M', P1 r M' → X G y (d + 1) (b1, b2) (pc + 3) ls (.int r :: st) M' Qt) : X G y (d + 1) (b1 + mc, b2 + ms) pc ls st0 M Qt := by
  intro p l e RM s m args below meth c H locs cells slots lsA hC hR hH hS hc hs hl
  have hts := hC.2.2.2.2.2.1
  have hSt := hC.2.2.2.2.2.2.2.2.2.1
  have hK := hC.2.2.2.2.2.2.2.2.2.2
  have hc : cells + (b1 + mc) ≤ RM.cells := hc
  have hs : slots + (b2 + ms) ≤ RM.slots := hs
  have hr := vx_runSW (cells := cells) (slots := slots) (locs := locs) (below := below) (e := e) (meth := meth) (R := RM) (g := F0 m pc lsA st0) (As := As) (rest := st) (nL := y.2.2.1) (Ts := xTBL) (own := y.1.cls) (cc := y.2.1) (n := n) (index := idx) (H := H) ⟨hC.1, hC.2.1, hC.2.2.2.1, hC.2.2.2.2.1, hts⟩ (hM l hR.2.2) ⟨⟨rfl, rfl, hR.1, by have := hR.2.1; show 8 + (y'.2.2.1 + 11) + 48 * d ≤ _; omega, pay_in hts (x_goodIn w4), List.mem_cons_self⟩, hts _ w4, hts _ w3, w5, (fun sig h => by rw [h] at w6; exact (Option.some.inj w6).symm), hts _ w1, hts _ w2⟩ ⟨x_blind, x_pre hSt hK hH hS⟩ rfl hn hl.1 hst (lv_room hs8) hd ⟨by omega, by omega⟩
  exact x_after hr hS (fun v M' H1 locs1 hq hH1 hS1 => by
    obtain ⟨r9, rfl, hq⟩ := hq
    exact kk r9 M' hq p l e RM s m args below meth c H1 locs1 (cells + mc) (slots + ms) lsA hC hR hH1 hS1 (by show cells + mc + b1 ≤ _; omega) (by show slots + ms + b2 ≤ _; omega) hl)
end M52
section M52b

variable {G : xG} {ad : Nat → Nat → Nat} {nb : Nat} {b r : Option Nat} {L : Nat → Nat → Nat → Int64} {V : sV} {I : Nat → Nat → Nat → Int32} {d : Nat}
variable {N : sN} {h : sH} {mk : List sN}
set_option maxRecDepth 100000 in
set_option maxHeartbeats 600000 in
theorem lp_cled (hS : SW V N h mk) (hX : XS V N h mk I) {z : Int32} : ∀ (n : Nat) (k c : Nat) (I1 : Nat → Nat → Nat → Int32), V 0 7 0 - k < n → k ≤ V 0 7 0 → c ≤ k → ldr (fun t => decide (0 < dbh V N t (N t 0) 0)) z (V 0 7 0 - k) k c = lds V N z → Sm scr I I1 → X G vX11_led (d + 6) (1, 6) 4 [(0, some (.ref (ad 11 0))), (1, some (.int (z))), (2, some (.int (nI (c)))), (3, some (.int (nI (k))))] [] (MM ad nb b r I1 L) (xTx G (qI (fun rr M' => lds V N z ≠ 0 ∧ rr = nI (lds V N z - 1) ∧ ∃ I', M' = MM ad nb b r I' L ∧ Sm scr I I')) (fun M' => lds V N z = 0 ∧ ∃ I', M' = MM ad nb b r I' L ∧ Sm scr I I')) := by
  have hV := hS.1
  obtain ⟨hB, hN, hH, hK⟩ := hX
  have hW := hS.2.1
  have v0 := hV.1
  have v1 := hV.2.1
  have v2 := hV.2.2.1
  have v3 := hV.2.2.2.1
  have v4 := hV.2.2.2.2.1
  have v7 := hV.2.2.2.2.2.2.2.1
  have v9 := hV.2.2.2.2.2.2.2.2.2.1
  have v10 := hV.2.2.2.2.2.2.2.2.2.2.1
  intro n
  induction n with
  | zero => intro k c I1 h0; omega
  | succ n ih =>
    intro k c I1 hn hk hc hf hS1
    have hB1 : XB V 0 I1 := hB.sm (fun s h1 h2 => hS1 s (by unfold scr; omega))
    have hN1 : XN V N I1 := fun t ht => (hN t ht).to (by rw [hS1 4 (by unfold scr; omega)]) (by rw [hS1 43 (by unfold scr; omega)])
    have hle : k < V 0 7 0 → dbh V N k (N k 0) 0 < 2 ^ 30 := by
      intro hkt
      unfold dbh dtn
      split
      · omega
      · exact Nat.lt_of_le_of_lt (tol_le (g := str V (fun s => N k (3 + s)) _ 0) hV (fun s hs => str_le ((hW k hkt).2 s hs))) (by omega)
    refine x_iload_n dX11_led_4 rfl ?_
    refine x_aload_n dX11_led_5 rfl ?_
    refine g_X_told fX11_16 dX11_led_6 ?_
    refine g_Border_sizes fX11_124 dX11_led_9 (by first | exact Nat.le_of_ble_eq_true rfl | assumption | omega) ?_
    refine x_bipush dX11_led_12 lb_7 ?_
    refine x_iald dX11_led_14 rfl rfl (Nat.lt_of_lt_of_le (by first | assumption | omega | decide) (Nat.le_refl 2)) (by first | exact Nat.le_of_ble_eq_true rfl | assumption | omega) ?_
    rw [hB1.1 7 (by omega)]
    refine x_icN_ge 55 dX11_led_15 (by decide) (by omega) (by omega) (fun h15 => ?_) (fun h15 => ?_)
    · exact x_throw (d := d) (b1 := 0) (b2 := 0) rfl (xm5 169 rfl rfl) (xm5 170 rfl rfl) (xm1 24 rfl rfl) dX11_led_55 dX11_led_58 dX11_led_59 dX11_led_62 (Nat.le_of_ble_eq_true rfl) ⟨by rw [← hf, ldr_0 (by omega)], _, rfl, hS1⟩
    · refine x_aload_n dX11_led_18 rfl ?_
      refine x_iload_n dX11_led_19 rfl ?_
      refine x_aload_n dX11_led_20 rfl ?_
      refine g_X_acts fX11_41 dX11_led_21 ?_
      refine g_Acts_now fX11_155 dX11_led_24 ?_
      refine x_iload_n dX11_led_27 rfl ?_
      refine aa_Acts_now dX11_led_28 rfl (by first | exact Nat.le_of_ble_eq_true rfl | assumption | omega) ?_
      refine g_Person_place fX11_165 dX11_led_29 (Nat.lt_of_lt_of_le (show k < 4 by omega) (by decide)) ?_
      refine x_top (show I1 4 k 0 = nI (N k 0) from (hN1 k h15).1 0 (by omega)) ?_
      refine x_iconst dX11_led_32 li_0 ?_
      refine x_cvi (c_dutyBehind (d := d + 2) (t := k) (q := N k 0) (H := 0) hV hB1 hN1 hW h15 (hW k h15).1 (by omega)) kX11_202 dX11_led_33 rfl (Nat.le_of_ble_eq_true rfl) rfl rfl (Nat.le_of_ble_eq_true rfl) (fun ru M2 hq2 => ?_)
      obtain ⟨rfl, I2, rfl, hS2⟩ := hq2
      have hle := hle h15
      refine x_ifN_le 49 dX11_led_36 (by decide) (by omega) (fun h36 => ?_) (fun h36 => ?_)
      · refine x_iincN 1 dX11_led_49 li_1 rfl (by decide) rfl ?_
        refine x_goto 4 dX11_led_52 (by decide) ?_
        first
          | (refine x_ls ?_ (ih (k + 1) (c + 1) I2 (by omega) (by omega) (by omega) (by rw [← hf, ldr_s (f := V 0 7 0 - k) (by omega), if_pos (decide_eq_true (by omega)), if_neg h41]; rfl) (hS1.tr (hS2.wk (fun s h => by unfold scr; omega)))); exact ⟨rfl, rfl, rfl, rfl, trivial⟩)
          | (refine x_ls ?_ (ih (k + 1) c I2 (by omega) (by omega) (by omega) (by rw [← hf, ldr_s (f := V 0 7 0 - k) (by omega), if_neg (by rw [decide_eq_false (by omega)]; decide)]; rfl) (hS1.tr (hS2.wk (fun s h => by unfold scr; omega)))); exact ⟨rfl, rfl, rfl, rfl, trivial⟩)
      · refine x_iload_n dX11_led_39 rfl ?_
        refine x_iload_n dX11_led_40 rfl ?_
        refine x_ic_ne 46 dX11_led_41 (by decide) (fun h41 => ?_) (fun h41 => ?_)
        · refine x_iincN 1 dX11_led_46 li_1 rfl (by decide) rfl ?_
          refine x_iincN 1 dX11_led_49 li_1 rfl (by decide) rfl ?_
          refine x_goto 4 dX11_led_52 (by decide) ?_
          first
            | (refine x_ls ?_ (ih (k + 1) (c + 1) I2 (by omega) (by omega) (by omega) (by rw [← hf, ldr_s (f := V 0 7 0 - k) (by omega), if_pos (decide_eq_true (by omega)), if_neg h41]; rfl) (hS1.tr (hS2.wk (fun s h => by unfold scr; omega)))); exact ⟨rfl, rfl, rfl, rfl, trivial⟩)
            | (refine x_ls ?_ (ih (k + 1) c I2 (by omega) (by omega) (by omega) (by rw [← hf, ldr_s (f := V 0 7 0 - k) (by omega), if_neg (by rw [decide_eq_false (by omega)]; decide)]; rfl) (hS1.tr (hS2.wk (fun s h => by unfold scr; omega)))); exact ⟨rfl, rfl, rfl, rfl, trivial⟩)
        · refine x_iload_n dX11_led_44 rfl ?_
          refine x_toX ?_
          refine x_iret dX11_led_45 rfl ?_
          have e1 : lds V N z = k + 1 := by rw [← hf, ldr_s (by omega), if_pos (decide_eq_true (by omega)), if_pos h41]
          rw [e1]
          exact ⟨_, rfl, by omega, rfl, _, rfl, hS1.tr (hS2.wk (fun s h => by unfold scr; omega))⟩
theorem x_led_c (hS : SW V N h mk) (hX : XS V N h mk I) {z : Int32} : MtX G vX11_led (d + 6) (1, 6) [.ref (ad 11 0), .int z] (MM ad nb b r I L) (qI (fun rr M' => lds V N z ≠ 0 ∧ rr = nI (lds V N z - 1) ∧ ∃ I', M' = MM ad nb b r I' L ∧ Sm scr I I')) (fun M' => lds V N z = 0 ∧ ∃ I', M' = MM ad nb b r I' L ∧ Sm scr I I') := by
  refine x_startX (by decide) (Nat.le_of_ble_eq_true rfl) ?_
  refine x_iconst dX11_led_0 li_0 ?_
  refine x_istore_n dX11_led_1 (by decide) rfl ?_
  refine x_iconst dX11_led_2 li_0 ?_
  refine x_istore_n dX11_led_3 (by decide) rfl ?_
  refine x_ls ?_ (lp_cled (d := d) hS hX (V 0 7 0 + 1) 0 0 I (by omega) (by omega) (by omega) rfl Sm.rf)
  exact ⟨rfl, rfl, rfl, rfl, trivial⟩
abbrev vL_led : xY := (yL_led, cL_led, 4, some .int)
theorem L_led_c (hS : SW V N h mk) (hX : XS V N h mk I) {z : Int32} : ∀ l : Launch, l.stackTraces = false → Met l vL_led.1 (Cond.codeWith vL_led.1 vL_led.2.1 vL_led.2.2.1 vL_led.2.2.2 [(0, 9, 12, 13)] :: xTBL) (xR (d + 7) 1 6) (va_Pc [.ref (ad 11 0), .int z, .ref (ad 103 0)] (fun U => xH G (MM ad nb b r I L) U.heap ∧ xSt G U U.heap ∧ va_K G.1 vwCl (xtys G) U)) (xQ G (qI (fun rr M' => ∃ I', Sm scr I I' ∧ if lds V N z = 0 then rr = nI 1 ∧ M' = MM ad nb b r I' L else rr = nI 0 ∧ M' = MM ad nb b r I' (xu L 103 0 0 (nI (lds V N z - 1)).toInt64)))) 1 6 (xA G) := by
  refine x_startW (y := vL_led) (d := d + 7) (B := (1, 6)) (by decide) (Nat.le_of_ble_eq_true rfl) ?_
  refine x_aload_n dL_led_0 rfl ?_
  refine x_iconst dL_led_1 li_0 ?_
  refine x_aload_n dL_led_2 rfl ?_
  refine x_iload_n dL_led_3 rfl ?_
  refine x_cvX (b1 := 0) (b2 := 0) (x_led_c (d := d) hS hX) kL_7 dL_led_4 rfl (Nat.le_of_ble_eq_true rfl) rfl rfl (Nat.le_of_ble_eq_true rfl) (xm5 164 rfl rfl) (by decide) (xm5 165 rfl rfl) (fun q Mu hq => ?_) (fun ru Mu hq => ?_)
  · obtain ⟨h0, I2, rfl, hS2⟩ := hq
    refine x_astore_n dL_led_12 (by decide) rfl ?_
    refine x_iconst dL_led_13 li_1 ?_
    refine x_iret dL_led_14 rfl ?_
    refine ⟨_, rfl, I2, hS2, ?_⟩
    rw [if_pos h0]
    exact ⟨rfl, rfl⟩
  obtain ⟨h0, rfl, I2, rfl, hS2⟩ := hq
  refine x_i2l dL_led_7 rfl ?_
  refine x_last dL_led_8 rfl rfl (Nat.le_of_ble_eq_true rfl) (by first | exact Nat.le_of_ble_eq_true rfl | assumption | omega) ?_
  refine x_goto 15 dL_led_9 (by decide) ?_
  refine x_iconst dL_led_15 li_0 ?_
  refine x_iret dL_led_16 rfl ?_
  refine ⟨_, rfl, I2, hS2, ?_⟩
  rw [if_neg h0]
  exact ⟨rfl, rfl⟩
end M52b
