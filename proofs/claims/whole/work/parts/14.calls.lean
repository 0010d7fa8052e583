
theorem x_good {wd : Cond} (h : wd ∈ xTBL) : (wd.onTables && wd.keeps) = true ∨ ∃ ty, wd = .arrayClass ty := good_of_word (List.mem_filter.mp h).2
theorem x_goodIn {wd : Cond} (h : wd ∈ xTBL) : GoodIn xTBL (wd :: xTBL) := by
  intro v hv
  rcases List.mem_cons.mp hv with rfl | hv
  · exact ⟨h, x_good h⟩
  · exact ⟨hv, x_good hv⟩
theorem x_blind {G : xG} {M : xM} {as : List Value} : FrameBlind (va_Pc as (fun U => xH G M U.heap ∧ xSt G U U.heap ∧ va_K G.1 vwCl (xtys G) U)) := by
  intro a U g mk h
  obtain ⟨h1, h2, h3, h4⟩ := h
  exact ⟨h1, h2, xSt.same (s := U) rfl h3, va_K.moved (u := U) (U := U.calling g mk a) (Vm.Alike.refl U.vm) h4⟩
section XCa
variable {G : xG} {p : Program} {l : Launch} {e : Env} {RM : Room} {s : State} {m : MethodId} {args : Array Value} {below : List Frame} {meth : Method} {c : Code} {H : Heap} {locs : List Loc} {cells slots : Nat} {Qw : State → Prop}
theorem x_after {mc ms pc : Nat} {lsA : Array Slot} {st0 rest : List Value} {Qm : Option Value → xM → Prop} {a : Array Value} (hr : va_Run p l e RM s m args below meth c H locs cells slots mc ms (F0 m pc lsA st0) rest (xQ G Qm a) (xA G)) (hS : va_S (xA G) s.heap H locs)
    (kk : ∀ (v : Option Value) (M' : xM) (H1 : Heap) (locs1 : List Loc), Qm v M' → xH G M' H1 → va_S (xA G) s.heap H1 locs1 → W p l e RM s m args below meth c H1 locs1 (cells + mc) (slots + ms) Qw (F0 m (pc + 3) lsA (v.toList ++ rest))) : W p l e RM s m args below meth c H locs cells slots Qw (F0 m pc lsA st0) := by
  intro T hT Xs
  obtain ⟨v, st₀, t, T', L, h0, X', hL, e1, e2, ⟨⟨v', M', hv, hq, hH'⟩, hz, hk⟩, stp⟩ := hr T hT Xs
  cases hv
  rw [h0] at hz hk
  obtain ⟨t2, a1, b1⟩ := kk v M' T'.heap (locs ++ L) hq (by rw [e1]; exact hH') ⟨Nat.le_trans hS.1 (by rw [e1]; exact hz), fun q h1 h2 => by rw [e1, hk q (Nat.lt_of_lt_of_le h1 hS.1) h2]; exact hS.2.1 q h1 h2, fun q hq => by
    rcases List.mem_append.mp hq with h | h
    · exact hS.2.2 q h
    · exact hL q h⟩ T' rfl X'
  exact ⟨t2, stp t2 a1, b1⟩
theorem x_pre {M : xM} {as : List Value} (hSt : xSt G s s.heap) (hK : va_K G.1 vwCl (xtys G) s) (hH : xH G M H) (hS : va_S (xA G) s.heap H locs) : ∀ U : State, U.heap = H → s.WarmedH U.vm → va_Pc as (fun U => xH G M U.heap ∧ xSt G U U.heap ∧ va_K G.1 vwCl (xtys G) U) as.toArray U := by
  intro U hU hW
  refine ⟨rfl, by rw [hU]; exact hH, ?_, va_K.moved hW.alike hK⟩
  rw [hU]
  exact xSt.warm hW (hSt.kept hS.2.1)
end XCa
/-- an instance method, called by a number of the pool -/
def xCV (own : String) (idx : Nat) (y : xY) (cn n : Nat) : Prop := Cond.methodLink own idx y.1 ∈ xTBL ∧ Cond.instanceMethod y.1 ∈ xTBL ∧ Cond.selects y.1.cls y.1 y.1 ∈ xTBL ∧ Cond.initialized y.1.cls ∈ xTBL ∧ Cond.code y.1 y.2.1 y.2.2.1 y.2.2.2 ∈ xTBL ∧ (y.1.cls ≠ "java/lang/invoke/MethodHandle" ∧ y.1.cls ≠ "java/lang/invoke/VarHandle" ∧ (parseMethodDescriptor y.1.desc).map (fun d => d.parameters.length) = some n) ∧ y.2.2.1 ≤ 29 ∧ ∃ T N, vwCl[cn]? = some (y.1.cls, T, N)
def xCS (own : String) (idx : Nat) (y : xY) (n : Nat) : Prop := Cond.methodLink own idx y.1 ∈ xTBL ∧ Cond.static y.1 ∈ xTBL ∧ Cond.initialized y.1.cls ∈ xTBL ∧ Cond.code y.1 y.2.1 y.2.2.1 y.2.2.2 ∈ xTBL ∧ (y.1.cls ≠ "java/lang/invoke/MethodHandle" ∧ y.1.cls ≠ "java/lang/invoke/VarHandle" ∧ (parseMethodDescriptor y.1.desc).map (fun d => d.parameters.length) = some n) ∧ y.2.2.1 ≤ 29
def xCI (own : String) (idx : Nat) (y : xY) (n : Nat) : Prop := (Cond.methodLink own idx y.1 ∈ xTBL ∨ ∃ host, (own, idx, y.1, host) ∈ xNML) ∧ Cond.instanceMethod y.1 ∈ xTBL ∧ Cond.initialized y.1.cls ∈ xTBL ∧ Cond.code y.1 y.2.1 y.2.2.1 none ∈ xTBL ∧ y.2.2.2 = none ∧ y.1.name = "<init>" ∧ (y.1.cls ≠ "java/lang/invoke/MethodHandle" ∧ y.1.cls ≠ "java/lang/invoke/VarHandle" ∧ (parseMethodDescriptor y.1.desc).map (fun d => d.parameters.length) = some n) ∧ y.2.2.1 ≤ 29
/-- answers: nothing, an int, a long, a reference -/
def qV (P : xM → Prop) : Option Value → xM → Prop := fun v M => v = none ∧ P M
def qI (P : Int32 → xM → Prop) : Option Value → xM → Prop := fun v M => ∃ r, v = some (.int r) ∧ P r M
def qL (P : Int64 → xM → Prop) : Option Value → xM → Prop := fun v M => ∃ r, v = some (.long r) ∧ P r M
def qR (P : Nat → xM → Prop) : Option Value → xM → Prop := fun v M => ∃ r, v = some (.ref r) ∧ P r M
section XCb
variable {G : xG} {y y' : xY} {d : Nat} {b1 b2 mc ms : Nat} {B : Nat × Nat} {pc : Nat} {ls : List (Nat × Option Value)} {st st0 As : List Value} {Q : xTg} {Qm : Option Value → xM → Prop} {ad : Nat → Nat → Nat} {C : Nat → Nat} {I : Nat → Nat → Nat → Int32} {L : Nat → Nat → Nat → Int64} {R : Nat → Nat → Nat → Option Nat} {M : xM} {g i idx n cn : Nat}

theorem x_callV (hM : Mt G y' d (mc, ms) (.ref (ad g i) :: As) (ad, C, I, L, R) Qm) (hcv : xCV y.1.cls idx y' cn n) (hd : decode y.2.1 pc = .ok (.invokevirtual idx, 3)) (hg : xsh g = .inr cn) (hi : i < C g) (hn : As.length = n) (hst : st0 = As.reverse ++ .ref (ad g i) :: st) (hs8 : (st.map fun v => v.category).sum ≤ 8) (kk : ∀ v M', Qm v M' → X G y (d + 1) (b1, b2) (pc + 3) ls (v.toList ++ st) M' Q) : X G y (d + 1) (b1 + mc, b2 + ms) pc ls st0 (ad, C, I, L, R) Q := by
  intro p l e RM s m args below meth c H locs cells slots lsA hC hR hH hS hc hs hl
  obtain ⟨hb, dom, hnd, hm, hP, hD⟩ := id hH
  obtain ⟨q0, hq0, hw⟩ := xw_get (G := G) (M := (ad, C, I, L, R)) ((hm g i).mpr hi)
  rw [xE_o hg] at hw
  obtain ⟨w1, w2, w3, w4, w5, w6, w7, T, N, w8⟩ := hcv
  have hts := hC.2.2.2.2.2.1
  have hSt := hC.2.2.2.2.2.2.2.2.2.1
  have hK := hC.2.2.2.2.2.2.2.2.2.2
  have hr := va_runV (cells := cells) (slots := slots) (locs := locs) (below := below) (e := e) (meth := meth) (R := RM) (g := F0 m pc lsA st0) (As := As) (rest := st) (nL := y.2.2.1) (Ts := xTBL) (own := y.1.cls) (cc := y.2.1) ⟨hC.1, hC.2.1, hC.2.2.2.1, hC.2.2.2.2.1, hts⟩ (hM l hR.2.2) ⟨callB_of n hts (x_goodIn w5) rfl rfl rfl (hts _ w4) (hts _ w1) w6 ⟨hR.1, by have := hR.2.1; show 8 + (y'.2.2.1 + 11) + 48 * d ≤ _; omega⟩, hts _ w2, hts _ w3⟩ ⟨x_blind, va_recv hK hP w8 hw, x_pre hSt hK hH hS⟩ rfl hn hl.1 hst (lv_room hs8) hd ⟨by show cells + mc ≤ _; omega, by show slots + ms ≤ _; omega⟩
  exact x_after hr hS (fun v M' H1 locs1 hq hH1 hS1 => kk v M' hq p l e RM s m args below meth c H1 locs1 (cells + mc) (slots + ms) lsA hC hR hH1 hS1 (by show cells + mc + b1 ≤ _; simp only [] at hc; omega) (by show slots + ms + b2 ≤ _; simp only [] at hs; omega) hl)
theorem x_callS (hM : Mt G y' d (mc, ms) As M Qm) (hcv : xCS y.1.cls idx y' n) (hd : decode y.2.1 pc = .ok (.invokestatic idx, 3)) (hn : As.length = n) (hst : st0 = As.reverse ++ st) (hs8 : (st.map fun v => v.category).sum ≤ 8) (kk : ∀ v M', Qm v M' → X G y (d + 1) (b1, b2) (pc + 3) ls (v.toList ++ st) M' Q) : X G y (d + 1) (b1 + mc, b2 + ms) pc ls st0 M Q := by
  intro p l e RM s m args below meth c H locs cells slots lsA hC hR hH hS hc hs hl
  obtain ⟨w1, w2, w4, w5, w6, w7⟩ := hcv
  have hts := hC.2.2.2.2.2.1
  have hSt := hC.2.2.2.2.2.2.2.2.2.1
  have hK := hC.2.2.2.2.2.2.2.2.2.2
  have hr := va_runS (cells := cells) (slots := slots) (locs := locs) (below := below) (e := e) (meth := meth) (R := RM) (g := F0 m pc lsA st0) (As := As) (rest := st) (nL := y.2.2.1) (Ts := xTBL) (own := y.1.cls) (cc := y.2.1) ⟨hC.1, hC.2.1, hC.2.2.2.1, hC.2.2.2.2.1, hts⟩ (hM l hR.2.2) ⟨callB_of n hts (x_goodIn w5) rfl rfl rfl (hts _ w4) (hts _ w1) w6 ⟨hR.1, by have := hR.2.1; show 8 + (y'.2.2.1 + 11) + 48 * d ≤ _; omega⟩, hts _ w2⟩ ⟨x_blind, x_pre hSt hK hH hS⟩ rfl hn hl.1 hst (lv_room hs8) hd ⟨by show cells + mc ≤ _; omega, by show slots + ms ≤ _; omega⟩
  exact x_after hr hS (fun v M' H1 locs1 hq hH1 hS1 => kk v M' hq p l e RM s m args below meth c H1 locs1 (cells + mc) (slots + ms) lsA hC hR hH1 hS1 (by show cells + mc + b1 ≤ _; simp only [] at hc; omega) (by show slots + ms + b2 ≤ _; simp only [] at hs; omega) hl)
theorem x_callI {a : Nat} (hM : Mt G y' d (mc, ms) (.ref a :: As) M Qm) (hcv : xCI y.1.cls idx y' n) (hd : decode y.2.1 pc = .ok (.invokespecial idx, 3)) (hn : As.length = n) (hst : st0 = As.reverse ++ .ref a :: st) (hs8 : (st.map fun v => v.category).sum ≤ 8) (kk : ∀ v M', Qm v M' → X G y (d + 1) (b1, b2) (pc + 3) ls (v.toList ++ st) M' Q) : X G y (d + 1) (b1 + mc, b2 + ms) pc ls st0 M Q := by
  intro p l e RM s m args below meth c H locs cells slots lsA hC hR hH hS hc hs hl
  obtain ⟨w1, w2, w4, w5, w9, w10, w6, w7⟩ := hcv
  have hts := hC.2.2.2.2.2.1
  have hSt := hC.2.2.2.2.2.2.2.2.2.1
  have hK := hC.2.2.2.2.2.2.2.2.2.2
  have hM' := hM l hR.2.2
  rw [w9] at hM'
  have hr : va_Run p l e RM s m args below meth c H locs cells slots mc ms (F0 m pc lsA st0) st (xQ G Qm (Value.ref a :: As).toArray) (xA G) := by
    rcases w1 with w1 | ⟨host, w1⟩
    · exact va_runI (cells := cells) (slots := slots) (locs := locs) (below := below) (e := e) (meth := meth) (R := RM) (g := F0 m pc lsA st0) (As := As) (rest := st) (nL := y.2.2.1) (Ts := xTBL) (own := y.1.cls) (cc := y.2.1) ⟨hC.1, hC.2.1, hC.2.2.2.1, hC.2.2.2.2.1, hts⟩ hM' ⟨callB_of n hts (x_goodIn w5) rfl rfl rfl (hts _ w4) (hts _ w1) w6 ⟨hR.1, by have := hR.2.1; show 8 + (y'.2.2.1 + 11) + 48 * d ≤ _; omega⟩, w10, hts _ w2⟩ ⟨x_blind, x_pre hSt hK hH hS⟩ rfl hn hl.1 hst (lv_room hs8) hd ⟨by show cells + mc ≤ _; omega, by show slots + ms ≤ _; omega⟩
    · exact va_runIN (cells := cells) (slots := slots) (locs := locs) (below := below) (e := e) (meth := meth) (R := RM) (g := F0 m pc lsA st0) (As := As) (rest := st) (nL := y.2.2.1) (Ts := xTBL) (own := y.1.cls) (cc := y.2.1) (host := host) ⟨hC.1, hC.2.1, hC.2.2.2.1, hC.2.2.2.2.1, hts⟩ hM' ⟨va_cnB n hts (x_goodIn w5) rfl rfl rfl (hSt.2.2.2.2.2.2.2.2.2.1 _ w1) (hts _ w4) w6 ⟨hR.1, by have := hR.2.1; show 8 + (y'.2.2.1 + 11) + 48 * d ≤ _; omega⟩, w10, hts _ w2⟩ ⟨x_blind, x_pre hSt hK hH hS⟩ rfl hn hl.1 hst (lv_room hs8) hd ⟨by show cells + mc ≤ _; omega, by show slots + ms ≤ _; omega⟩
  exact x_after hr hS (fun v M' H1 locs1 hq hH1 hS1 => kk v M' hq p l e RM s m args below meth c H1 locs1 (cells + mc) (slots + ms) lsA hC hR hH1 hS1 (by show cells + mc + b1 ≤ _; simp only [] at hc; omega) (by show slots + ms + b2 ≤ _; simp only [] at hs; omega) hl)
theorem x_cvv {P : xM → Prop} (hM : Mt G y' d (0, 0) (.ref (ad g i) :: As) (ad, C, I, L, R) (qV P)) (hcv : xCV y.1.cls idx y' cn n) (hd : decode y.2.1 pc = .ok (.invokevirtual idx, 3)) (hg : xsh g = .inr cn) (hi : i < C g) (hn : As.length = n) (hst : st0 = As.reverse ++ .ref (ad g i) :: st) (hs8 : (st.map fun v => v.category).sum ≤ 8) (kk : ∀ M', P M' → X G y (d + 1) B (pc + 3) ls st M' Q) : X G y (d + 1) B pc ls st0 (ad, C, I, L, R) Q := x_callV (b1 := B.1) (b2 := B.2) hM hcv hd hg hi hn hst hs8 (fun v M' h => by obtain ⟨rfl, h⟩ := h; exact kk M' h)
theorem x_csv {P : xM → Prop} (hM : Mt G y' d (0, 0) As M (qV P)) (hcv : xCS y.1.cls idx y' n) (hd : decode y.2.1 pc = .ok (.invokestatic idx, 3)) (hn : As.length = n) (hst : st0 = As.reverse ++ st) (hs8 : (st.map fun v => v.category).sum ≤ 8) (kk : ∀ M', P M' → X G y (d + 1) B (pc + 3) ls st M' Q) : X G y (d + 1) B pc ls st0 M Q := x_callS (b1 := B.1) (b2 := B.2) hM hcv hd hn hst hs8 (fun v M' h => by obtain ⟨rfl, h⟩ := h; exact kk M' h)
theorem x_cvi {P : Int32 → xM → Prop} (hM : Mt G y' d (0, 0) (.ref (ad g i) :: As) (ad, C, I, L, R) (qI P)) (hcv : xCV y.1.cls idx y' cn n) (hd : decode y.2.1 pc = .ok (.invokevirtual idx, 3)) (hg : xsh g = .inr cn) (hi : i < C g) (hn : As.length = n) (hst : st0 = As.reverse ++ .ref (ad g i) :: st) (hs8 : (st.map fun v => v.category).sum ≤ 8) (kk : ∀ r M', P r M' → X G y (d + 1) B (pc + 3) ls (.int r :: st) M' Q) : X G y (d + 1) B pc ls st0 (ad, C, I, L, R) Q := x_callV (b1 := B.1) (b2 := B.2) hM hcv hd hg hi hn hst hs8 (fun v M' h => by obtain ⟨r, rfl, h⟩ := h; exact kk r M' h)
theorem x_csi {P : Int32 → xM → Prop} (hM : Mt G y' d (0, 0) As M (qI P)) (hcv : xCS y.1.cls idx y' n) (hd : decode y.2.1 pc = .ok (.invokestatic idx, 3)) (hn : As.length = n) (hst : st0 = As.reverse ++ st) (hs8 : (st.map fun v => v.category).sum ≤ 8) (kk : ∀ r M', P r M' → X G y (d + 1) B (pc + 3) ls (.int r :: st) M' Q) : X G y (d + 1) B pc ls st0 M Q := x_callS (b1 := B.1) (b2 := B.2) hM hcv hd hn hst hs8 (fun v M' h => by obtain ⟨r, rfl, h⟩ := h; exact kk r M' h)
theorem x_cvl {P : Int64 → xM → Prop} (hM : Mt G y' d (0, 0) (.ref (ad g i) :: As) (ad, C, I, L, R) (qL P)) (hcv : xCV y.1.cls idx y' cn n) (hd : decode y.2.1 pc = .ok (.invokevirtual idx, 3)) (hg : xsh g = .inr cn) (hi : i < C g) (hn : As.length = n) (hst : st0 = As.reverse ++ .ref (ad g i) :: st) (hs8 : (st.map fun v => v.category).sum ≤ 8) (kk : ∀ r M', P r M' → X G y (d + 1) B (pc + 3) ls (.long r :: st) M' Q) : X G y (d + 1) B pc ls st0 (ad, C, I, L, R) Q := x_callV (b1 := B.1) (b2 := B.2) hM hcv hd hg hi hn hst hs8 (fun v M' h => by obtain ⟨r, rfl, h⟩ := h; exact kk r M' h)
theorem x_csl {P : Int64 → xM → Prop} (hM : Mt G y' d (0, 0) As M (qL P)) (hcv : xCS y.1.cls idx y' n) (hd : decode y.2.1 pc = .ok (.invokestatic idx, 3)) (hn : As.length = n) (hst : st0 = As.reverse ++ st) (hs8 : (st.map fun v => v.category).sum ≤ 8) (kk : ∀ r M', P r M' → X G y (d + 1) B (pc + 3) ls (.long r :: st) M' Q) : X G y (d + 1) B pc ls st0 M Q := x_callS (b1 := B.1) (b2 := B.2) hM hcv hd hn hst hs8 (fun v M' h => by obtain ⟨r, rfl, h⟩ := h; exact kk r M' h)
theorem x_cvr {P : Nat → xM → Prop} (hM : Mt G y' d (0, 0) (.ref (ad g i) :: As) (ad, C, I, L, R) (qR P)) (hcv : xCV y.1.cls idx y' cn n) (hd : decode y.2.1 pc = .ok (.invokevirtual idx, 3)) (hg : xsh g = .inr cn) (hi : i < C g) (hn : As.length = n) (hst : st0 = As.reverse ++ .ref (ad g i) :: st) (hs8 : (st.map fun v => v.category).sum ≤ 8) (kk : ∀ r M', P r M' → X G y (d + 1) B (pc + 3) ls (.ref r :: st) M' Q) : X G y (d + 1) B pc ls st0 (ad, C, I, L, R) Q := x_callV (b1 := B.1) (b2 := B.2) hM hcv hd hg hi hn hst hs8 (fun v M' h => by obtain ⟨r, rfl, h⟩ := h; exact kk r M' h)
theorem x_csr {P : Nat → xM → Prop} (hM : Mt G y' d (0, 0) As M (qR P)) (hcv : xCS y.1.cls idx y' n) (hd : decode y.2.1 pc = .ok (.invokestatic idx, 3)) (hn : As.length = n) (hst : st0 = As.reverse ++ st) (hs8 : (st.map fun v => v.category).sum ≤ 8) (kk : ∀ r M', P r M' → X G y (d + 1) B (pc + 3) ls (.ref r :: st) M' Q) : X G y (d + 1) B pc ls st0 M Q := x_callS (b1 := B.1) (b2 := B.2) hM hcv hd hn hst hs8 (fun v M' h => by obtain ⟨r, rfl, h⟩ := h; exact kk r M' h)
end XCb

theorem Met.post_x {l : Launch} {y : MethodName} {ws : List Cond} {rm : Room} {Pc : Array Value → State → Prop} {Qc Qc' : Array Value → State → Outcome → State → Prop} {mc ms : Nat} {free : Addr → Prop} (h : Met l y ws rm Pc Qc mc ms free) (hq : ∀ a st o t, Qc a st o t → Qc' a st o t) : Met l y ws rm Pc Qc' mc ms free := by
  unfold Met MetFree at h ⊢
  intro p e h1 h2 h3 s m args below h4 h5 h6 h7
  obtain ⟨t, o, k1, k2, k3, k4, k5⟩ := h p e h1 h2 h3 s m args below h4 h5 h6 h7
  exact ⟨t, o, k1, k2, k3, hq _ _ _ _ k4, k5⟩
/-- a contract says less -/
theorem Mt.wk {G : xG} {y : xY} {d : Nat} {B : Nat × Nat} {as : List Value} {M : xM} {Q Q' : Option Value → xM → Prop} (h : Mt G y d B as M Q) (hq : ∀ v M', Q v M' → Q' v M') : Mt G y d B as M Q' := by
  intro l hl0
  refine Met.post_x (h l hl0) ?_
  rintro a st o t ⟨⟨v, M', e1, e2, e3⟩, e4⟩
  exact ⟨⟨v, M', e1, hq v M' e2, e3⟩, e4⟩

