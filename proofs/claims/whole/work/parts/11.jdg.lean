/-! words, statics -/
def xTBL : List Cond := lw_tbl.filter goodWord
def xSRL : List (String × Nat × String) := [("SmellCustoms$Teller", 75, "border land smell nose place path leaves traveller walk asked whiff on in"), ("SmellCustoms$Teller", 128, "wind"), ("SmellCustoms$Teller", 144, "duty"), ("SmellCustoms$Teller", 152, "plain heavy cover burnt incense"), ("SmellCustoms$Teller", 157, "from"), ("SmellCustoms$Teller", 165, "skill"), ("SmellCustoms$Teller", 170, "in"), ("SmellCustoms$Teller", 178, "nose"), ("SmellCustoms$Teller", 186, "hours"), ("SmellCustoms$Teller", 187, "simple soldier bride child"), ("SmellCustoms$Teller", 192, "home"), ("SmellCustoms$Teller", 196, "at"), ("SmellCustomsModel", 162, "border"), ("SmellCustomsModel", 269, "wind"), ("SmellCustomsModel", 164, "land"), ("SmellCustomsModel", 166, "smell"), ("SmellCustomsModel", 168, "nose"), ("SmellCustomsModel", 169, "place"), ("SmellCustomsModel", 170, "path"), ("SmellCustomsModel", 172, "leaves"), ("SmellCustomsModel", 174, "traveller"), ("SmellCustomsModel", 176, "on"), ("SmellCustomsModel", 178, "walk"), ("SmellCustomsModel", 180, "asked"), ("SmellCustomsModel", 182, "whiff"), ("SmellCustomsModel", 184, "in"), ("SmellCustomsModel", 284, "duty"), ("SmellCustomsModel", 291, "plain"), ("SmellCustomsModel", 293, "heavy"), ("SmellCustomsModel", 295, "cover"), ("SmellCustomsModel", 297, "burnt"), ("SmellCustomsModel", 299, "incense"), ("SmellCustomsModel", 307, "from"), ("SmellCustomsModel", 321, "skill"), ("SmellCustomsModel", 337, "hours"), ("SmellCustomsModel", 346, "simple"), ("SmellCustomsModel", 348, "soldier"), ("SmellCustomsModel", 350, "bride"), ("SmellCustomsModel", 352, "child"), ("SmellCustomsModel", 354, "home"), ("SmellCustomsModel", 356, "at")]
def xSBL : List (List Int32) := [[98, 111, 114, 100, 101, 114, 32, 108, 97, 110, 100, 32, 115, 109, 101, 108, 108, 32, 110, 111, 115, 101, 32, 112, 108, 97, 99, 101, 32, 112, 97, 116, 104, 32, 108, 101, 97, 118, 101, 115, 32, 116, 114, 97, 118, 101, 108, 108, 101, 114, 32, 119, 97, 108, 107, 32, 97, 115, 107, 101, 100, 32, 119, 104, 105, 102, 102, 32, 111, 110, 32, 105, 110], [119, 105, 110, 100], [100, 117, 116, 121], [112, 108, 97, 105, 110, 32, 104, 101, 97, 118, 121, 32, 99, 111, 118, 101, 114, 32, 98, 117, 114, 110, 116, 32, 105, 110, 99, 101, 110, 115, 101], [102, 114, 111, 109], [115, 107, 105, 108, 108], [105, 110], [110, 111, 115, 101], [104, 111, 117, 114, 115], [115, 105, 109, 112, 108, 101, 32, 115, 111, 108, 100, 105, 101, 114, 32, 98, 114, 105, 100, 101, 32, 99, 104, 105, 108, 100], [104, 111, 109, 101], [97, 116], [98, 111, 114, 100, 101, 114], [119, 105, 110, 100], [108, 97, 110, 100], [115, 109, 101, 108, 108], [110, 111, 115, 101], [112, 108, 97, 99, 101], [112, 97, 116, 104], [108, 101, 97, 118, 101, 115], [116, 114, 97, 118, 101, 108, 108, 101, 114], [111, 110], [119, 97, 108, 107], [97, 115, 107, 101, 100], [119, 104, 105, 102, 102], [105, 110], [100, 117, 116, 121], [112, 108, 97, 105, 110], [104, 101, 97, 118, 121], [99, 111, 118, 101, 114], [98, 117, 114, 110, 116], [105, 110, 99, 101, 110, 115, 101], [102, 114, 111, 109], [115, 107, 105, 108, 108], [104, 111, 117, 114, 115], [115, 105, 109, 112, 108, 101], [115, 111, 108, 100, 105, 101, 114], [98, 114, 105, 100, 101], [99, 104, 105, 108, 100], [104, 111, 109, 101], [97, 116]]
def xNFL : List (String × Nat × String × String × String × String) := [("SmellCustomsModel", 189, "SmellCustomsModel$Border", "wind", "I", "SmellCustomsModel"), ("SmellCustomsModel", 227, "SmellCustomsModel$Border", "lands", "I", "SmellCustomsModel"), ("SmellCustomsModel", 301, "SmellCustomsModel$Border", "smells", "I", "SmellCustomsModel"), ("SmellCustomsModel", 318, "SmellCustomsModel$Border", "noses", "I", "SmellCustomsModel"), ("SmellCustomsModel", 230, "SmellCustomsModel$Border", "places", "I", "SmellCustomsModel"), ("SmellCustomsModel", 331, "SmellCustomsModel$Border", "paths", "I", "SmellCustomsModel"), ("SmellCustomsModel", 338, "SmellCustomsModel$Border", "left", "I", "SmellCustomsModel"), ("SmellCustomsModel", 343, "SmellCustomsModel$Border", "travellers", "I", "SmellCustomsModel"), ("SmellCustomsModel", 365, "SmellCustomsModel$Border", "ons", "I", "SmellCustomsModel"), ("SmellCustomsModel", 375, "SmellCustomsModel$Border", "walks", "I", "SmellCustomsModel"), ("SmellCustomsModel", 378, "SmellCustomsModel$Border", "asks", "I", "SmellCustomsModel"), ("SmellCustomsModel", 387, "SmellCustomsModel$Border", "whiffs", "I", "SmellCustomsModel"), ("SmellCustomsModel", 206, "SmellCustomsModel$Border", "names", "I", "SmellCustomsModel"), ("SmellCustomsModel", 289, "SmellCustomsModel$Border", "duty", "[I", "SmellCustomsModel"), ("SmellCustomsModel", 313, "SmellCustomsModel$Border", "kind", "[I", "SmellCustomsModel"), ("SmellCustomsModel", 316, "SmellCustomsModel$Border", "from", "[I", "SmellCustomsModel"), ("SmellCustomsModel", 323, "SmellCustomsModel$Border", "skill", "[I", "SmellCustomsModel"), ("SmellCustomsModel", 325, "SmellCustomsModel$Border", "landOf", "[I", "SmellCustomsModel"), ("SmellCustomsModel", 328, "SmellCustomsModel$Border", "noseOf", "[I", "SmellCustomsModel"), ("SmellCustomsModel", 334, "SmellCustomsModel$Border", "hours", "[I", "SmellCustomsModel"), ("SmellCustomsModel", 341, "SmellCustomsModel$Border", "leaves", "[I", "SmellCustomsModel"), ("SmellCustomsModel", 358, "SmellCustomsModel$Border", "sortOf", "[I", "SmellCustomsModel"), ("SmellCustomsModel", 361, "SmellCustomsModel$Border", "home", "[I", "SmellCustomsModel"), ("SmellCustomsModel", 363, "SmellCustomsModel$Border", "at", "[I", "SmellCustomsModel"), ("SmellCustomsModel", 368, "SmellCustomsModel$Border", "on", "[I", "SmellCustomsModel"), ("SmellCustomsModel", 370, "SmellCustomsModel$Border", "walkSize", "[I", "SmellCustomsModel"), ("SmellCustomsModel", 373, "SmellCustomsModel$Border", "walk", "[I", "SmellCustomsModel"), ("SmellCustomsModel", 381, "SmellCustomsModel$Border", "askedOf", "[I", "SmellCustomsModel"), ("SmellCustomsModel", 384, "SmellCustomsModel$Border", "askedMuch", "[I", "SmellCustomsModel"), ("SmellCustomsModel", 274, "SmellCustomsModel$Border", "whiff", "[I", "SmellCustomsModel"), ("SmellCustomsModel", 202, "SmellCustomsModel$Border", "name", "[J", "SmellCustomsModel"), ("SmellCustomsModel", 209, "SmellCustomsModel$Border", "nameSort", "[I", "SmellCustomsModel"), ("SmellCustomsModel", 212, "SmellCustomsModel$Border", "numberOf", "[I", "SmellCustomsModel")]
def xNML : List (String × Nat × MethodName × String) := [("SmellCustoms", 15, ⟨"SmellCustoms$Border", "<init>", "()V"⟩, "SmellCustoms"), ("SmellCustoms$Teller", 11, ⟨"SmellCustoms$Border", "<init>", "()V"⟩, "SmellCustoms"), ("SmellCustoms$Acts", 35, ⟨"SmellCustoms$Person", "<init>", "()V"⟩, "SmellCustoms"), ("SmellCustomsModel", 393, ⟨"SmellCustomsModel$Border", "<init>", "()V"⟩, "SmellCustomsModel")]

def xFadesL : List Int32 := [2, 1, 2, 4, 1]
def xRoomL : List Int32 := [1, 4, 6, 4, 6, 10, 8, 4, 99, 4, 99, 12]
def xsb (k : Nat) : List Int32 := xSBL.getD k []
/-- what stands from the start on: String constants, static arrays, the words of nest mates -/
def xSt (G : xG) (U : State) (H : Heap) : Prop :=
  (∀ i, i < 41 → va_O "java/lang/String" (G.2.2.1 i) (xA G) U H ∧ va_OF "java/lang/String" "coder" "B" (.int 0) (G.2.2.1 i) (xA G) U H ∧ va_OF "java/lang/String" "value" "[B" (.ref (G.2.2.2.1 i)) (G.2.2.1 i) (xA G) U H ∧ va_T .byte (G.2.2.2.1 i) (xsb i).length (fun j => .int ((xsb i).getD j 0)) (xA G) U H) ∧
  (∀ (k : Nat) (q : String × Nat × String), xSRL[k]? = some q → vk_R q.1 q.2.1 q.2.2 (G.2.2.1 k) U) ∧
  va_Z "SmellCustoms$Air" "FADES" "[I" (.ref (G.2.2.2.2.1 0)) (xA G) U H ∧ va_T .int (G.2.2.2.2.1 0) 5 (fun j => .int (xFadesL.getD j 0)) (xA G) U H ∧
  va_Z "SmellCustoms$Teller" "ROOM" "[I" (.ref (G.2.2.2.2.1 1)) (xA G) U H ∧ va_T .int (G.2.2.2.2.1 1) 12 (fun j => .int (xRoomL.getD j 0)) (xA G) U H ∧
  va_Z "java/lang/String" "COMPACT_STRINGS" "Z" (.int 1) (xA G) U H ∧ va_Zq "jdk/internal/util/Preconditions" "SIOOBE_FORMATTER" "Ljava/util/function/BiFunction;" (xA G) U H ∧
  (∀ q ∈ xNFL, va_Nw (.fieldLinkNest q.1 q.2.1 q.2.2.1 q.2.2.2.1 q.2.2.2.2.1 q.2.2.2.2.2) U) ∧ (∀ q ∈ xNML, va_Nw (.methodLinkNest q.1 q.2.1 q.2.2.1 q.2.2.2) U) ∧ xSx (xA G) U H ∧ va_T .int (G.2.2.2.2.1 2) (G.2.2.2.2.1 3) (fun j => .int (nI (G.2.2.2.2.1 (4 + j)))) (xA G) U H
theorem xSt.warm {G : xG} {s U : State} {H : Heap} (hW : s.WarmedH U.vm) (h : xSt G s H) : xSt G U H := by
  obtain ⟨h1, h2, h3, h4, h5, h6, h7, h77, h8, h9, h10, h11⟩ := h
  have ha := hW.alike
  exact ⟨fun i hi => ⟨va_O.moved ha (h1 i hi).1, va_OF.moved ha (h1 i hi).2.1, va_OF.moved ha (h1 i hi).2.2.1, va_T.moved ha (h1 i hi).2.2.2⟩, fun k q hk => (h2 k q hk).warm hW, h3.moved ha, h4.moved ha, h5.moved ha, h6.moved ha, h7.moved ha, h77.moved ha, fun q hq => (h8 q hq).warmF hW, fun q hq => (h9 q hq).warmM hW, h10.moved ha, h11.moved ha⟩
theorem xSt.same {G : xG} {s U : State} {H : Heap} (hv : U.vm = s.vm) (h : xSt G s H) : xSt G U H := by
  refine xSt.warm (s := s) ?_ h
  rw [hv]
  exact State.WarmedH.refl s
theorem xSt.kept {G : xG} {U : State} {H H1 : Heap} (h : xSt G U H) (hq : ∀ a : Nat, a < H.size → ¬ xA G a → H1[a]? = H[a]?) : xSt G U H1 := by
  obtain ⟨h1, h2, h3, h4, h5, h6, h7, h77, h8, h9, h10, h11⟩ := h
  exact ⟨fun i hi => ⟨(h1 i hi).1.kept hq, (h1 i hi).2.1.kept hq, (h1 i hi).2.2.1.kept hq, (h1 i hi).2.2.2.kept hq⟩, h2, h3.kept hq, h4.kept hq, h5.kept hq, h6.kept hq, h7.kept hq, h77.kept hq, h8, h9, h10.kept hq, h11.kept hq⟩
/-- a method: its name, its code, its locals, its answer's type -/
abbrev xY : Type := MethodName × ByteArray × Nat × Option FieldType
abbrev xR (d mc ms : Nat) : Room := { frames := d, cells := mc, slots := ms, locals := 48 * d }
def xlk : List (Nat × Option Value) → Nat → Option Value
  | [], _ => none
  | (k, v) :: t, i => match Nat.beq k i with
    | true => v
    | false => xlk t i
def xL (lsA : Array Slot) (n : Nat) (ls : List (Nat × Option Value)) : Prop := lsA.size = n ∧ lv_wf lsA ∧ ∀ i v, xlk ls i = some v → lsA[i]? = some (.val v)
def xCx (G : xG) (y : xY) (p : Program) (s : State) (m : MethodId) (args : Array Value) (meth : Method) (c : Code) : Prop :=
  p.tables.exec = Jvm.exec ∧ c.code = y.2.1 ∧ meth.sig.returnType = y.2.2.2 ∧ c.maxLocals = y.2.2.1 ∧ s.vm.findClass y.1.cls = some m.cls ∧ (∀ w ∈ xTBL, w.before args s = true) ∧ meth.locks = false ∧ (meth.name = y.1.name ∧ s.methodNamed? y.1 = some m) ∧ G.2.2.2.2.2 ≤ s.heap.size ∧ xSt G s s.heap ∧ va_K G.1 vwCl (xtys G) s
def xQ (G : xG) (Q : Option Value → xM → Prop) : Array Value → State → Outcome → State → Prop := fun _ st o t => (∃ (v : Option Value) (M : xM), o = .returned v ∧ Q v M ∧ xH G M t.heap) ∧ va_F (xA G) st t
/-- where a walk is to end -/
abbrev xTg : Type := List Frame → Array Value → State → Nat → Nat → State → Prop
/-- a method's ordinary end: it answers, with Q -/
def xT (G : xG) (Q : Option Value → xM → Prop) : xTg := fun below args s MC MS => MQ below (xQ G Q) args s MC MS (xA G)
def X (G : xG) (y : xY) (d : Nat) (B : Nat × Nat) (pc : Nat) (ls : List (Nat × Option Value)) (st : List Value) (M : xM) (Q : xTg) : Prop :=
  ∀ (p : Program) (l : Launch) (e : Env) (RM : Room) (s : State) (m : MethodId) (args : Array Value) (below : List Frame) (meth : Method) (c : Code) (H : Heap) (locs : List Loc) (cells slots : Nat) (lsA : Array Slot), xCx G y p s m args meth c → d ≤ RM.frames ∧ 48 * d ≤ RM.locals ∧ l.stackTraces = false → xH G M H → va_S (xA G) s.heap H locs → cells + B.1 ≤ RM.cells → slots + B.2 ≤ RM.slots → xL lsA y.2.2.1 ls →
    W p l e RM s m args below meth c H locs cells slots (Q below args s RM.cells RM.slots) (F0 m pc lsA st)
/-- a method's contract at given arguments and memory -/
def Mt (G : xG) (y : xY) (d : Nat) (B : Nat × Nat) (as : List Value) (M : xM) (Q : Option Value → xM → Prop) : Prop :=
  ∀ l : Launch, l.stackTraces = false → Met l y.1 (Cond.code y.1 y.2.1 y.2.2.1 y.2.2.2 :: xTBL) (xR d B.1 B.2) (va_Pc as (fun U => xH G M U.heap ∧ xSt G U U.heap ∧ va_K G.1 vwCl (xtys G) U)) (xQ G Q) B.1 B.2 (xA G)
/-- the locals with which a method begins -/
def xla : Nat → List Value → List (Nat × Option Value)
  | _, [] => []
  | i, v :: vs => (i, some v) :: xla (if v.category = 2 then i + 2 else i + 1) vs
theorem xla_mem : ∀ (vs : List Value) (k i : Nat) (v : Value), xlk (xla k vs) i = some v → (i, v) ∈ lv_args k vs
  | [], k, i, v, h => by simp [xla, xlk] at h
  | w :: vs, k, i, v, h => by
    unfold xla xlk at h
    unfold lv_args
    cases hb : Nat.beq k i with
    | true =>
      rw [hb] at h
      have : k = i := Nat.eq_of_beq_eq_true hb
      subst this
      cases h
      exact List.mem_cons_self
    | false =>
      rw [hb] at h
      exact List.mem_cons_of_mem _ (xla_mem vs _ i v h)
theorem x_start {G : xG} {y : xY} {d : Nat} {B : Nat × Nat} {as : List Value} {M : xM} {Q : Option Value → xM → Prop} (hn : plainName y.1.cls = true) (hl : (lg_sl as).length ≤ y.2.2.1) (h : X G y d B 0 (xla 0 as) [] M (xT G Q)) : Mt G y d B as M Q := by
  intro l hl0
  refine Met.ofW (cc := y.2.1) (maxL := y.2.2.1) (ret := y.2.2.2) hn rfl ?_
  intro p e s m args below meth c s₁ Bo hml hv
  obtain ⟨rfl, hH, hSt, hK⟩ := hv
  have hts := atoms_spec (ws := Cond.code y.1 y.2.1 y.2.2.1 y.2.2.2 :: xTBL) Bo.pre
  have hent := lv_entry as (n := y.2.2.1) hl
  rw [lg_entry_eq]
  refine h p l e (xR d B.1 B.2) s m _ below meth c s.heap [] 0 0 _ ⟨Bo.exec, Bo.bytes, Bo.returns, hml, findClass_of_methodNamed Bo.named, fun w hw => hts w (List.mem_cons_of_mem _ hw), Bo.notSynchronized, ⟨(name_of_methodNamed Bo.named Bo.method).1, Bo.named⟩, hH.1, hSt, hK⟩ ⟨Nat.le_refl _, Nat.le_refl _, hl0⟩ hH va_S.rf (Nat.le_of_eq (Nat.zero_add _)) (Nat.le_of_eq (Nat.zero_add _)) ⟨hent.1, hent.2.1, fun i v hi => hent.2.2 (i, v) (xla_mem as 0 i v hi)⟩
