section M26
variable {G : xG} {ad : Nat → Nat → Nat} {nb : Nat} {b r : Option Nat} {L : Nat → Nat → Nat → Int64} {V : sV} {I : Nat → Nat → Nat → Int32} {d : Nat}

variable {N : sN} {ns : List Nat} {A : List (List Nat)}
def mdr (V : sV) (r : Nat) (ns : List Nat) : Nat → Nat → List (List Nat)
  | 0, _ => []
  | m + 1, c => (if c ∉ ns then md V r (ns ++ [c]) else []) ++ mdr V r ns m (c + 1)
theorem mdr_rg {r : Nat} : ∀ m c, (List.range c).flatMap (fun q => if q ∉ ns then md V r (ns ++ [q]) else []) ++ mdr V r ns m c = (List.range (c + m)).flatMap (fun q => if q ∉ ns then md V r (ns ++ [q]) else [])
  | 0, c => by rw [show mdr V r ns 0 c = [] from rfl, List.append_nil]; rfl
  | m + 1, c => by
    rw [show mdr V r ns (m + 1) c = (if c ∉ ns then md V r (ns ++ [c]) else []) ++ mdr V r ns m (c + 1) from rfl, ← List.append_assoc, ← rg_succ, mdr_rg m (c + 1), show c + 1 + m = c + (m + 1) by omega]
theorem md_mdr {r : Nat} : md V (r + 1) ns = mdr V r ns (V 0 3 0) 0 := by
  have := mdr_rg (V := V) (ns := ns) (r := r) (V 0 3 0) 0
  rw [List.range_zero, List.flatMap_nil, List.nil_append, Nat.zero_add] at this
  rw [this]
  rfl
theorem mdr_none {r : Nat} : ∀ m c, (∀ j, c ≤ j → j < c + m → j ∈ ns) → mdr V r ns m c = []
  | 0, _, _ => rfl
  | m + 1, c, h => by
    rw [show mdr V r ns (m + 1) c = (if c ∉ ns then md V r (ns ++ [c]) else []) ++ mdr V r ns m (c + 1) from rfl, if_neg (fun z => z (h c (by omega) (by omega))), mdr_none m (c + 1) (fun j h1 h2 => h j (by omega) (by omega))]
    rfl
theorem mdr_next {r q : Nat} : ∀ m c, c ≤ q → q < c + m → (∀ j, c ≤ j → j < q → j ∈ ns) → q ∉ ns → mdr V r ns m c = md V r (ns ++ [q]) ++ mdr V r ns (c + m - (q + 1)) (q + 1)
  | 0, c, h1, h2, _, _ => by omega
  | m + 1, c, h1, h2, h3, h4 => by
    rw [show mdr V r ns (m + 1) c = (if c ∉ ns then md V r (ns ++ [c]) else []) ++ mdr V r ns m (c + 1) from rfl]
    by_cases e : c = q
    · subst e
      rw [if_pos h4, show c + (m + 1) - (c + 1) = m by omega]
    · rw [if_neg (fun z => z (h3 c (by omega) (by omega))), List.nil_append, mdr_next m (c + 1) (by omega) (by omega) (fun j k1 k2 => h3 j (by omega) k2) h4, show c + 1 + m - (q + 1) = c + (m + 1) - (q + 1) by omega]
theorem wsN_le (hV : VW V) (hW : NW V N) : wsN V N ns ≤ 213840 := by
  have := wsm_le (nz := fun p => (toA V ns).getD p 0) hV hW (V 0 7 0) (Nat.le_refl _)
  have := hV.2.2.2.2.2.2.2.1
  unfold wsN
  omega
theorem psM_le (hV : VW V) (hW : NW V N) : ∀ (A : List (List Nat)) (q : Nat × List Nat), q.1 ≤ 213841 → (A.foldl (pmF V N) q).1 ≤ 213841
  | [], q, h => h
  | a :: A, q, h => by
    refine psM_le hV hW A (pmF V N q a) ?_
    have := wsN_le (ns := a) hV hW
    unfold pmF
    split
    · show wsN V N a + 1 ≤ 213841; omega
    · exact h
theorem nO_lt {m s : Nat} (hm : m < 2 ^ 30) (hs : s < 2 ^ 30) : nO (-1) m < nI s ↔ m ≤ s := by
  rcases Nat.eq_zero_or_pos m with e | e
  · subst e
    refine ⟨fun _ => Nat.zero_le _, fun _ => ?_⟩
    apply Int32.lt_iff_toInt_lt.mpr
    rw [nI_toInt (by omega)]
    show (-1 : Int) < (s : Int)
    omega
  · rw [nO_pos (by omega)]
    constructor
    · intro h
      have := Int32.lt_iff_toInt_lt.mp h
      rw [nI_toInt (by omega), nI_toInt (by omega)] at this
      omega
    · intro h
      apply Int32.lt_iff_toInt_lt.mpr
      rw [nI_toInt (by omega), nI_toInt (by omega)]
      omega
/-- amid the search -/
def SO (V : sV) (N : sN) (A : List (List Nat)) (ns : List Nat) (I I1 : Nat → Nat → Nat → Int32) : Prop := (I1 13 0 41 = nI (mnd V) ∧ PP V (V 0 4 0) I1 ∧ FO I I1) ∧ (∀ i, i < ns.length → I1 101 0 i = nI (ns.getD i 0)) ∧ ((psM V N A).1 ≠ 0 → ∀ i, i < mnd V → I1 102 0 i = nI ((psM V N A).2.getD i 0))
theorem SO.w {k : Nat} {v : Int32} {I1 : Nat → Nat → Nat → Int32} (h : SO V N A ns I I1) (hk : ns.length ≤ k) : SO V N A ns I (xu I1 101 0 k v) := ⟨⟨by rw [xu_ns (by decide)]; exact h.1.1, fun q h1 h2 => by rw [xu_ns (by decide)]; exact h.1.2.1 q h1 h2, h.1.2.2.tr (FO.of (s0 := 101) (fun q hq => by funext x y; rw [xu_ns hq]) (by omega))⟩, fun i hi => by rw [xu_nk (by omega)]; exact h.2.1 i hi, fun z i hi => by rw [xu_ns (by decide)]; exact h.2.2 z i hi⟩
theorem pre101 {q : Nat} {I1 : Nat → Nat → Nat → Int32} (h : ∀ i, i < ns.length → I1 101 0 i = nI (ns.getD i 0)) (hq : I1 101 0 ns.length = nI q) : ∀ i, i < (ns ++ [q]).length → I1 101 0 i = nI ((ns ++ [q]).getD i 0) := by
  intro i hi
  rw [List.length_append] at hi
  have hi2 : i < ns.length + 1 := hi
  rw [List.getD_eq_getElem?_getD]
  by_cases e : i = ns.length
  · rw [e, List.getElem?_concat_length]; exact hq
  · rw [List.getElem?_append_left (by omega), ← List.getD_eq_getElem?_getD]; exact h i (by omega)
theorem un101 {q : Nat} {I1 : Nat → Nat → Nat → Int32} (h : ∀ i, i < (ns ++ [q]).length → I1 101 0 i = nI ((ns ++ [q]).getD i 0)) : (∀ i, i < ns.length → I1 101 0 i = nI (ns.getD i 0)) ∧ I1 101 0 ns.length = nI q := by
  have hl : (ns ++ [q]).length = ns.length + 1 := by rw [List.length_append]; rfl
  refine ⟨fun i hi => ?_, ?_⟩
  · rw [h i (by omega), List.getD_eq_getElem?_getD, List.getElem?_append_left hi, ← List.getD_eq_getElem?_getD]
  · rw [h ns.length (by omega), List.getD_eq_getElem?_getD, List.getElem?_concat_length]; rfl

set_option maxRecDepth 100000 in
set_option maxHeartbeats 600000 in
theorem lp_mpf (hV : VW V) {bi : Nat} (hb : b = some bi) (hbn : bi < nb) (hW : NW V N) (hB : YB V bi I) (hN : YN V N I) {Az : List (List Nat)} (h4n : ns.length < 4) (hnq : ∀ x ∈ ns, x < V 0 3 0) {c0 : Nat} (kc : ∀ q I2, c0 ≤ q → q ≤ V 0 3 0 → (∀ j, c0 ≤ j → j < q → j ∈ ns) → (q < V 0 3 0 → q ∉ ns) → SO V N A ns I I2 → I2 101 0 ns.length = nI q → X G vX13_postings (d + 6) (0, 0) 148 [(0, some (.ref (ad 13 0))), (2, some (.int (nO (-1) (psM V N A).1))), (3, some (.int (nI (ns.length))))] [] (MM ad nb b r I2 L) (xT G (qI (fun rr M' => rr = nO (-1) (psM V N Az).1 ∧ ∃ I', M' = MM ad nb b r I' L ∧ SO V N Az [] I I')))) : ∀ (n : Nat) (c : Nat) (I1 : Nat → Nat → Nat → Int32), V 0 3 0 - c < n → c0 ≤ c → c ≤ V 0 3 0 → (∀ j, c0 ≤ j → j < c → j ∈ ns) → SO V N A ns I I1 → I1 101 0 ns.length = nI c → X G vX13_postings (d + 6) (0, 0) 111 [(0, some (.ref (ad 13 0))), (2, some (.int (nO (-1) (psM V N A).1))), (3, some (.int (nI (ns.length))))] [] (MM ad nb b r I1 L) (xT G (qI (fun rr M' => rr = nO (-1) (psM V N Az).1 ∧ ∃ I', M' = MM ad nb b r I' L ∧ SO V N Az [] I I'))) := by
  have v0 := hV.1
  have v1 := hV.2.1
  have v2 := hV.2.2.1
  have v3 := hV.2.2.2.1
  have v4 := hV.2.2.2.2.1
  have v7 := hV.2.2.2.2.2.2.2.1
  have v9 := hV.2.2.2.2.2.2.2.2.2.1
  have v10 := hV.2.2.2.2.2.2.2.2.2.2.1
  have hm3 : mnd V ≤ V 0 3 0 := Nat.min_le_right _ _
  have hmp : mnd V ≤ pc V (V 0 4 0) := Nat.min_le_left _ _
  intro n
  induction n with
  | zero => intro c I1 h0; omega
  | succ n ih =>
    intro c I1 hn hc0 hc hno hS hk
    have hB1 := hB.mx hS.1.2.2.mx
    refine x_aload_n dX13_postings_111 rfl ?_
    refine g_M_nose fX13_66 dX13_postings_112 ?_
    refine x_iload_n dX13_postings_115 rfl ?_
    refine x_iald dX13_postings_116 rfl rfl (Nat.le_of_ble_eq_true rfl) (by first | exact Nat.le_of_ble_eq_true rfl | assumption | omega) ?_
    rw [hk]
    refine x_aload_n dX13_postings_117 rfl ?_
    refine g_M_border hb fX13_397 dX13_postings_118 ?_
    refine g_MB_noses fX13_318 dX13_postings_121 hbn ?_
    refine x_top (y12_3 hB1) ?_
    refine x_icN_ge 148 dX13_postings_124 (by decide) (by omega) (by omega) (fun h124 => ?_) (fun h124 => ?_)
    · first
        | (refine x_ls ?_ (kc c I1 hc0 hc hno (fun z => of_decide_eq_false (bI_eq.mp h132)) hS hk); exact ⟨rfl, rfl, rfl, trivial⟩)
        | (refine x_ls ?_ (kc c I1 hc0 hc hno (fun z => absurd h124 (by omega)) hS hk); exact ⟨rfl, rfl, rfl, trivial⟩)
    · refine x_aload_n dX13_postings_127 rfl ?_
      refine x_iload_n dX13_postings_128 rfl ?_
      refine x_cvi (m_isBusy (d := d + 5) (ns := ns) (q := c) hS.2.1 (by omega) (fun x hx => by have := hnq x hx; omega) (by omega) hk) kX13_508 dX13_postings_129 rfl (Nat.le_of_ble_eq_true rfl) rfl rfl (Nat.le_of_ble_eq_true rfl) (fun ru Mu hq => ?_)
      obtain ⟨rfl, rfl⟩ := hq
      refine x_if_eq 148 dX13_postings_132 (by decide) (fun h132 => ?_) (fun h132 => ?_)
      · first
          | (refine x_ls ?_ (kc c I1 hc0 hc hno (fun z => of_decide_eq_false (bI_eq.mp h132)) hS hk); exact ⟨rfl, rfl, rfl, trivial⟩)
          | (refine x_ls ?_ (kc c I1 hc0 hc hno (fun z => absurd h124 (by omega)) hS hk); exact ⟨rfl, rfl, rfl, trivial⟩)
      · refine x_aload_n dX13_postings_135 rfl ?_
        refine g_M_nose fX13_66 dX13_postings_136 ?_
        refine x_iload_n dX13_postings_139 rfl ?_
        refine x_dup2 dX13_postings_140 rfl rfl ?_
        refine x_iald dX13_postings_141 rfl rfl (Nat.le_of_ble_eq_true rfl) (by first | exact Nat.le_of_ble_eq_true rfl | assumption | omega) ?_
        rw [hk]
        refine x_iconst dX13_postings_142 li_1 ?_
        refine x_iaddN dX13_postings_143 ?_
        refine x_iast dX13_postings_144 rfl rfl (Nat.le_of_ble_eq_true rfl) (by first | exact Nat.le_of_ble_eq_true rfl | assumption | omega) ?_
        refine x_goto 111 dX13_postings_145 (by decide) ?_
        refine x_ls ?_ (ih (c + 1) _ (by omega) (by omega) (by omega) (fun j h1 h2 => ?_) (hS.w (Nat.le_refl _)) xu_s)
        · exact ⟨rfl, rfl, rfl, trivial⟩
        · rcases (show j = c ∨ j < c by omega) with e | e
          · subst e; exact of_decide_eq_true (bI_ne.mp h132)
          · exact hno j h1 e
set_option maxRecDepth 100000 in
set_option maxHeartbeats 600000 in
theorem lp_mpc (hV : VW V) {bi : Nat} (hb : b = some bi) (hbn : bi < nb) (hW : NW V N) (hB : YB V bi I) (hN : YN V N I) {Az : List (List Nat)} {sm : Nat} {Ix : Nat → Nat → Nat → Int32} (h41 : Ix 13 0 41 = nI (mnd V)) (kc : ∀ I2, (∀ i, i < mnd V → I2 102 0 i = Ix 101 0 i) → (∀ s, s ≠ 102 → I2 s = Ix s) → X G vX13_postings (d + 6) (0, 0) 97 [(0, some (.ref (ad 13 0))), (2, some (.int (nI (sm)))), (3, some (.int (nI (ns.length))))] [] (MM ad nb b r I2 L) (xT G (qI (fun rr M' => rr = nO (-1) (psM V N Az).1 ∧ ∃ I', M' = MM ad nb b r I' L ∧ SO V N Az [] I I')))) : ∀ (n : Nat) (k : Nat) (I1 : Nat → Nat → Nat → Int32), mnd V - k < n → k ≤ mnd V → (∀ i, i < k → I1 102 0 i = Ix 101 0 i) → (∀ s, s ≠ 102 → I1 s = Ix s) → X G vX13_postings (d + 6) (0, 0) 214 [(0, some (.ref (ad 13 0))), (2, some (.int (nI (sm)))), (3, some (.int (nI (ns.length)))), (5, some (.int (nI (k))))] [] (MM ad nb b r I1 L) (xT G (qI (fun rr M' => rr = nO (-1) (psM V N Az).1 ∧ ∃ I', M' = MM ad nb b r I' L ∧ SO V N Az [] I I'))) := by
  have v0 := hV.1
  have v1 := hV.2.1
  have v2 := hV.2.2.1
  have v3 := hV.2.2.2.1
  have v4 := hV.2.2.2.2.1
  have v7 := hV.2.2.2.2.2.2.2.1
  have v9 := hV.2.2.2.2.2.2.2.2.2.1
  have v10 := hV.2.2.2.2.2.2.2.2.2.2.1
  have hm3 : mnd V ≤ V 0 3 0 := Nat.min_le_right _ _
  have hmp : mnd V ≤ pc V (V 0 4 0) := Nat.min_le_left _ _
  intro n
  induction n with
  | zero => intro k I1 h0; omega
  | succ n ih =>
    intro k I1 hn hk h1 hs
    refine x_iload dX13_postings_214 rfl ?_
    refine x_aload_n dX13_postings_216 rfl ?_
    refine g_M_manned fX13_502 dX13_postings_217 ?_
    rw [hs 13 (by decide), h41]
    refine x_icN_ge 243 dX13_postings_220 (by decide) (by omega) (by omega) (fun h220 => ?_) (fun h220 => ?_)
    · refine x_goto 97 dX13_postings_243 (by decide) ?_
      obtain rfl : k = mnd V := by omega
      refine x_ls ?_ (kc I1 h1 hs)
      exact ⟨rfl, rfl, rfl, trivial⟩
    · refine x_aload_n dX13_postings_223 rfl ?_
      refine g_M_bestNose fX13_69 dX13_postings_224 ?_
      refine x_iload dX13_postings_227 rfl ?_
      refine x_aload_n dX13_postings_229 rfl ?_
      refine g_M_nose fX13_66 dX13_postings_230 ?_
      refine x_iload dX13_postings_233 rfl ?_
      refine x_iald dX13_postings_235 rfl rfl (Nat.le_of_ble_eq_true rfl) (by first | exact Nat.le_of_ble_eq_true rfl | assumption | omega) ?_
      refine x_iast dX13_postings_236 rfl rfl (Nat.le_of_ble_eq_true rfl) (by first | exact Nat.le_of_ble_eq_true rfl | assumption | omega) ?_
      refine x_iincN 1 dX13_postings_237 li_1 rfl (by decide) rfl ?_
      refine x_goto 214 dX13_postings_240 (by decide) ?_
      refine x_ls ?_ (ih (k + 1) _ (by omega) (by omega) (fun i hi => ?_) (fun s h => ?_))
      · exact ⟨rfl, rfl, rfl, rfl, trivial⟩
      · rw [xu_at]
        by_cases e0 : i = k
        · rw [if_pos e0, e0, hs 101 (by decide)]
        · rw [if_neg e0]; exact h1 i (by omega)
      · rw [← hs s h]; funext x y; rw [xu_ns h]
set_option maxRecDepth 100000 in
set_option maxHeartbeats 2000000 in
theorem lp_pst (hV : VW V) {bi : Nat} (hb : b = some bi) (hbn : bi < nb) (hW : NW V N) (hB : YB V bi I) (hN : YN V N I) {Az : List (List Nat)} : ∀ (r0 : Nat) (ns : List Nat), ns.length + (r0 + 1) = mnd V → (∀ x ∈ ns, x < V 0 3 0) → ∀ (n c : Nat) (A : List (List Nat)) (I1 : Nat → Nat → Nat → Int32), V 0 3 0 - c < n → c ≤ V 0 3 0 → SO V N A ns I I1 → I1 101 0 ns.length = nO (-1) c → (∀ I2, SO V N (A ++ mdr V r0 ns (V 0 3 0 - c) c) ns I I2 → X G vX13_postings (d + 6) (0, 0) 97 [(0, some (.ref (ad 13 0))), (2, some (.int (nO (-1) (psM V N (A ++ mdr V r0 ns (V 0 3 0 - c) c)).1))), (3, some (.int (nI ns.length + Int32.ofInt (-1))))] [] (MM ad nb b r I2 L) (xT G (qI (fun rr M' => rr = nO (-1) (psM V N Az).1 ∧ ∃ I', M' = MM ad nb b r I' L ∧ SO V N Az [] I I')))) → X G vX13_postings (d + 6) (0, 0) 97 [(0, some (.ref (ad 13 0))), (2, some (.int (nO (-1) (psM V N A).1))), (3, some (.int (nI (ns.length))))] [] (MM ad nb b r I1 L) (xT G (qI (fun rr M' => rr = nO (-1) (psM V N Az).1 ∧ ∃ I', M' = MM ad nb b r I' L ∧ SO V N Az [] I I'))) := by
  have v0 := hV.1
  have v1 := hV.2.1
  have v2 := hV.2.2.1
  have v3 := hV.2.2.2.1
  have v4 := hV.2.2.2.2.1
  have v7 := hV.2.2.2.2.2.2.2.1
  have v9 := hV.2.2.2.2.2.2.2.2.2.1
  have v10 := hV.2.2.2.2.2.2.2.2.2.2.1
  have hm3 : mnd V ≤ V 0 3 0 := Nat.min_le_right _ _
  have hmp : mnd V ≤ pc V (V 0 4 0) := Nat.min_le_left _ _
  intro r0
  induction r0 with
  | zero =>
    intro ns hl hnq n
    induction n with
    | zero => intro c A I1 h0; omega
    | succ n ih =>
      intro c A I1 hn hc hS hk kc
      have h4n : ns.length < 4 := by omega
      have key : X G vX13_postings (d + 6) (0, 0) 111 [(0, some (.ref (ad 13 0))), (2, some (.int (nO (-1) (psM V N A).1))), (3, some (.int (nI (ns.length))))] [] (MM ad nb b r (xu I1 101 0 ns.length (nI c)) L) (xT G (qI (fun rr M' => rr = nO (-1) (psM V N Az).1 ∧ ∃ I', M' = MM ad nb b r I' L ∧ SO V N Az [] I I'))) := by
        refine lp_mpf (A := A) (ns := ns) (c0 := c) hV hb hbn hW hB hN h4n hnq ?_ (V 0 3 0 + 1) c _ (by omega) (Nat.le_refl c) hc (fun j h1 h2 => absurd h1 (by omega)) (hS.w (Nat.le_refl _)) xu_s
        intro q I2 hcq hq4 hno hok hS2 hk2
        have hB2 := hB.mx hS2.1.2.2.mx
        refine x_aload_n dX13_postings_148 rfl ?_
        refine g_M_nose fX13_66 dX13_postings_149 ?_
        refine x_iload_n dX13_postings_152 rfl ?_
        refine x_iald dX13_postings_153 rfl rfl (Nat.le_of_ble_eq_true rfl) (by first | exact Nat.le_of_ble_eq_true rfl | assumption | omega) ?_
        rw [hk2]
        refine x_aload_n dX13_postings_154 rfl ?_
        refine g_M_border hb fX13_397 dX13_postings_155 ?_
        refine g_MB_noses fX13_318 dX13_postings_158 hbn ?_
        refine x_top (y12_3 hB2) ?_
        refine x_icN_lt 170 dX13_postings_161 (by decide) (by omega) (by omega) (fun h161 => ?_) (fun h161 => ?_)
        · have hok2 := hok h161
          have hnx := mdr_next (V := V) (ns := ns) (r := 0) (q := q) (V 0 3 0 - c) c hcq (by omega) hno hok2
          rw [show c + (V 0 3 0 - c) - (q + 1) = V 0 3 0 - (q + 1) by omega] at hnx
          have hlen : ns.length + 1 = (ns ++ [q]).length := by rw [List.length_append]; rfl
          have hnq2 : ∀ x ∈ ns ++ [q], x < V 0 3 0 := fun x hx => by
            rcases List.mem_append.mp hx with e | e
            · exact hnq x e
            · rw [List.mem_singleton.mp e]; exact h161
          refine x_iload_n dX13_postings_170 rfl ?_
          refine x_iconst dX13_postings_171 li_1 ?_
          refine x_iaddN dX13_postings_172 ?_
          refine x_aload_n dX13_postings_173 rfl ?_
          refine g_M_manned fX13_502 dX13_postings_174 ?_
          rw [hS2.1.1]
          refine x_icN_ge 193 dX13_postings_177 (by decide) (by omega) (by omega) (fun h177 => ?_) (fun h177 => absurd h177 (by omega))
          refine x_aload_n dX13_postings_193 rfl ?_
          refine x_cvi (m_dutyOfAll (d := d) (ns := ns ++ [q]) hV hb hbn hW hB2 (hN.mx hS2.1.2.2.mx) (by rw [hS2.1.1]; congr 1; omega) hS2.1.2.1 (pre101 hS2.2.1 hk2) hnq2 (by omega)) kX13_505 dX13_postings_194 rfl (Nat.le_of_ble_eq_true rfl) rfl rfl (Nat.le_of_ble_eq_true rfl) (fun ru Mu hq => ?_)
          obtain ⟨rfl, I3, rfl, w3⟩ := hq
          have hws := wsN_le (ns := ns ++ [q]) hV hW
          have hps : (psM V N A).1 ≤ 213841 := psM_le hV hW A (0, []) (by decide)
          have heq : A ++ [ns ++ [q]] ++ mdr V 0 ns (V 0 3 0 - (q + 1)) (q + 1) = A ++ mdr V 0 ns (V 0 3 0 - c) c := by rw [hnx, show md V 0 (ns ++ [q]) = [ns ++ [q]] from rfl, List.append_assoc]
          have e101 := w3 101 (by decide) (by decide) (by decide)
          have e102 := w3 102 (by decide) (by decide) (by decide)
          have e13 := w3 13 (by decide) (by decide) (by decide)
          have hS3 : SO V N A ns I I3 := ⟨⟨by rw [e13]; exact hS2.1.1, fun q h1 h2 => by rw [w3 100 (by decide) (by decide) (by decide)]; exact hS2.1.2.1 q h1 h2, hS2.1.2.2.tr (FO.of3 w3)⟩, fun i hi => by rw [e101]; exact hS2.2.1 i hi, fun z i hi => by rw [e102]; exact hS2.2.2 z i hi⟩
          refine x_istore dX13_postings_197 (by decide) rfl ?_
          refine x_iload dX13_postings_199 rfl ?_
          refine x_iload_n dX13_postings_201 rfl ?_
          refine x_ic_gt 208 dX13_postings_202 (by decide) (fun h202 => ?_) (fun h202 => ?_)
          · have hle : (psM V N A).1 ≤ wsN V N (ns ++ [q]) := (nO_lt (by omega) (by omega)).mp h202
            have hap : psM V N (A ++ [ns ++ [q]]) = (wsN V N (ns ++ [q]) + 1, ns ++ [q]) := by rw [psM_app]; exact if_pos hle
            refine x_iload dX13_postings_208 rfl ?_
            refine x_istore_n dX13_postings_210 (by decide) rfl ?_
            refine x_iconst dX13_postings_211 li_0 ?_
            refine x_istore dX13_postings_212 (by decide) rfl ?_
            refine x_ls ?_ (lp_mpc (sm := wsN V N (ns ++ [q])) (ns := ns) (Ix := I3) hV hb hbn hW hB hN hS3.1.1 (fun I5 k1 k2 => ?_) (mnd V + 1) 0 I3 (by omega) (by omega) (fun i h => absurd h (Nat.not_lt_zero i)) (fun _ _ => rfl))
            · exact ⟨rfl, rfl, rfl, rfl, trivial⟩
            · refine x_ls ?_ (ih (q + 1) (A ++ [ns ++ [q]]) I5 (by omega) (by omega) ⟨⟨by rw [k2 13 (by decide)]; exact hS3.1.1, fun q h1 h2 => by rw [k2 100 (by decide)]; exact hS3.1.2.1 q h1 h2, hS3.1.2.2.tr (FO.of k2 (by omega))⟩, fun i hi => by rw [k2 101 (by decide)]; exact hS3.2.1 i hi, fun _ i hi => by rw [hap, k1 i hi, e101]; exact pre101 hS2.2.1 hk2 i (by omega)⟩ (by rw [k2 101 (by decide), e101, hk2, nO_pos (by omega), Nat.add_sub_cancel]) (fun I4 hI4 => ?_))
              · exact ⟨rfl, by rw [hap, nO_pos (by omega), Nat.add_sub_cancel]; rfl, rfl, trivial⟩
              · rw [heq] at hI4 ⊢; exact kc I4 hI4
          · have hle : ¬ (psM V N A).1 ≤ wsN V N (ns ++ [q]) := fun y => h202 ((nO_lt (by omega) (by omega)).mpr y)
            have hap : psM V N (A ++ [ns ++ [q]]) = psM V N A := by rw [psM_app]; exact if_neg hle
            refine x_goto 97 dX13_postings_205 (by decide) ?_
            refine x_ls ?_ (ih (q + 1) (A ++ [ns ++ [q]]) I3 (by omega) (by omega) ⟨hS3.1, hS3.2.1, by rw [hap]; exact hS3.2.2⟩ (by rw [e101, hk2, nO_pos (by omega), Nat.add_sub_cancel]) (fun I4 hI4 => ?_))
            · exact ⟨rfl, by rw [hap]; rfl, rfl, trivial⟩
            · rw [heq] at hI4 ⊢; exact kc I4 hI4
        · refine x_iinc dX13_postings_164 rfl rfl (by decide) rfl ?_
          refine x_goto 97 dX13_postings_167 (by decide) ?_
          have hq : q = V 0 3 0 := by omega
          refine x_ls ?_ (kc I2 ?_)
          · rw [mdr_none _ _ (fun j h1 h2 => hno j h1 (by omega)), List.append_nil]; exact ⟨rfl, rfl, rfl, trivial⟩
          · rw [mdr_none _ _ (fun j h1 h2 => hno j h1 (by omega)), List.append_nil]; exact hS2
      rcases Nat.eq_zero_or_pos c with z | z
      · subst z
        refine x_iload_n dX13_postings_97 rfl ?_
        refine x_ifN_lt 246 dX13_postings_98 (by decide) (by omega) (fun h98 => ?_)
        refine x_aload_n dX13_postings_101 rfl ?_
        refine g_M_nose fX13_66 dX13_postings_102 ?_
        refine x_iload_n dX13_postings_105 rfl ?_
        refine x_dup2 dX13_postings_106 rfl rfl ?_
        refine x_iald dX13_postings_107 rfl rfl (Nat.le_of_ble_eq_true rfl) (by first | exact Nat.le_of_ble_eq_true rfl | assumption | omega) ?_
        rw [show I1 101 0 ns.length = -1 from hk]
        refine x_iconst dX13_postings_108 li_1 ?_
        refine x_iadd dX13_postings_109 ?_
        refine x_top (v := nI 0) (by decide) ?_
        refine x_iast dX13_postings_110 rfl rfl (Nat.le_of_ble_eq_true rfl) (by first | exact Nat.le_of_ble_eq_true rfl | assumption | omega) ?_
        refine x_ls ?_ key
        exact ⟨rfl, rfl, rfl, trivial⟩
      · have hk3 : I1 101 0 ns.length = nI (c - 1) := by rw [hk, nO_pos (by omega)]
        refine x_iload_n dX13_postings_97 rfl ?_
        refine x_ifN_lt 246 dX13_postings_98 (by decide) (by omega) (fun h98 => ?_)
        refine x_aload_n dX13_postings_101 rfl ?_
        refine g_M_nose fX13_66 dX13_postings_102 ?_
        refine x_iload_n dX13_postings_105 rfl ?_
        refine x_dup2 dX13_postings_106 rfl rfl ?_
        refine x_iald dX13_postings_107 rfl rfl (Nat.le_of_ble_eq_true rfl) (by first | exact Nat.le_of_ble_eq_true rfl | assumption | omega) ?_
        rw [hk3]
        refine x_iconst dX13_postings_108 li_1 ?_
        refine x_iaddN dX13_postings_109 ?_
        rw [show c - 1 + 1 = c by omega]
        refine x_iast dX13_postings_110 rfl rfl (Nat.le_of_ble_eq_true rfl) (by first | exact Nat.le_of_ble_eq_true rfl | assumption | omega) ?_
        refine x_ls ?_ key
        exact ⟨rfl, rfl, rfl, trivial⟩
  | succ r0 ihr =>
    intro ns hl hnq n
    induction n with
    | zero => intro c A I1 h0; omega
    | succ n ih =>
      intro c A I1 hn hc hS hk kc
      have h4n : ns.length < 4 := by omega
      have key : X G vX13_postings (d + 6) (0, 0) 111 [(0, some (.ref (ad 13 0))), (2, some (.int (nO (-1) (psM V N A).1))), (3, some (.int (nI (ns.length))))] [] (MM ad nb b r (xu I1 101 0 ns.length (nI c)) L) (xT G (qI (fun rr M' => rr = nO (-1) (psM V N Az).1 ∧ ∃ I', M' = MM ad nb b r I' L ∧ SO V N Az [] I I'))) := by
        refine lp_mpf (A := A) (ns := ns) (c0 := c) hV hb hbn hW hB hN h4n hnq ?_ (V 0 3 0 + 1) c _ (by omega) (Nat.le_refl c) hc (fun j h1 h2 => absurd h1 (by omega)) (hS.w (Nat.le_refl _)) xu_s
        intro q I2 hcq hq4 hno hok hS2 hk2
        have hB2 := hB.mx hS2.1.2.2.mx
        refine x_aload_n dX13_postings_148 rfl ?_
        refine g_M_nose fX13_66 dX13_postings_149 ?_
        refine x_iload_n dX13_postings_152 rfl ?_
        refine x_iald dX13_postings_153 rfl rfl (Nat.le_of_ble_eq_true rfl) (by first | exact Nat.le_of_ble_eq_true rfl | assumption | omega) ?_
        rw [hk2]
        refine x_aload_n dX13_postings_154 rfl ?_
        refine g_M_border hb fX13_397 dX13_postings_155 ?_
        refine g_MB_noses fX13_318 dX13_postings_158 hbn ?_
        refine x_top (y12_3 hB2) ?_
        refine x_icN_lt 170 dX13_postings_161 (by decide) (by omega) (by omega) (fun h161 => ?_) (fun h161 => ?_)
        · have hok2 := hok h161
          have hnx := mdr_next (V := V) (ns := ns) (r := (r0 + 1)) (q := q) (V 0 3 0 - c) c hcq (by omega) hno hok2
          rw [show c + (V 0 3 0 - c) - (q + 1) = V 0 3 0 - (q + 1) by omega] at hnx
          have hlen : ns.length + 1 = (ns ++ [q]).length := by rw [List.length_append]; rfl
          have hnq2 : ∀ x ∈ ns ++ [q], x < V 0 3 0 := fun x hx => by
            rcases List.mem_append.mp hx with e | e
            · exact hnq x e
            · rw [List.mem_singleton.mp e]; exact h161
          refine x_iload_n dX13_postings_170 rfl ?_
          refine x_iconst dX13_postings_171 li_1 ?_
          refine x_iaddN dX13_postings_172 ?_
          refine x_aload_n dX13_postings_173 rfl ?_
          refine g_M_manned fX13_502 dX13_postings_174 ?_
          rw [hS2.1.1]
          refine x_icN_ge 193 dX13_postings_177 (by decide) (by omega) (by omega) (fun h177 => absurd h177 (by omega)) (fun h177 => ?_)
          refine x_iincN 1 dX13_postings_180 li_1 rfl (by decide) rfl ?_
          refine x_aload_n dX13_postings_183 rfl ?_
          refine g_M_nose fX13_66 dX13_postings_184 ?_
          refine x_iload_n dX13_postings_187 rfl ?_
          refine x_iconst dX13_postings_188 li_m1 ?_
          refine x_iast dX13_postings_189 rfl rfl (Nat.le_of_ble_eq_true rfl) (by first | exact Nat.le_of_ble_eq_true rfl | assumption | omega) ?_
          refine x_goto 97 dX13_postings_190 (by decide) ?_
          have hex : md V (r0 + 1) (ns ++ [q]) = mdr V r0 (ns ++ [q]) (V 0 3 0 - 0) 0 := by rw [Nat.sub_zero]; exact md_mdr
          have heq : A ++ md V (r0 + 1) (ns ++ [q]) ++ mdr V (r0 + 1) ns (V 0 3 0 - (q + 1)) (q + 1) = A ++ mdr V (r0 + 1) ns (V 0 3 0 - c) c := by rw [hnx, List.append_assoc]
          have hSS : SO V N A (ns ++ [q]) I (xu I2 101 0 (ns.length + 1) (-1)) := SO.w ⟨hS2.1, pre101 hS2.2.1 hk2, hS2.2.2⟩ (by omega)
          refine x_ls ?_ (ihr (ns ++ [q]) (by omega) hnq2 (V 0 3 0 + 1) 0 A _ (by omega) (by omega) hSS (by rw [← hlen, xu_s]; rfl) (fun I3 hI3 => ?_))
          · exact ⟨rfl, rfl, by rw [← hlen]; rfl, trivial⟩
          · rw [← hex] at hI3 ⊢
            obtain ⟨u1, u2⟩ := un101 hI3.2.1
            rw [← hlen, nI_dec]
            refine x_ls ?_ (ih (q + 1) (A ++ md V (r0 + 1) (ns ++ [q])) I3 (by omega) (by omega) ⟨hI3.1, u1, hI3.2.2⟩ (by rw [u2, nO_pos (by omega), Nat.add_sub_cancel]) (fun I4 hI4 => ?_))
            · exact ⟨rfl, rfl, rfl, trivial⟩
            · rw [heq] at hI4 ⊢; exact kc I4 hI4
        · refine x_iinc dX13_postings_164 rfl rfl (by decide) rfl ?_
          refine x_goto 97 dX13_postings_167 (by decide) ?_
          have hq : q = V 0 3 0 := by omega
          refine x_ls ?_ (kc I2 ?_)
          · rw [mdr_none _ _ (fun j h1 h2 => hno j h1 (by omega)), List.append_nil]; exact ⟨rfl, rfl, rfl, trivial⟩
          · rw [mdr_none _ _ (fun j h1 h2 => hno j h1 (by omega)), List.append_nil]; exact hS2
      rcases Nat.eq_zero_or_pos c with z | z
      · subst z
        refine x_iload_n dX13_postings_97 rfl ?_
        refine x_ifN_lt 246 dX13_postings_98 (by decide) (by omega) (fun h98 => ?_)
        refine x_aload_n dX13_postings_101 rfl ?_
        refine g_M_nose fX13_66 dX13_postings_102 ?_
        refine x_iload_n dX13_postings_105 rfl ?_
        refine x_dup2 dX13_postings_106 rfl rfl ?_
        refine x_iald dX13_postings_107 rfl rfl (Nat.le_of_ble_eq_true rfl) (by first | exact Nat.le_of_ble_eq_true rfl | assumption | omega) ?_
        rw [show I1 101 0 ns.length = -1 from hk]
        refine x_iconst dX13_postings_108 li_1 ?_
        refine x_iadd dX13_postings_109 ?_
        refine x_top (v := nI 0) (by decide) ?_
        refine x_iast dX13_postings_110 rfl rfl (Nat.le_of_ble_eq_true rfl) (by first | exact Nat.le_of_ble_eq_true rfl | assumption | omega) ?_
        refine x_ls ?_ key
        exact ⟨rfl, rfl, rfl, trivial⟩
      · have hk3 : I1 101 0 ns.length = nI (c - 1) := by rw [hk, nO_pos (by omega)]
        refine x_iload_n dX13_postings_97 rfl ?_
        refine x_ifN_lt 246 dX13_postings_98 (by decide) (by omega) (fun h98 => ?_)
        refine x_aload_n dX13_postings_101 rfl ?_
        refine g_M_nose fX13_66 dX13_postings_102 ?_
        refine x_iload_n dX13_postings_105 rfl ?_
        refine x_dup2 dX13_postings_106 rfl rfl ?_
        refine x_iald dX13_postings_107 rfl rfl (Nat.le_of_ble_eq_true rfl) (by first | exact Nat.le_of_ble_eq_true rfl | assumption | omega) ?_
        rw [hk3]
        refine x_iconst dX13_postings_108 li_1 ?_
        refine x_iaddN dX13_postings_109 ?_
        rw [show c - 1 + 1 = c by omega]
        refine x_iast dX13_postings_110 rfl rfl (Nat.le_of_ble_eq_true rfl) (by first | exact Nat.le_of_ble_eq_true rfl | assumption | omega) ?_
        refine x_ls ?_ key
        exact ⟨rfl, rfl, rfl, trivial⟩
end M26
