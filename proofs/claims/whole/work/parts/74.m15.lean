section M15
variable {G : xG} {ad : Nat → Nat → Nat} {nb : Nat} {b r : Option Nat} {L : Nat → Nat → Nat → Int64} {V : sV} {I : Nat → Nat → Nat → Int32} {d : Nat}
theorem nI_dec (k : Nat) : nI (k + 1) + Int32.ofInt (-1) = nI k := by
  rw [← nI_add, Int32.add_assoc, show nI 1 + Int32.ofInt (-1) = 0 by decide, Int32.add_zero]
theorem clr : ∀ a, a < 64 → ∀ q, q < 6 → a.testBit q = false → nI (a ||| 2 ^ q) &&& ((nI 1 <<< (nI q &&& 31)) ^^^ (-1)) = nI a := by decide +kernel
theorem bt1 : ∀ a, a < 64 → ∀ q, q < 6 → ((nI a >>> (nI q &&& 31)) &&& nI 1 = nI 1 ↔ a.testBit q = true) := by decide +kernel
theorem php0 : ∀ (n : Nat) (l : List Nat), l.Nodup → (∀ x ∈ l, x < n) → l.length ≤ n
  | 0, l, _, h => by
    cases l with
    | nil => exact Nat.le_refl 0
    | cons a l => exact absurd (h a List.mem_cons_self) (Nat.not_lt_zero a)
  | n + 1, l, hd, h => by
    by_cases hm : n ∈ l
    · have h1 := php0 n (l.erase n) (hd.erase n) (fun x hx => by
        have h2 := (hd.mem_erase_iff).mp hx
        have := h x h2.2
        omega)
      rw [List.length_erase_of_mem hm] at h1
      omega
    · have := php0 n l hd (fun x hx => by
        have := h x hx
        have : x ≠ n := fun z => hm (z ▸ hx)
        omega)
      omega
theorem php {n : Nat} {l : List Nat} (hd : l.Nodup) (h : ∀ x ∈ l, x < n) (hl : n ≤ l.length) {r : Nat} (hr : r < n) : r ∈ l := by
  refine Decidable.byContradiction fun q => ?_
  have h1 := php0 n (r :: l) (List.nodup_cons.mpr ⟨q, hd⟩) (fun x hx => by
    rcases List.mem_cons.mp hx with e | e
    · omega
    · exact h x e)
  have h2 : l.length + 1 ≤ n := h1
  omega


variable {f : Nat → Nat} {so : Nat} {W : List (List Nat)} {P : List Nat} {to p : Nat}
def exr (V : sV) (to f : Nat) (P : List Nat) (p : Nat) : Nat → Nat → List (List Nat)
  | 0, _ => []
  | m + 1, c => (if 0 < V 7 p c ∧ c ∉ P then ex V to f P c else []) ++ exr V to f P p m (c + 1)
theorem exr_rg {f : Nat} : ∀ m c, (List.range c).flatMap (fun q => if 0 < V 7 p q ∧ q ∉ P then ex V to f P q else []) ++ exr V to f P p m c = (List.range (c + m)).flatMap (fun q => if 0 < V 7 p q ∧ q ∉ P then ex V to f P q else [])
  | 0, c => by rw [show exr V to f P p 0 c = [] from rfl, List.append_nil]; rfl
  | m + 1, c => by
    rw [show exr V to f P p (m + 1) c = (if 0 < V 7 p c ∧ c ∉ P then ex V to f P c else []) ++ exr V to f P p m (c + 1) from rfl, ← List.append_assoc, ← rg_succ, exr_rg m (c + 1), show c + 1 + m = c + (m + 1) by omega]
theorem ex_exr {f : Nat} {w : List Nat} (h : p ≠ to) : ex V to (f + 1) w p = exr V to f (w ++ [p]) p (V 0 4 0) 0 := by
  have := exr_rg (V := V) (to := to) (P := w ++ [p]) (p := p) (f := f) (V 0 4 0) 0
  rw [List.range_zero, List.flatMap_nil, List.nil_append, Nat.zero_add] at this
  rw [this]
  exact if_neg h
theorem exr_none {f : Nat} : ∀ m c, (∀ j, c ≤ j → j < c + m → ¬ (0 < V 7 p j ∧ j ∉ P)) → exr V to f P p m c = []
  | 0, _, _ => rfl
  | m + 1, c, h => by
    unfold exr
    rw [if_neg (h c (by omega) (by omega)), exr_none m (c + 1) (fun j h1 h2 => h j (by omega) (by omega))]
    rfl
theorem exr_next {f q : Nat} : ∀ m c, c ≤ q → q < c + m → (∀ j, c ≤ j → j < q → ¬ (0 < V 7 p j ∧ j ∉ P)) → (0 < V 7 p q ∧ q ∉ P) → exr V to f P p m c = ex V to f P q ++ exr V to f P p (c + m - (q + 1)) (q + 1)
  | 0, c, h1, h2, _, _ => by omega
  | m + 1, c, h1, h2, h3, h4 => by
    rw [show exr V to f P p (m + 1) c = (if 0 < V 7 p c ∧ c ∉ P then ex V to f P c else []) ++ exr V to f P p m (c + 1) from rfl]
    by_cases e : c = q
    · subst e
      rw [if_pos h4, show c + (m + 1) - (c + 1) = m by omega]
    · rw [if_neg (h3 c (by omega) (by omega)), List.nil_append, exr_next m (c + 1) (by omega) (by omega) (fun j k1 k2 => h3 j (by omega) k2) h4, show c + 1 + m - (q + 1) = c + (m + 1) - (q + 1) by omega]
theorem ex_full {f q : Nat} (hq : q ≠ to) (hd : (P ++ [q]).Nodup) (hl : ∀ x ∈ P ++ [q], x < V 0 4 0) (hn : V 0 4 0 ≤ (P ++ [q]).length) : ex V to f P q = [] := by
  cases f with
  | zero => rfl
  | succ f =>
    rw [ex_exr hq]
    exact exr_none _ _ (fun j _ h2 h3 => h3.2 (php hd hl hn (by omega)))
def FW (I I' : Nat → Nat → Nat → Int32) : Prop := (∀ s, s ≠ 88 → ¬ (92 ≤ s ∧ s ≤ 97) → s ≠ 13 → I' s = I s) ∧ ∀ k, k ≠ 31 → I' 13 0 k = I 13 0 k
theorem FW.tr {I1 I2 : Nat → Nat → Nat → Int32} (h1 : FW I I1) (h2 : FW I1 I2) : FW I I2 := ⟨fun s a c e => (h2.1 s a c e).trans (h1.1 s a c e), fun k hk => (h2.2 k hk).trans (h1.2 k hk)⟩
theorem FW.rf : FW I I := ⟨fun _ _ _ _ => rfl, fun _ _ => rfl⟩
theorem FE.fw {I' : Nat → Nat → Nat → Int32} (h : FE I I') : FW I I' := ⟨fun s a c e => h.1 s a (by omega) e, h.2⟩
theorem FW.of {I' : Nat → Nat → Nat → Int32} {s0 : Nat} (h : ∀ q, q ≠ s0 → I' q = I q) (hs : s0 = 88 ∨ (92 ≤ s0 ∧ s0 ≤ 97)) : FW I I' := ⟨fun s a c _ => h s (by omega), fun k _ => by rw [h 13 (by omega)]⟩
theorem FW.mx {I' : Nat → Nat → Nat → Int32} (h : FW I I') : MX I I' := ⟨fun s a c => h.1 s (fun z => a (by unfold msc; omega)) (fun z => a (by unfold msc; omega)) c, fun k hk => h.2 k (by omega)⟩
theorem WR.sm {I' : Nat → Nat → Nat → Int32} (h : WR V f so W I) (h13 : I' 13 0 31 = I 13 0 31) (hs : ∀ s, 93 ≤ s → s ≤ 97 → I' s = I s) : WR V f so W I' := by
  obtain ⟨h1, h2, h3, h4, h5, h6⟩ := h
  have b : ∀ kd, BA V f so W kd I → BA V f so W kd I' := fun kd h => h.sm (by rw [hs 94 (by decide) (by decide)]) (by rw [hs 95 (by decide) (by decide)]) (by rw [hs 96 (by decide) (by decide)]) (fun _ _ => by rw [hs 93 (by decide) (by decide)]) h2
  exact ⟨h13.trans h1, h2, fun k hk p hp => by rw [hs 97 (by decide) (by decide)]; exact h3 k hk p hp, b 0 h4, b 1 h5, b 2 h6⟩
/-- amid the search -/
def SS (V : sV) (f : Nat → Nat) (so : Nat) (W : List (List Nat)) (P : List Nat) (I I1 : Nat → Nat → Nat → Int32) : Prop := WR V f so W I1 ∧ FW I I1 ∧ (∀ i, i < P.length → I1 92 0 i = nI (P.getD i 0))
theorem SS.w {k : Nat} {v : Int32} {I1 : Nat → Nat → Nat → Int32} (h : SS V f so W P I I1) (hk : P.length ≤ k) : SS V f so W P I (xu I1 92 0 k v) := ⟨h.1.sm (by rw [xu_ns (by decide)]) (fun s a c => by funext x y; rw [xu_ns (by omega)]), h.2.1.tr (FW.of (s0 := 92) (fun q hq => by funext x y; rw [xu_ns hq]) (by omega)), fun i hi => by rw [xu_nk (by omega)]; exact h.2.2 i hi⟩
theorem pre_app {P : List Nat} {q : Nat} {I1 : Nat → Nat → Nat → Int32} (h : ∀ i, i < P.length → I1 92 0 i = nI (P.getD i 0)) (hq : I1 92 0 P.length = nI q) : ∀ i, i < (P ++ [q]).length → I1 92 0 i = nI ((P ++ [q]).getD i 0) := by
  intro i hi
  rw [List.length_append] at hi
  have hi2 : i < P.length + 1 := hi
  rw [List.getD_eq_getElem?_getD]
  by_cases e : i = P.length
  · rw [e, List.getElem?_concat_length]; exact hq
  · rw [List.getElem?_append_left (by omega), ← List.getD_eq_getElem?_getD]; exact h i (by omega)
theorem pre_un {P : List Nat} {q : Nat} {I1 : Nat → Nat → Nat → Int32} (h : ∀ i, i < (P ++ [q]).length → I1 92 0 i = nI ((P ++ [q]).getD i 0)) : (∀ i, i < P.length → I1 92 0 i = nI (P.getD i 0)) ∧ I1 92 0 P.length = nI q := by
  have hl : (P ++ [q]).length = P.length + 1 := by rw [List.length_append]; rfl
  refine ⟨fun i hi => ?_, ?_⟩
  · rw [h i (by omega), List.getD_eq_getElem?_getD, List.getElem?_append_left hi, ← List.getD_eq_getElem?_getD]
  · rw [h P.length (by omega), List.getD_eq_getElem?_getD, List.getElem?_concat_length]; rfl

set_option maxRecDepth 100000 in
set_option maxHeartbeats 600000 in
theorem m_bit {a q : Nat} (ha : a < 64) (hq6 : q < 6) : Mt G vX13_bit (d) (0, 0) [.int (nI (a)), .int (nI (q))] (MM ad nb b r I L) (qE (bI (a.testBit q)) (MM ad nb b r I L)) := by
  refine x_start (by decide) (Nat.le_of_ble_eq_true rfl) ?_
  refine x_iload_n dX13_bit_0 rfl ?_
  refine x_iload_n dX13_bit_1 rfl ?_
  refine x_ishr dX13_bit_2 ?_
  refine x_iconst dX13_bit_3 li_1 ?_
  refine x_iand dX13_bit_4 ?_
  refine x_iconst dX13_bit_5 li_1 ?_
  refine x_ic_ne 13 dX13_bit_6 (by decide) (fun h6 => ?_) (fun h6 => ?_)
  · have hw : a.testBit q = false := by
      cases e : a.testBit q with
      | false => rfl
      | true => exact absurd ((bt1 a ha q hq6).mpr e) h6
    refine x_iconst dX13_bit_13 li_0 ?_
    refine x_zret dX13_bit_14 rfl rfl ?_
    rw [hw]
    exact ⟨_, rfl, rfl, rfl⟩
  · have hw : a.testBit q = true := (bt1 a ha q hq6).mp (by first | exact h6 | exact Decidable.of_not_not h6)
    refine x_iconst dX13_bit_9 li_1 ?_
    refine x_goto 14 dX13_bit_10 (by decide) ?_
    refine x_zret dX13_bit_14 rfl rfl ?_
    rw [hw]
    exact ⟨_, rfl, rfl, rfl⟩
set_option maxRecDepth 100000 in
set_option maxHeartbeats 600000 in
theorem lp_mfind (hV : VW V) {bi : Nat} (hb : b = some bi) (hbn : bi < nb) {N : sN} (hW : NW V N) {t : Nat} (ht : t < V 0 7 0) (hB : YB V bi I) (hN : YN V N I) (hp : ∀ p, p < V 0 4 0 → I 89 0 p = nO (-2) (V 6 p 0)) (hto : to < V 0 4 0) {Wz : List (List Nat)} (hP1 : 1 ≤ P.length) (hPl : P.length < V 0 4 0) (hPq : ∀ x ∈ P, x < V 0 4 0) (hlast : P.getD (P.length - 1) 0 = p) (hp4 : p < V 0 4 0) {c0 : Nat} (kc : ∀ q I2, c0 ≤ q → q ≤ V 0 4 0 → (∀ j, c0 ≤ j → j < q → ¬ (0 < V 7 p j ∧ j ∉ P)) → (q < V 0 4 0 → 0 < V 7 p q ∧ q ∉ P) → SS V (ON N t) (V 9 t 0) W P I I2 → I2 92 0 P.length = nI q → X G vX13_walksAll (d + 5) (0, 0) 193 [(0, some (.ref (ad 13 0))), (1, some (.int (nI (t)))), (2, some (.int (nI (to)))), (3, some (.int (nI (sbit P)))), (4, some (.int (nI (P.length))))] [] (MM ad nb b r I2 L) (xT G (qV (fun M' => ∃ I', M' = MM ad nb b r I' L ∧ WR V (ON N t) (V 9 t 0) Wz I' ∧ FW I I')))) : ∀ (n : Nat) (c : Nat) (I1 : Nat → Nat → Nat → Int32), V 0 4 0 - c < n → c0 ≤ c → c ≤ V 0 4 0 → (∀ j, c0 ≤ j → j < c → ¬ (0 < V 7 p j ∧ j ∉ P)) → SS V (ON N t) (V 9 t 0) W P I I1 → I1 92 0 P.length = nI c → X G vX13_walksAll (d + 5) (0, 0) 117 [(0, some (.ref (ad 13 0))), (1, some (.int (nI (t)))), (2, some (.int (nI (to)))), (3, some (.int (nI (sbit P)))), (4, some (.int (nI (P.length))))] [] (MM ad nb b r I1 L) (xT G (qV (fun M' => ∃ I', M' = MM ad nb b r I' L ∧ WR V (ON N t) (V 9 t 0) Wz I' ∧ FW I I'))) := by
  have v0 := hV.1
  have v1 := hV.2.1
  have v2 := hV.2.2.1
  have v3 := hV.2.2.2.1
  have v4 := hV.2.2.2.2.1
  have v7 := hV.2.2.2.2.2.2.2.1
  have v9 := hV.2.2.2.2.2.2.2.2.2.1
  have v10 := hV.2.2.2.2.2.2.2.2.2.2.1
  have hsb := sbit_lt P (fun q hq => by have := hPq q hq; omega)
  intro n
  induction n with
  | zero => intro c I1 h0; omega
  | succ n ih =>
    intro c I1 hn h0 hc hno hS hk
    have hB1 := hB.mx hS.2.1.mx
    have h7 := hV.2.2.2.2.2.2.2.2.2.2.2.2.2.2.2.2.1 p c
    refine x_aload_n dX13_walksAll_117 rfl ?_
    refine g_M_way fX13_39 dX13_walksAll_118 ?_
    refine x_iload dX13_walksAll_121 rfl ?_
    refine x_iald dX13_walksAll_123 rfl rfl (Nat.le_of_ble_eq_true rfl) (by first | exact Nat.le_of_ble_eq_true rfl | assumption | omega) ?_
    rw [hk]
    refine x_aload_n dX13_walksAll_124 rfl ?_
    refine g_M_border hb fX13_397 dX13_walksAll_125 ?_
    refine g_MB_places fX13_230 dX13_walksAll_128 hbn ?_
    refine x_top (y12_4 hB1) ?_
    refine x_icN_ge 193 dX13_walksAll_131 (by decide) (by omega) (by omega) (fun h131 => ?_) (fun h131 => ?_)
    · first
        | (refine x_ls ?_ (kc c I1 h0 hc hno (fun z => absurd h131 (by omega)) hS hk); exact ⟨rfl, rfl, rfl, rfl, rfl, trivial⟩)
        | (refine x_ls ?_ (kc c I1 h0 hc hno (fun z => ⟨by omega, hcP⟩) hS hk); exact ⟨rfl, rfl, rfl, rfl, rfl, trivial⟩)
    · refine x_iload_n dX13_walksAll_134 rfl ?_
      refine x_aload_n dX13_walksAll_135 rfl ?_
      refine g_M_way fX13_39 dX13_walksAll_136 ?_
      refine x_iload dX13_walksAll_139 rfl ?_
      refine x_iald dX13_walksAll_141 rfl rfl (Nat.le_of_ble_eq_true rfl) (by first | exact Nat.le_of_ble_eq_true rfl | assumption | omega) ?_
      rw [hk]
      refine x_csi (m_bit (d := d + 4) (a := sbit P) (q := c) hsb (by omega)) kX13_456 dX13_walksAll_142 rfl rfl (Nat.le_of_ble_eq_true rfl) (fun ru Mu hq => ?_)
      obtain ⟨rfl, rfl⟩ := hq
      refine x_if_ne 179 dX13_walksAll_145 (by decide) (fun h145 => ?_) (fun h145 => ?_)
      · have hnk : ¬ (0 < V 7 p c ∧ c ∉ P) := fun z => z.2 ((sbit_in c P).mp (bI_ne.mp h145))
        refine x_aload_n dX13_walksAll_179 rfl ?_
        refine g_M_way fX13_39 dX13_walksAll_180 ?_
        refine x_iload dX13_walksAll_183 rfl ?_
        refine x_dup2 dX13_walksAll_185 rfl rfl ?_
        refine x_iald dX13_walksAll_186 rfl rfl (Nat.le_of_ble_eq_true rfl) (by first | exact Nat.le_of_ble_eq_true rfl | assumption | omega) ?_
        rw [hk]
        refine x_iconst dX13_walksAll_187 li_1 ?_
        refine x_iaddN dX13_walksAll_188 ?_
        refine x_iast dX13_walksAll_189 rfl rfl (Nat.le_of_ble_eq_true rfl) (by first | exact Nat.le_of_ble_eq_true rfl | assumption | omega) ?_
        refine x_goto 117 dX13_walksAll_190 (by decide) ?_
        refine x_ls ?_ (ih (c + 1) _ (by omega) (by omega) (by omega) (fun j h1 h2 => ?_) (hS.w (Nat.le_refl _)) xu_s)
        · exact ⟨rfl, rfl, rfl, rfl, rfl, trivial⟩
        · rcases (show j = c ∨ j < c by omega) with e | e
          · subst e; exact hnk
          · exact hno j h1 e
      · have hcP : c ∉ P := fun z => by have := (sbit_in c P).mpr z; rw [bI_eq.mp h145] at this; cases this
        refine x_aload_n dX13_walksAll_148 rfl ?_
        refine g_M_border hb fX13_397 dX13_walksAll_149 ?_
        refine g_MB_hours fX13_334 dX13_walksAll_152 hbn ?_
        refine x_bipush dX13_walksAll_155 lb_6 ?_
        refine x_aload_n dX13_walksAll_157 rfl ?_
        refine g_M_way fX13_39 dX13_walksAll_158 ?_
        refine x_iload dX13_walksAll_161 rfl ?_
        refine x_iconst dX13_walksAll_163 li_1 ?_
        refine x_isubN dX13_walksAll_164 (by omega) ?_
        refine x_iald dX13_walksAll_165 rfl rfl (Nat.le_of_ble_eq_true rfl) (by first | exact Nat.le_of_ble_eq_true rfl | assumption | omega) ?_
        rw [show I1 92 0 (P.length - 1) = nI p by rw [hS.2.2 _ (by omega), hlast]]
        refine x_imulN dX13_walksAll_166 ?_
        refine x_aload_n dX13_walksAll_167 rfl ?_
        refine g_M_way fX13_39 dX13_walksAll_168 ?_
        refine x_iload dX13_walksAll_171 rfl ?_
        refine x_iald dX13_walksAll_173 rfl rfl (Nat.le_of_ble_eq_true rfl) (by first | exact Nat.le_of_ble_eq_true rfl | assumption | omega) ?_
        rw [hk]
        refine x_iaddN dX13_walksAll_174 ?_
        refine x_iald dX13_walksAll_175 rfl rfl hbn (by first | exact Nat.le_of_ble_eq_true rfl | assumption | omega) ?_
        refine x_top (y70 hB1 (by first | assumption | omega) (by first | assumption | omega)) ?_
        refine x_ifN_ne 193 dX13_walksAll_176 (by decide) (by omega) (fun h176 => ?_) (fun h176 => ?_)
        · first
            | (refine x_ls ?_ (kc c I1 h0 hc hno (fun z => absurd h131 (by omega)) hS hk); exact ⟨rfl, rfl, rfl, rfl, rfl, trivial⟩)
            | (refine x_ls ?_ (kc c I1 h0 hc hno (fun z => ⟨by omega, hcP⟩) hS hk); exact ⟨rfl, rfl, rfl, rfl, rfl, trivial⟩)
        · have hnk : ¬ (0 < V 7 p c ∧ c ∉ P) := fun z => by omega
          refine x_aload_n dX13_walksAll_179 rfl ?_
          refine g_M_way fX13_39 dX13_walksAll_180 ?_
          refine x_iload dX13_walksAll_183 rfl ?_
          refine x_dup2 dX13_walksAll_185 rfl rfl ?_
          refine x_iald dX13_walksAll_186 rfl rfl (Nat.le_of_ble_eq_true rfl) (by first | exact Nat.le_of_ble_eq_true rfl | assumption | omega) ?_
          rw [hk]
          refine x_iconst dX13_walksAll_187 li_1 ?_
          refine x_iaddN dX13_walksAll_188 ?_
          refine x_iast dX13_walksAll_189 rfl rfl (Nat.le_of_ble_eq_true rfl) (by first | exact Nat.le_of_ble_eq_true rfl | assumption | omega) ?_
          refine x_goto 117 dX13_walksAll_190 (by decide) ?_
          refine x_ls ?_ (ih (c + 1) _ (by omega) (by omega) (by omega) (fun j h1 h2 => ?_) (hS.w (Nat.le_refl _)) xu_s)
          · exact ⟨rfl, rfl, rfl, rfl, rfl, trivial⟩
          · rcases (show j = c ∨ j < c by omega) with e | e
            · subst e; exact hnk
            · exact hno j h1 e
end M15
