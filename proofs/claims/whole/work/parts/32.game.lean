section Game
variable {G : xG} {ad : Nat → Nat → Nat} {nb : Nat} {b r : Option Nat} {L : Nat → Nat → Nat → Int64} {V : sV} {I : Nat → Nat → Nat → Int32} {d : Nat}

/-- what is asked at each place along a way, by a nose of skill 1 there, of its stops before the k-th -/
def gpl (V : sV) (f : Nat → Nat) (sort : Nat) (w : List Nat) : Nat → Nat → Nat
  | 0 => fun _ => 0
  | k + 1 => fun p => if k ≠ 0 ∧ p = w.getD k 0 then tol V (str V f (cum V w k) 0) sort (w.getD k 0) 1 else gpl V f sort w k p
def gp (V : sV) (f : Nat → Nat) (sort : Nat) (W : List (List Nat)) (k p : Nat) : Nat := gpl V f sort (W.getD k []) (W.getD k []).length p
theorem gpl_le {f : Nat → Nat} {sort : Nat} {w : List Nat} (hV : VW V) (hf : ∀ s, s < 6 → f s ≤ 198) : ∀ k p, gpl V f sort w k p ≤ 10692
  | 0, p => by simp [gpl]
  | k + 1, p => by
    have h1 := gpl_le (sort := sort) (w := w) hV hf k p
    have h2 := tol_le (sort := sort) (p := w.getD k 0) (skill := 1) hV (fun s hs => str_le (H := cum V w k) (w := 0) (V := V) (hf s hs))
    unfold gpl
    split <;> omega
def sG (s : Nat) : Prop := sW s ∨ s = 3 ∨ s = 63
theorem gpl_1 {f : Nat → Nat} {sort : Nat} {w : List Nat} : gpl V f sort w 1 = fun _ => 0 := by
  funext p
  unfold gpl
  rw [if_neg (fun z => z.1 rfl)]
  rfl
theorem gpl_s {f : Nat → Nat} {sort k p : Nat} {w : List Nat} (h : k ≠ 0) : gpl V f sort w (k + 1) p = if p = w.getD k 0 then tol V (str V f (cum V w k) 0) sort (w.getD k 0) 1 else gpl V f sort w k p := by
  show (if k ≠ 0 ∧ p = w.getD k 0 then _ else _) = _
  by_cases e : p = w.getD k 0
  · rw [if_pos ⟨h, e⟩, if_pos e]
  · rw [if_neg (fun z => e z.2), if_neg e]

set_option maxRecDepth 100000 in
set_option maxHeartbeats 4000000 in
theorem c_reckon (hV : VW V) (hB : XB V 0 I) {W : List (List Nat)} {w : List Nat} {k0 t sort : Nat} {f : Nat → Nat} (hW : WS V W I) (hk : W[k0]? = some w) (ht : t < 32) (hp : PR I t f) (hf : ∀ s, s < 6 → f (3 + s) ≤ 198) (hso : sort < 4) : Mt G vX3_reckon (d + 2 + 1) (0, 0) [.ref (ad 3 0), .int (nI (k0)), .ref (ad 4 t), .int (nI (sort))] (MM ad nb b r I L) (qV (fun M' => ∃ I', M' = MM ad nb b r I' L ∧ (∀ p, p < 6 → I' 63 k0 p = nI (gpl V (fun s => f (3 + s)) sort w w.length p)) ∧ (∀ c, c ≠ k0 → I' 63 c = I 63 c) ∧ Sm (fun s => s = 63 ∨ s = 1 ∨ s = 41) I I')) := by
  have hp6 := hV.2.2.2.2.1
  obtain ⟨g0, g65, hh2⟩ := hW
  obtain ⟨g1, g2, g3, g4, g5⟩ := hh2 k0 w hk
  have hk65 := (List.getElem?_eq_some_iff.mp hk).1
  have loop29 : ∀ (n : Nat) (k : Nat) (I1 : Nat → Nat → Nat → Int32), w.length - k < n → 1 ≤ k → k ≤ w.length → ((∀ p, p < 6 → I1 63 k0 p = nI (gpl V (fun s => f (3 + s)) sort w k p)) ∧ (∀ c, c ≠ k0 → I1 63 c = I 63 c) ∧ Sm (fun s => s = 63 ∨ s = 1 ∨ s = 41) I I1) → X G vX3_reckon (d + 2 + 1) (0, 0) 29 [(0, some (.ref (ad 3 0))), (1, some (.int (nI (k0)))), (2, some (.ref (ad 4 t))), (3, some (.int (nI (sort)))), (4, some (.int (nI (k))))] [] (MM ad nb b r I1 L) (xT G (qV (fun M' => ∃ I', M' = MM ad nb b r I' L ∧ (∀ p, p < 6 → I' 63 k0 p = nI (gpl V (fun s => f (3 + s)) sort w w.length p)) ∧ (∀ c, c ≠ k0 → I' 63 c = I 63 c) ∧ Sm (fun s => s = 63 ∨ s = 1 ∨ s = 41) I I'))) := by
    intro n
    induction n with
    | zero => intro k I1 h0; omega
    | succ n ih =>
      intro k I1 hn hk1 hk0 hi
      obtain ⟨hi1, hi2, hi⟩ := hi
      have hB1 : XB V 0 I1 := hB.sm (fun s h1 h2 => hi s (by omega))
      have el : I1 48 0 k0 = nI w.length := by rw [hi 48 (by omega)]; exact g1
      refine x_iload dX3_reckon_29 rfl ?_
      refine x_aload_n dX3_reckon_31 rfl ?_
      refine g_Game_ways fX3_26 dX3_reckon_32 ?_
      refine g_Ways_lengths fX3_67 dX3_reckon_35 ?_
      refine x_iload_n dX3_reckon_38 rfl ?_
      refine x_iald dX3_reckon_39 rfl rfl (Nat.le_of_ble_eq_true rfl) (by first | exact Nat.le_of_ble_eq_true rfl | assumption | omega) ?_
      rw [el]
      refine x_icN_ge 107 dX3_reckon_40 (by decide) (by omega) (by omega) (fun h40 => ?_) (fun h40 => ?_)
      · refine x_vret dX3_reckon_107 rfl ?_
        have hkn : k = w.length := Nat.le_antisymm hk0 h40
        subst hkn
        exact ⟨rfl, _, rfl, hi1, hi2, hi⟩
      · refine x_aload_n dX3_reckon_43 rfl ?_
        refine g_Game_ways fX3_26 dX3_reckon_44 ?_
        refine g_Ways_stops fX3_70 dX3_reckon_47 ?_
        refine x_iload_n dX3_reckon_50 rfl ?_
        refine aa_Ways_stops dX3_reckon_51 rfl (by first | exact Nat.le_of_ble_eq_true rfl | assumption | omega) ?_
        refine x_iload dX3_reckon_52 rfl ?_
        refine x_iald dX3_reckon_54 rfl rfl (Nat.lt_of_lt_of_le (by first | assumption | omega | decide) (Nat.le_refl 65)) (by first | exact Nat.le_of_ble_eq_true rfl | assumption | omega) ?_
        have hgk := g5 k h40
        have hql := getD_lt g4 h40
        have es : I1 50 k0 k = nI (w.getD k 0) := by rw [hi 50 (by omega)]; exact hgk.1
        rw [es]
        refine x_istore dX3_reckon_55 (by decide) rfl ?_
        refine x_aload_n dX3_reckon_57 rfl ?_
        refine g_Game_air fX3_22 dX3_reckon_58 ?_
        refine x_aload_n dX3_reckon_61 rfl ?_
        refine g_Person_halves fX3_73 dX3_reckon_62 ht ?_
        refine x_aload_n dX3_reckon_65 rfl ?_
        refine g_Game_ways fX3_26 dX3_reckon_66 ?_
        refine g_Ways_arrivals fX3_76 dX3_reckon_69 ?_
        refine x_iload_n dX3_reckon_72 rfl ?_
        refine aa_Ways_arrivals dX3_reckon_73 rfl (by first | exact Nat.le_of_ble_eq_true rfl | assumption | omega) ?_
        refine x_iload dX3_reckon_74 rfl ?_
        refine x_iald dX3_reckon_76 rfl rfl (Nat.lt_of_lt_of_le (by first | assumption | omega | decide) (Nat.le_refl 65)) (by first | exact Nat.le_of_ble_eq_true rfl | assumption | omega) ?_
        have ea : I1 52 k0 k = nI (cum V w k) := by rw [hi 52 (by omega)]; exact hgk.2
        have hcu := cum_le (w := w) hV k
        rw [ea]
        refine x_iconst dX3_reckon_77 li_0 ?_
        refine x_cvv (c_take (h := 43) (j := t) (f := fun s => f (3 + s)) rfl (by decide) (Nat.lt_of_lt_of_le ht (Nat.le_refl 32)) hV hB1 (fun s hs => ⟨by rw [hi 43 (by omega)]; exact hp.2 s hs, hf s hs⟩) (by omega) (by omega)) kX3_79 dX3_reckon_78 rfl (Nat.le_of_ble_eq_true rfl) rfl rfl (Nat.le_of_ble_eq_true rfl) (fun M2 hq => ?_)
        obtain ⟨I2, rfl, hA2, hS2⟩ := hq
        have hB2 : XB V 0 I2 := hB1.sm (fun s h1 h2 => hS2 s (by omega))
        refine x_aload_n dX3_reckon_81 rfl ?_
        refine g_Game_pays fX3_13 dX3_reckon_82 ?_
        refine x_iload_n dX3_reckon_85 rfl ?_
        refine aa_Game_pays dX3_reckon_86 rfl (by first | exact Nat.le_of_ble_eq_true rfl | assumption | omega) ?_
        refine x_iload dX3_reckon_87 rfl ?_
        refine x_aload_n dX3_reckon_89 rfl ?_
        refine g_Game_air fX3_22 dX3_reckon_90 ?_
        refine x_iload_n dX3_reckon_93 rfl ?_
        refine x_iload dX3_reckon_94 rfl ?_
        refine x_iconst dX3_reckon_96 li_1 ?_
        refine x_cvi (c_toll (skill := 1) hV hB2 hA2 (fun s hs => str_le (hf s hs)) hso hql (by omega)) kX3_85 dX3_reckon_97 rfl (Nat.le_of_ble_eq_true rfl) rfl rfl (Nat.le_of_ble_eq_true rfl) (fun ru Mu hq => ?_)
        obtain ⟨rfl, rfl⟩ := hq
        refine x_top (v := nI (tol V (str V (fun s => f (3 + s)) (cum V w k) 0) sort (w.getD k 0) 1)) rfl ?_
        refine x_iast dX3_reckon_100 rfl rfl (Nat.lt_of_lt_of_le (by first | assumption | omega | decide) (Nat.le_refl 65)) (by first | exact Nat.le_of_ble_eq_true rfl | assumption | omega) ?_
        refine x_iincN 1 dX3_reckon_101 li_1 rfl (by decide) rfl ?_
        refine x_goto 29 dX3_reckon_104 (by decide) ?_
        refine x_ls ?_ (ih (k + 1) _ (by omega) (by omega) (by omega) ⟨?_, ?_, ?_⟩)
        · exact ⟨rfl, rfl, rfl, rfl, rfl, trivial⟩
        · intro q hq
          rw [xu_at, gpl_s (by omega)]
          by_cases e : q = w.getD k 0
          · rw [if_pos e, if_pos e]
          · rw [if_neg e, if_neg e, hS2 63 (by omega)]; exact hi1 q hq
        · intro c hc
          funext z
          rw [xu_ni hc, hS2 63 (by omega), hi2 c hc]
        · exact Sm.xu (hi.tr (hS2.wk (fun s h => by omega))) (Or.inl rfl)
  have loop3 : ∀ (n : Nat) (k : Nat) (I1 : Nat → Nat → Nat → Int32), 6 - k < n → k ≤ 6 → ((∀ p, p < k → I1 63 k0 p = nI 0) ∧ (∀ c, c ≠ k0 → I1 63 c = I 63 c) ∧ Sm (fun s => s = 63 ∨ s = 1 ∨ s = 41) I I1) → X G vX3_reckon (d + 2 + 1) (0, 0) 3 [(0, some (.ref (ad 3 0))), (1, some (.int (nI (k0)))), (2, some (.ref (ad 4 t))), (3, some (.int (nI (sort)))), (4, some (.int (nI (k))))] [] (MM ad nb b r I1 L) (xT G (qV (fun M' => ∃ I', M' = MM ad nb b r I' L ∧ (∀ p, p < 6 → I' 63 k0 p = nI (gpl V (fun s => f (3 + s)) sort w w.length p)) ∧ (∀ c, c ≠ k0 → I' 63 c = I 63 c) ∧ Sm (fun s => s = 63 ∨ s = 1 ∨ s = 41) I I'))) := by
    intro n
    induction n with
    | zero => intro k I1 h0; omega
    | succ n ih =>
      intro k I1 hn hk0 hi
      obtain ⟨hi1, hi2, hi⟩ := hi
      refine x_iload dX3_reckon_3 rfl ?_
      refine x_bipush dX3_reckon_5 lb_6 ?_
      refine x_icN_ge 26 dX3_reckon_7 (by decide) (by omega) (by omega) (fun h7 => ?_) (fun h7 => ?_)
      · refine x_iconst dX3_reckon_26 li_1 ?_
        refine x_istore dX3_reckon_27 (by decide) rfl ?_
        refine x_ls ?_ (loop29 (w.length + 1) 1 I1 (by omega) (by omega) (by omega) ⟨fun q hq => ?_, hi2, hi⟩)
        · exact ⟨rfl, rfl, rfl, rfl, rfl, trivial⟩
        · rw [gpl_1]; exact hi1 q (by omega)
      · refine x_aload_n dX3_reckon_10 rfl ?_
        refine g_Game_pays fX3_13 dX3_reckon_11 ?_
        refine x_iload_n dX3_reckon_14 rfl ?_
        refine aa_Game_pays dX3_reckon_15 rfl (by first | exact Nat.le_of_ble_eq_true rfl | assumption | omega) ?_
        refine x_iload dX3_reckon_16 rfl ?_
        refine x_iconst dX3_reckon_18 li_0 ?_
        refine x_iast dX3_reckon_19 rfl rfl (Nat.lt_of_lt_of_le (by first | assumption | omega | decide) (Nat.le_refl 65)) (by first | exact Nat.le_of_ble_eq_true rfl | assumption | omega) ?_
        refine x_iincN 1 dX3_reckon_20 li_1 rfl (by decide) rfl ?_
        refine x_goto 3 dX3_reckon_23 (by decide) ?_
        refine x_ls ?_ (ih (k + 1) _ (by omega) (by omega) ⟨?_, ?_, ?_⟩)
        · exact ⟨rfl, rfl, rfl, rfl, rfl, trivial⟩
        · intro q hq
          rw [xu_at]
          by_cases e : q = k
          · rw [if_pos e]
          · rw [if_neg e]; exact hi1 q (by omega)
        · intro c hc
          funext z
          rw [xu_ni hc, hi2 c hc]
        · exact Sm.xu hi (Or.inl rfl)
  refine x_start (by decide) (Nat.le_of_ble_eq_true rfl) ?_
  refine x_iconst dX3_reckon_0 li_0 ?_
  refine x_istore dX3_reckon_1 (by decide) rfl ?_
  refine x_ls ?_ (loop3 7 0 I (by omega) (by omega) ⟨fun q hq => absurd hq (Nat.not_lt_zero q), fun _ _ => rfl, Sm.rf⟩)
  exact ⟨rfl, rfl, rfl, rfl, rfl, trivial⟩

/-- what game holds: what is asked along each way at each place -/
def GS (V : sV) (f : Nat → Nat) (sort : Nat) (W : List (List Nat)) (n : Nat) (I : Nat → Nat → Nat → Int32) : Prop := ∀ k, k < n → ∀ p, p < 6 → I 63 k p = nI (gp V f sort W k p)
def rs1 (P : Nat → Nat → Nat) (k p : Nat) : Nat → Bool
  | 0 => true
  | n + 1 => rs1 P k p n && decide (P k p ≤ P n p)
def rs2 (P : Nat → Nat → Nat) (k p st : Nat) : Nat → Bool
  | 0 => true
  | n + 1 => rs2 P k p st n && (decide (n = st) || decide (P k n ≤ P k p))
def rst (P : Nat → Nat → Nat) (nw np k p st : Nat) : Bool := rs1 P k p nw && rs2 P k p st np
theorem rs1_f {P : Nat → Nat → Nat} {k p m : Nat} (h : ¬ P k p ≤ P m p) : ∀ n, m < n → rs1 P k p n = false
  | 0, hn => by omega
  | n + 1, hn => by
    unfold rs1
    by_cases e : m = n
    · rw [← e]; simp [h]
    · rw [rs1_f h n (by omega)]; rfl
theorem rs2_f {P : Nat → Nat → Nat} {k p st m : Nat} (h : ¬ P k m ≤ P k p) (hs : m ≠ st) : ∀ n, m < n → rs2 P k p st n = false
  | 0, hn => by omega
  | n + 1, hn => by
    unfold rs2
    by_cases e : m = n
    · rw [← e]; simp [h, hs]
    · rw [rs2_f h hs n (by omega)]; rfl

set_option maxRecDepth 100000 in
set_option maxHeartbeats 4000000 in
theorem c_isRest (hV : VW V) (hB : XB V 0 I) {W : List (List Nat)} {f : Nat → Nat} {sort : Nat} (hf : ∀ s, s < 6 → f s ≤ 198) (hW : WS V W I) (hG : GS V f sort W W.length I) {k q st : Nat} (hk : k < W.length) (hq : q < V 0 4 0) (hst : st < V 0 4 0) : Mt G vX3_isRest (d) (0, 0) [.ref (ad 3 0), .int (nI (k)), .int (nI (q)), .int (nI (st))] (MM ad nb b r I L) (qE (bI (rst (gp V f sort W) W.length (V 0 4 0) k q st)) (MM ad nb b r I L)) := by
  have hp6 := hV.2.2.2.2.1
  have h65 := hW.2.1
  have e4 : I 16 0 4 = nI (V 0 4 0) := hB.1 4 (by omega)
  have hgl : ∀ a c, gp V f sort W a c ≤ 10692 := fun a c => gpl_le hV hf _ _
  have loop46 : ∀ (n : Nat) (j : Nat), V 0 4 0 - j < n → j ≤ V 0 4 0 → rs1 (gp V f sort W) k q W.length = true → rs2 (gp V f sort W) k q st j = true → X G vX3_isRest (d) (0, 0) 46 [(0, some (.ref (ad 3 0))), (1, some (.int (nI (k)))), (2, some (.int (nI (q)))), (3, some (.int (nI (st)))), (4, some (.int (nI (j))))] [] (MM ad nb b r I L) (xT G (qE (bI (rst (gp V f sort W) W.length (V 0 4 0) k q st)) (MM ad nb b r I L))) := by
    intro n
    induction n with
    | zero => intro j h0; omega
    | succ n ih =>
      intro j hn hj0 h1 h2
      have b1 := hgl k j
      have b2 := hgl k q
      refine x_iload dX3_isRest_46 rfl ?_
      refine x_aload_n dX3_isRest_48 rfl ?_
      refine g_Game_border fX3_18 dX3_isRest_49 ?_
      refine g_Border_sizes fX3_48 dX3_isRest_52 (by first | exact Nat.le_of_ble_eq_true rfl | assumption | omega) ?_
      refine x_iconst dX3_isRest_55 li_4 ?_
      refine x_iald dX3_isRest_56 rfl rfl (Nat.lt_of_lt_of_le (by first | assumption | omega | decide) (Nat.le_refl 2)) (by first | exact Nat.le_of_ble_eq_true rfl | assumption | omega) ?_
      rw [e4]
      refine x_icN_ge 94 dX3_isRest_57 (by decide) (by omega) (by omega) (fun h57 => ?_) (fun h57 => ?_)
      · refine x_iconst dX3_isRest_94 li_1 ?_
        refine x_zret dX3_isRest_95 rfl rfl ?_
        have hjn : j = V 0 4 0 := Nat.le_antisymm hj0 h57
        subst hjn
        exact ⟨_, rfl, bI_1 (by unfold rst; rw [h1, h2]; rfl), rfl⟩
      · refine x_iload dX3_isRest_60 rfl ?_
        refine x_iload_n dX3_isRest_62 rfl ?_
        refine x_icN_eq 88 dX3_isRest_63 (by decide) (by omega) (by omega) (fun h63 => ?_) (fun h63 => ?_)
        · have hn1 : j = st ∨ gp V f sort W k j ≤ gp V f sort W k q := by first | exact Or.inl h63 | exact Or.inr h83
          refine x_iincN 1 dX3_isRest_88 li_1 rfl (by decide) rfl ?_
          refine x_goto 46 dX3_isRest_91 (by decide) ?_
          refine x_ls ?_ (ih (j + 1) (by omega) (by omega) h1 (by rw [rs2, h2]; simpa using hn1))
          exact ⟨rfl, rfl, rfl, rfl, rfl, trivial⟩
        · refine x_aload_n dX3_isRest_66 rfl ?_
          refine g_Game_pays fX3_13 dX3_isRest_67 ?_
          refine x_iload_n dX3_isRest_70 rfl ?_
          refine aa_Game_pays dX3_isRest_71 rfl (by first | exact Nat.le_of_ble_eq_true rfl | assumption | omega) ?_
          refine x_iload dX3_isRest_72 rfl ?_
          refine x_iald dX3_isRest_74 rfl rfl (Nat.lt_of_lt_of_le (by first | assumption | omega | decide) (Nat.le_refl 65)) (by first | exact Nat.le_of_ble_eq_true rfl | assumption | omega) ?_
          rw [hG k hk j (by omega)]
          refine x_aload_n dX3_isRest_75 rfl ?_
          refine g_Game_pays fX3_13 dX3_isRest_76 ?_
          refine x_iload_n dX3_isRest_79 rfl ?_
          refine aa_Game_pays dX3_isRest_80 rfl (by first | exact Nat.le_of_ble_eq_true rfl | assumption | omega) ?_
          refine x_iload_n dX3_isRest_81 rfl ?_
          refine x_iald dX3_isRest_82 rfl rfl (Nat.lt_of_lt_of_le (by first | assumption | omega | decide) (Nat.le_refl 65)) (by first | exact Nat.le_of_ble_eq_true rfl | assumption | omega) ?_
          rw [hG k hk q (by omega)]
          refine x_icN_le 88 dX3_isRest_83 (by decide) (by omega) (by omega) (fun h83 => ?_) (fun h83 => ?_)
          · have hn1 : j = st ∨ gp V f sort W k j ≤ gp V f sort W k q := by first | exact Or.inl h63 | exact Or.inr h83
            refine x_iincN 1 dX3_isRest_88 li_1 rfl (by decide) rfl ?_
            refine x_goto 46 dX3_isRest_91 (by decide) ?_
            refine x_ls ?_ (ih (j + 1) (by omega) (by omega) h1 (by rw [rs2, h2]; simpa using hn1))
            exact ⟨rfl, rfl, rfl, rfl, rfl, trivial⟩
          · refine x_iconst dX3_isRest_86 li_0 ?_
            refine x_zret dX3_isRest_87 rfl rfl ?_
            exact ⟨_, rfl, bI_0 (by unfold rst; rw [rs2_f (m := j) (by omega) h63 (V 0 4 0) h57]; simp), rfl⟩
  have loop3 : ∀ (n : Nat) (j : Nat), W.length - j < n → j ≤ W.length → rs1 (gp V f sort W) k q j = true → X G vX3_isRest (d) (0, 0) 3 [(0, some (.ref (ad 3 0))), (1, some (.int (nI (k)))), (2, some (.int (nI (q)))), (3, some (.int (nI (st)))), (4, some (.int (nI (j))))] [] (MM ad nb b r I L) (xT G (qE (bI (rst (gp V f sort W) W.length (V 0 4 0) k q st)) (MM ad nb b r I L))) := by
    intro n
    induction n with
    | zero => intro j h0; omega
    | succ n ih =>
      intro j hn hj0 h1
      have b1 := hgl j q
      have b2 := hgl k q
      refine x_iload dX3_isRest_3 rfl ?_
      refine x_aload_n dX3_isRest_5 rfl ?_
      refine g_Game_ways fX3_26 dX3_isRest_6 ?_
      refine g_Ways_count fX3_34 dX3_isRest_9 ?_
      rw [hW.1]
      refine x_icN_ge 43 dX3_isRest_12 (by decide) (by omega) (by omega) (fun h12 => ?_) (fun h12 => ?_)
      · refine x_iconst dX3_isRest_43 li_0 ?_
        refine x_istore dX3_isRest_44 (by decide) rfl ?_
        have hjn : j = W.length := Nat.le_antisymm hj0 h12
        refine x_ls ?_ (loop46 (V 0 4 0 + 1) 0 (by omega) (by omega) (by rw [← hjn]; exact h1) rfl)
        exact ⟨rfl, rfl, rfl, rfl, rfl, trivial⟩
      · refine x_aload_n dX3_isRest_15 rfl ?_
        refine g_Game_pays fX3_13 dX3_isRest_16 ?_
        refine x_iload dX3_isRest_19 rfl ?_
        refine aa_Game_pays dX3_isRest_21 rfl (by first | exact Nat.le_of_ble_eq_true rfl | assumption | omega) ?_
        refine x_iload_n dX3_isRest_22 rfl ?_
        refine x_iald dX3_isRest_23 rfl rfl (Nat.lt_of_lt_of_le (by first | assumption | omega | decide) (Nat.le_refl 65)) (by first | exact Nat.le_of_ble_eq_true rfl | assumption | omega) ?_
        rw [hG j h12 q (by omega)]
        refine x_aload_n dX3_isRest_24 rfl ?_
        refine g_Game_pays fX3_13 dX3_isRest_25 ?_
        refine x_iload_n dX3_isRest_28 rfl ?_
        refine aa_Game_pays dX3_isRest_29 rfl (by first | exact Nat.le_of_ble_eq_true rfl | assumption | omega) ?_
        refine x_iload_n dX3_isRest_30 rfl ?_
        refine x_iald dX3_isRest_31 rfl rfl (Nat.lt_of_lt_of_le (by first | assumption | omega | decide) (Nat.le_refl 65)) (by first | exact Nat.le_of_ble_eq_true rfl | assumption | omega) ?_
        rw [hG k hk q (by omega)]
        refine x_icN_ge 37 dX3_isRest_32 (by decide) (by omega) (by omega) (fun h32 => ?_) (fun h32 => ?_)
        · refine x_iincN 1 dX3_isRest_37 li_1 rfl (by decide) rfl ?_
          refine x_goto 3 dX3_isRest_40 (by decide) ?_
          refine x_ls ?_ (ih (j + 1) (by omega) (by omega) (by rw [rs1, h1]; simpa using h32))
          exact ⟨rfl, rfl, rfl, rfl, rfl, trivial⟩
        · refine x_iconst dX3_isRest_35 li_0 ?_
          refine x_zret dX3_isRest_36 rfl rfl ?_
          exact ⟨_, rfl, bI_0 (by unfold rst; rw [rs1_f (m := j) (by omega) W.length h12]; simp), rfl⟩
  refine x_start (by decide) (Nat.le_of_ble_eq_true rfl) ?_
  refine x_iconst dX3_isRest_0 li_0 ?_
  refine x_istore dX3_isRest_1 (by decide) rfl ?_
  refine x_ls ?_ (loop3 (W.length + 1) 0 (by omega) (by omega) rfl)
  exact ⟨rfl, rfl, rfl, rfl, rfl, trivial⟩

/-- rests and the first's duty, as they are counted -/
def RS (q : Nat × Nat) (I : Nat → Nat → Nat → Int32) : Prop := I 3 0 3 = nI q.1 ∧ I 3 0 4 = nI q.2
def ntF (q : Nat × Nat) (x : Nat) : Nat × Nat := (q.1 + 1, if q.1 = 0 then x else q.2)

set_option maxRecDepth 100000 in
set_option maxHeartbeats 4000000 in
theorem c_note {q : Nat × Nat} {x : Nat} (hR : RS q I) (hq : q.1 < 1000) : Mt G vX3_note (d) (0, 0) [.ref (ad 3 0), .int (nI (x))] (MM ad nb b r I L) (qV (fun M' => ∃ I', M' = MM ad nb b r I' L ∧ RS (ntF q x) I' ∧ Sm (fun s => s = 3) I I')) := by
  refine x_start (by decide) (Nat.le_of_ble_eq_true rfl) ?_
  refine x_aload_n dX3_note_0 rfl ?_
  refine g_Game_rests fX3_42 dX3_note_1 ?_
  rw [hR.1]
  refine x_ifN_ne 12 dX3_note_4 (by decide) (by omega) (fun h4 => ?_) (fun h4 => ?_)
  · refine x_aload_n dX3_note_12 rfl ?_
    refine x_dup dX3_note_13 rfl ?_
    refine g_Game_rests fX3_42 dX3_note_14 ?_
    first | rw [xu_nk (by decide), hR.1] | rw [hR.1]
    refine x_iconst dX3_note_17 li_1 ?_
    refine x_iaddN dX3_note_18 ?_
    refine p_Game_rests fX3_42 dX3_note_19 ?_
    refine x_vret dX3_note_22 rfl ?_
    refine ⟨rfl, _, rfl, ⟨by rw [xu_s]; rfl, ?_⟩, ?_⟩
    · unfold ntF
      first | (rw [if_pos h4, xu_nk (by decide), xu_s]) | (rw [if_neg (by omega), xu_nk (by decide)]; exact hR.2)
    · first | exact Sm.xu (Sm.xu Sm.rf rfl) rfl | exact Sm.xu Sm.rf rfl
  · refine x_aload_n dX3_note_7 rfl ?_
    refine x_iload_n dX3_note_8 rfl ?_
    refine p_Game_firstDuty fX3_45 dX3_note_9 ?_
    refine x_aload_n dX3_note_12 rfl ?_
    refine x_dup dX3_note_13 rfl ?_
    refine g_Game_rests fX3_42 dX3_note_14 ?_
    first | rw [xu_nk (by decide), hR.1] | rw [hR.1]
    refine x_iconst dX3_note_17 li_1 ?_
    refine x_iaddN dX3_note_18 ?_
    refine p_Game_rests fX3_42 dX3_note_19 ?_
    refine x_vret dX3_note_22 rfl ?_
    refine ⟨rfl, _, rfl, ⟨by rw [xu_s]; rfl, ?_⟩, ?_⟩
    · unfold ntF
      first | (rw [if_pos h4, xu_nk (by decide), xu_s]) | (rw [if_neg (by omega), xu_nk (by decide)]; exact hR.2)
    · first | exact Sm.xu (Sm.xu Sm.rf rfl) rfl | exact Sm.xu Sm.rf rfl

/-- the rests, way by way, place by place -/
def gr1 (P : Nat → Nat → Nat) (nw np st k : Nat) (q : Nat × Nat) : Nat → Nat × Nat
  | 0 => q
  | p + 1 => if p ≠ st ∧ rst P nw np k p st = true then ntF (gr1 P nw np st k q p) (P k p) else gr1 P nw np st k q p
def gr2 (P : Nat → Nat → Nat) (nw np st : Nat) : Nat → Nat × Nat
  | 0 => (0, 0)
  | k + 1 => gr1 P nw np st k (gr2 P nw np st k) np
theorem gr1_le {P : Nat → Nat → Nat} {nw np st k : Nat} {q : Nat × Nat} : ∀ n, (gr1 P nw np st k q n).1 ≤ q.1 + n
  | 0 => Nat.le_refl _
  | n + 1 => by
    have := gr1_le (P := P) (nw := nw) (np := np) (st := st) (k := k) (q := q) n
    unfold gr1
    split
    · show (gr1 P nw np st k q n).1 + 1 ≤ _; omega
    · omega
theorem gr2_le {P : Nat → Nat → Nat} {nw np st : Nat} : ∀ n, (gr2 P nw np st n).1 ≤ np * n
  | 0 => Nat.le_refl _
  | n + 1 => by
    have h1 := gr2_le (P := P) (nw := nw) (np := np) (st := st) n
    have h2 := gr1_le (P := P) (nw := nw) (np := np) (st := st) (k := n) (q := gr2 P nw np st n) np
    show (gr1 P nw np st n (gr2 P nw np st n) np).1 ≤ _
    rw [Nat.mul_succ]
    omega

set_option maxRecDepth 100000 in
set_option maxHeartbeats 4000000 in
theorem c_play (hV : VW V) (hB : XB V 0 I) {t sort to : Nat} {f : Nat → Nat} (ht : t < 32) (hp : PR I t f) (hf0 : f 0 < V 0 4 0) (hf : ∀ s, s < 6 → f (3 + s) ≤ 198) (hso : sort < 4) (hto : to < V 0 4 0) : Mt G vX3_play (d + 6 + 2 + 1 + 1) (0, 0) [.ref (ad 3 0), .ref (ad 4 t), .int (nI (sort)), .int (nI (to))] (MM ad nb b r I L) (qI (fun rr M' => rr = bI (decide (0 < (wys V (f 0) to).length)) ∧ ∃ I', M' = MM ad nb b r I' L ∧ RS (gr2 (gp V (fun s => f (3 + s)) sort (wys V (f 0) to)) (wys V (f 0) to).length (V 0 4 0) (f 0) (wys V (f 0) to).length) I' ∧ Sm sG I I')) := by
  have hp6 := hV.2.2.2.2.1
  have e65 : (wys V (f 0) to).length ≤ 65 := ex_65 hV hto hf0
  have loop52 : ∀ (n : Nat) (k : Nat) (I1 : Nat → Nat → Nat → Int32), (wys V (f 0) to).length - k < n → k ≤ (wys V (f 0) to).length → (WS V (wys V (f 0) to) I1 ∧ GS V (fun s => f (3 + s)) sort (wys V (f 0) to) (wys V (f 0) to).length I1 ∧ Sm sG I I1) → RS (gr2 (gp V (fun s => f (3 + s)) sort (wys V (f 0) to)) (wys V (f 0) to).length (V 0 4 0) (f 0) k) I1 → X G vX3_play (d + 6 + 2 + 1 + 1) (0, 0) 52 [(0, some (.ref (ad 3 0))), (1, some (.ref (ad 4 t))), (2, some (.int (nI (sort)))), (3, some (.int (nI (to)))), (4, some (.int (nI (k))))] [] (MM ad nb b r I1 L) (xT G (qI (fun rr M' => rr = bI (decide (0 < (wys V (f 0) to).length)) ∧ ∃ I', M' = MM ad nb b r I' L ∧ RS (gr2 (gp V (fun s => f (3 + s)) sort (wys V (f 0) to)) (wys V (f 0) to).length (V 0 4 0) (f 0) (wys V (f 0) to).length) I' ∧ Sm sG I I'))) := by
    intro n
    induction n with
    | zero => intro k I1 h0; omega
    | succ n ih =>
      intro k I1 hn hk0 hi hr
      obtain ⟨hi1, hi2, hi3⟩ := hi
      have hB1 : XB V 0 I1 := hB.sm (fun s h1 h2 => hi3 s (by unfold sG sW; omega))
      have loop67 : k < (wys V (f 0) to).length → ∀ (n2 j : Nat) (I1 : Nat → Nat → Nat → Int32), V 0 4 0 - j < n2 → j ≤ V 0 4 0 → (WS V (wys V (f 0) to) I1 ∧ GS V (fun s => f (3 + s)) sort (wys V (f 0) to) (wys V (f 0) to).length I1 ∧ Sm sG I I1) → RS (gr1 (gp V (fun s => f (3 + s)) sort (wys V (f 0) to)) (wys V (f 0) to).length (V 0 4 0) (f 0) k (gr2 (gp V (fun s => f (3 + s)) sort (wys V (f 0) to)) (wys V (f 0) to).length (V 0 4 0) (f 0) k) j) I1 → X G vX3_play (d + 6 + 2 + 1 + 1) (0, 0) 67 [(0, some (.ref (ad 3 0))), (1, some (.ref (ad 4 t))), (2, some (.int (nI (sort)))), (3, some (.int (nI (to)))), (4, some (.int (nI (k)))), (5, some (.int (nI (j))))] [] (MM ad nb b r I1 L) (xT G (qI (fun rr M' => rr = bI (decide (0 < (wys V (f 0) to).length)) ∧ ∃ I', M' = MM ad nb b r I' L ∧ RS (gr2 (gp V (fun s => f (3 + s)) sort (wys V (f 0) to)) (wys V (f 0) to).length (V 0 4 0) (f 0) (wys V (f 0) to).length) I' ∧ Sm sG I I'))) := by
        intro hkn n2
        induction n2 with
        | zero => intro j I1 h0; omega
        | succ n2 ih2 =>
          intro j I1 hn2 hj0 hi hr
          obtain ⟨hi1, hi2, hi3⟩ := hi
          have hB1 : XB V 0 I1 := hB.sm (fun s h1 h2 => hi3 s (by unfold sG sW; omega))
          have e4 : I1 16 0 4 = nI (V 0 4 0) := hB1.1 4 (by omega)
          have epl : I1 4 t 0 = nI (f 0) := by rw [hi3 4 (by unfold sG sW; omega)]; exact hp.1 0 (by omega)
          refine x_iload dX3_play_67 rfl ?_
          refine x_aload_n dX3_play_69 rfl ?_
          refine g_Game_border fX3_18 dX3_play_70 ?_
          refine g_Border_sizes fX3_48 dX3_play_73 (by first | exact Nat.le_of_ble_eq_true rfl | assumption | omega) ?_
          refine x_iconst dX3_play_76 li_4 ?_
          refine x_iald dX3_play_77 rfl rfl (Nat.lt_of_lt_of_le (by first | assumption | omega | decide) (Nat.le_refl 2)) (by first | exact Nat.le_of_ble_eq_true rfl | assumption | omega) ?_
          rw [e4]
          refine x_icN_ge 125 dX3_play_78 (by decide) (by omega) (by omega) (fun h78 => ?_) (fun h78 => ?_)
          · refine x_iincN 1 dX3_play_125 li_1 rfl (by decide) rfl ?_
            refine x_goto 52 dX3_play_128 (by decide) ?_
            have hjn : j = V 0 4 0 := Nat.le_antisymm hj0 h78
            subst hjn
            refine x_ls ?_ (ih (k + 1) _ (by omega) (by omega) ⟨hi1, hi2, hi3⟩ hr)
            exact ⟨rfl, rfl, rfl, rfl, rfl, trivial⟩
          · refine x_iload dX3_play_81 rfl ?_
            refine x_aload_n dX3_play_83 rfl ?_
            refine g_Person_place fX3_54 dX3_play_84 ht ?_
            rw [epl]
            refine x_icN_eq 119 dX3_play_87 (by decide) (by omega) (by omega) (fun h87 => ?_) (fun h87 => ?_)
            · have hnx : (WS V (wys V (f 0) to) I1 ∧ GS V (fun s => f (3 + s)) sort (wys V (f 0) to) (wys V (f 0) to).length I1 ∧ Sm sG I I1) ∧ RS (gr1 (gp V (fun s => f (3 + s)) sort (wys V (f 0) to)) (wys V (f 0) to).length (V 0 4 0) (f 0) k (gr2 (gp V (fun s => f (3 + s)) sort (wys V (f 0) to)) (wys V (f 0) to).length (V 0 4 0) (f 0) k) (j + 1)) I1 := ⟨⟨hi1, hi2, hi3⟩, by rw [gr1, if_neg (fun z => z.1 h87)]; exact hr⟩
              refine x_iincN 1 dX3_play_119 li_1 rfl (by decide) rfl ?_
              refine x_goto 67 dX3_play_122 (by decide) ?_
              refine x_ls ?_ (ih2 (j + 1) _ (by omega) (by omega) hnx.1 hnx.2)
              exact ⟨rfl, rfl, rfl, rfl, rfl, rfl, trivial⟩
            · refine x_aload_n dX3_play_90 rfl ?_
              refine x_iload dX3_play_91 rfl ?_
              refine x_iload dX3_play_93 rfl ?_
              refine x_aload_n dX3_play_95 rfl ?_
              refine g_Person_place fX3_54 dX3_play_96 ht ?_
              rw [epl]
              refine x_cvi (c_isRest (d := d + 6 + 2 + 1) hV hB1 hf hi1 hi2 hkn h78 hf0) kX3_59 dX3_play_99 rfl (Nat.le_of_ble_eq_true rfl) rfl rfl (Nat.le_of_ble_eq_true rfl) (fun ru Mu hq => ?_)
              obtain ⟨rfl, rfl⟩ := hq
              refine x_if_eq 119 dX3_play_102 (by decide) (fun h102 => ?_) (fun h102 => ?_)
              · have hnx : (WS V (wys V (f 0) to) I1 ∧ GS V (fun s => f (3 + s)) sort (wys V (f 0) to) (wys V (f 0) to).length I1 ∧ Sm sG I I1) ∧ RS (gr1 (gp V (fun s => f (3 + s)) sort (wys V (f 0) to)) (wys V (f 0) to).length (V 0 4 0) (f 0) k (gr2 (gp V (fun s => f (3 + s)) sort (wys V (f 0) to)) (wys V (f 0) to).length (V 0 4 0) (f 0) k) (j + 1)) I1 := ⟨⟨hi1, hi2, hi3⟩, by rw [gr1, if_neg (fun z => by rw [bI_eq.mp h102] at z; cases z.2)]; exact hr⟩
                refine x_iincN 1 dX3_play_119 li_1 rfl (by decide) rfl ?_
                refine x_goto 67 dX3_play_122 (by decide) ?_
                refine x_ls ?_ (ih2 (j + 1) _ (by omega) (by omega) hnx.1 hnx.2)
                exact ⟨rfl, rfl, rfl, rfl, rfl, rfl, trivial⟩
              · refine x_aload_n dX3_play_105 rfl ?_
                refine x_aload_n dX3_play_106 rfl ?_
                refine g_Game_pays fX3_13 dX3_play_107 ?_
                refine x_iload dX3_play_110 rfl ?_
                refine aa_Game_pays dX3_play_112 rfl (by first | exact Nat.le_of_ble_eq_true rfl | assumption | omega) ?_
                refine x_iload dX3_play_113 rfl ?_
                refine x_iald dX3_play_115 rfl rfl (Nat.lt_of_lt_of_le (by first | assumption | omega | decide) (Nat.le_refl 65)) (by first | exact Nat.le_of_ble_eq_true rfl | assumption | omega) ?_
                rw [hi2 k hkn j (by omega)]
                refine x_cvv (c_note (d := d + 6 + 2 + 1) (x := gp V (fun s => f (3 + s)) sort (wys V (f 0) to) k j) hr (by have := gr1_le (P := (gp V (fun s => f (3 + s)) sort (wys V (f 0) to))) (nw := (wys V (f 0) to).length) (np := V 0 4 0) (st := f 0) (k := k) (q := gr2 (gp V (fun s => f (3 + s)) sort (wys V (f 0) to)) (wys V (f 0) to).length (V 0 4 0) (f 0) k) j; have := gr2_le (P := (gp V (fun s => f (3 + s)) sort (wys V (f 0) to))) (nw := (wys V (f 0) to).length) (np := V 0 4 0) (st := f 0) k; have : V 0 4 0 * k ≤ 6 * 65 := Nat.mul_le_mul hp6 (by omega); omega)) kX3_63 dX3_play_116 rfl (Nat.le_of_ble_eq_true rfl) rfl rfl (Nat.le_of_ble_eq_true rfl) (fun M2 hq2 => ?_)
                obtain ⟨I2, rfl, hR2, hS2⟩ := hq2
                have hnx : (WS V (wys V (f 0) to) I2 ∧ GS V (fun s => f (3 + s)) sort (wys V (f 0) to) (wys V (f 0) to).length I2 ∧ Sm sG I I2) ∧ RS (gr1 (gp V (fun s => f (3 + s)) sort (wys V (f 0) to)) (wys V (f 0) to).length (V 0 4 0) (f 0) k (gr2 (gp V (fun s => f (3 + s)) sort (wys V (f 0) to)) (wys V (f 0) to).length (V 0 4 0) (f 0) k) (j + 1)) I2 := ⟨⟨hi1.sm (fun s hs => hS2 s (by omega)), fun z hz q hq => by rw [hS2 63 (by omega)]; exact hi2 z hz q hq, hi3.tr (hS2.wk (fun s h => by unfold sG; omega))⟩, by rw [gr1, if_pos ⟨h87, bI_ne.mp h102⟩]; exact hR2⟩
                refine x_iincN 1 dX3_play_119 li_1 rfl (by decide) rfl ?_
                refine x_goto 67 dX3_play_122 (by decide) ?_
                refine x_ls ?_ (ih2 (j + 1) _ (by omega) (by omega) hnx.1 hnx.2)
                exact ⟨rfl, rfl, rfl, rfl, rfl, rfl, trivial⟩
      refine x_iload dX3_play_52 rfl ?_
      refine x_aload_n dX3_play_54 rfl ?_
      refine g_Game_ways fX3_26 dX3_play_55 ?_
      refine g_Ways_count fX3_34 dX3_play_58 ?_
      rw [hi1.1]
      refine x_icN_ge 131 dX3_play_61 (by decide) (by omega) (by omega) (fun h61 => ?_) (fun h61 => ?_)
      · refine x_aload_n dX3_play_131 rfl ?_
        refine g_Game_ways fX3_26 dX3_play_132 ?_
        refine g_Ways_count fX3_34 dX3_play_135 ?_
        rw [hi1.1]
        refine x_ifN_le 145 dX3_play_138 (by decide) (by omega) (fun h138 => ?_) (fun h138 => ?_)
        · refine x_iconst dX3_play_145 li_0 ?_
          refine x_zret dX3_play_146 rfl rfl ?_
          have hkn : k = (wys V (f 0) to).length := Nat.le_antisymm hk0 h61
          refine ⟨_, rfl, ?_, _, rfl, by rw [← hkn]; exact hkn ▸ hr, hi3⟩
          first | exact bI_1 (decide_eq_true h138) | exact bI_0 (fun z => by have := of_decide_eq_true z; omega)
        · refine x_iconst dX3_play_141 li_1 ?_
          refine x_goto 146 dX3_play_142 (by decide) ?_
          refine x_zret dX3_play_146 rfl rfl ?_
          have hkn : k = (wys V (f 0) to).length := Nat.le_antisymm hk0 h61
          refine ⟨_, rfl, ?_, _, rfl, by rw [← hkn]; exact hkn ▸ hr, hi3⟩
          first | exact bI_1 (decide_eq_true h138) | exact bI_0 (fun z => by have := of_decide_eq_true z; omega)
      · refine x_iconst dX3_play_64 li_0 ?_
        refine x_istore dX3_play_65 (by decide) rfl ?_
        refine x_ls ?_ (loop67 h61 (V 0 4 0 + 1) 0 I1 (by omega) (by omega) ⟨hi1, hi2, hi3⟩ hr)
        exact ⟨rfl, rfl, rfl, rfl, rfl, rfl, trivial⟩
  have loop13 : ∀ (n : Nat) (k : Nat) (I1 : Nat → Nat → Nat → Int32), (wys V (f 0) to).length - k < n → k ≤ (wys V (f 0) to).length → (WS V (wys V (f 0) to) I1 ∧ GS V (fun s => f (3 + s)) sort (wys V (f 0) to) k I1 ∧ Sm sG I I1) → X G vX3_play (d + 6 + 2 + 1 + 1) (0, 0) 13 [(0, some (.ref (ad 3 0))), (1, some (.ref (ad 4 t))), (2, some (.int (nI (sort)))), (3, some (.int (nI (to)))), (4, some (.int (nI (k))))] [] (MM ad nb b r I1 L) (xT G (qI (fun rr M' => rr = bI (decide (0 < (wys V (f 0) to).length)) ∧ ∃ I', M' = MM ad nb b r I' L ∧ RS (gr2 (gp V (fun s => f (3 + s)) sort (wys V (f 0) to)) (wys V (f 0) to).length (V 0 4 0) (f 0) (wys V (f 0) to).length) I' ∧ Sm sG I I'))) := by
    intro n
    induction n with
    | zero => intro k I1 h0; omega
    | succ n ih =>
      intro k I1 hn hk0 hi
      obtain ⟨hi1, hi2, hi3⟩ := hi
      have hB1 : XB V 0 I1 := hB.sm (fun s h1 h2 => hi3 s (by unfold sG sW; omega))
      refine x_iload dX3_play_13 rfl ?_
      refine x_aload_n dX3_play_15 rfl ?_
      refine g_Game_ways fX3_26 dX3_play_16 ?_
      refine g_Ways_count fX3_34 dX3_play_19 ?_
      rw [hi1.1]
      refine x_icN_ge 39 dX3_play_22 (by decide) (by omega) (by omega) (fun h22 => ?_) (fun h22 => ?_)
      · refine x_aload_n dX3_play_39 rfl ?_
        refine x_iconst dX3_play_40 li_0 ?_
        refine p_Game_rests fX3_42 dX3_play_41 ?_
        refine x_aload_n dX3_play_44 rfl ?_
        refine x_iconst dX3_play_45 li_0 ?_
        refine p_Game_firstDuty fX3_45 dX3_play_46 ?_
        refine x_iconst dX3_play_49 li_0 ?_
        refine x_istore dX3_play_50 (by decide) rfl ?_
        have hkn : k = (wys V (f 0) to).length := Nat.le_antisymm hk0 h22
        refine x_ls ?_ (loop52 ((wys V (f 0) to).length + 1) 0 _ (by omega) (by omega) ⟨hi1.sm (fun s hs => by funext a c; rw [xu_ns (by omega), xu_ns (by omega)]), ?_, Sm.xu (Sm.xu hi3 (by unfold sG; omega)) (by unfold sG; omega)⟩ ⟨?_, ?_⟩)
        · exact ⟨rfl, rfl, rfl, rfl, rfl, trivial⟩
        · intro z hz q hq
          rw [xu_ns (by decide), xu_ns (by decide)]
          exact hi2 z (by omega) q hq
        · rw [xu_nk (by decide), xu_s]; rfl
        · rw [xu_s]; rfl
      · refine x_aload_n dX3_play_25 rfl ?_
        refine x_iload dX3_play_26 rfl ?_
        refine x_aload_n dX3_play_28 rfl ?_
        refine x_iload_n dX3_play_29 rfl ?_
        refine x_cvv (c_reckon (d := d + 6) hV hB1 hi1 (W_at h22) ht (hp.to (by rw [hi3 4 (by unfold sG sW; omega)]) (by rw [hi3 43 (by unfold sG sW; omega)])) hf hso) kX3_38 dX3_play_30 rfl (Nat.le_of_ble_eq_true rfl) rfl rfl (Nat.le_of_ble_eq_true rfl) (fun M2 hq2 => ?_)
        obtain ⟨I2, rfl, hR2, hK2, hS2⟩ := hq2
        refine x_iincN 1 dX3_play_33 li_1 rfl (by decide) rfl ?_
        refine x_goto 13 dX3_play_36 (by decide) ?_
        refine x_ls ?_ (ih (k + 1) _ (by omega) (by omega) ⟨hi1.sm (fun s hs => hS2 s (by omega)), ?_, hi3.tr (hS2.wk (fun s h => by unfold sG sW; omega))⟩)
        · exact ⟨rfl, rfl, rfl, rfl, rfl, trivial⟩
        · intro z hz q hq
          by_cases e : z = k
          · subst e; exact hR2 q hq
          · rw [hK2 z e]; exact hi2 z (by omega) q hq
  refine x_start (by decide) (Nat.le_of_ble_eq_true rfl) ?_
  refine x_aload_n dX3_play_0 rfl ?_
  refine g_Game_ways fX3_26 dX3_play_1 ?_
  refine x_aload_n dX3_play_4 rfl ?_
  refine x_iload_n dX3_play_5 rfl ?_
  refine x_iload_n dX3_play_6 rfl ?_
  refine x_cvv (c_list (d := d) hV hB ht hp hf0 hf hso hto) kX3_30 dX3_play_7 rfl (Nat.le_of_ble_eq_true rfl) rfl rfl (Nat.le_of_ble_eq_true rfl) (fun M1 hq => ?_)
  obtain ⟨I1, rfl, hL1, hL2, hL3⟩ := hq
  refine x_iconst dX3_play_10 li_0 ?_
  refine x_istore dX3_play_11 (by decide) rfl ?_
  refine x_ls ?_ (loop13 ((wys V (f 0) to).length + 1) 0 _ (by omega) (by omega) ⟨hL1, fun z hz => absurd hz (Nat.not_lt_zero z), hL3.wk (fun s h => Or.inl h)⟩)
  exact ⟨rfl, rfl, rfl, rfl, rfl, trivial⟩
end Game
