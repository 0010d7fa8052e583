section M9
variable {G : xG} {ad : Nat → Nat → Nat} {nb : Nat} {b r : Option Nat} {L : Nat → Nat → Nat → Int64} {V : sV} {I : Nat → Nat → Nat → Int32} {d : Nat}

/-- what stood before the acts, newest first -/
def hs (N : sN) : sH → List sN
  | [] => []
  | q :: h => upN N q.1 q.2 :: hs (upN N q.1 q.2) h
theorem hs_len {N : sN} : ∀ (h : sH), (hs N h).length = h.length := by
  intro h
  induction h generalizing N with
  | nil => rfl
  | cons q h ih => show (hs (upN N q.1 q.2) h).length + 1 = h.length + 1; rw [ih]
theorem hs_take {N : sN} : ∀ (k : Nat) (h : sH), hs N (h.take k) = (hs N h).take k := by
  intro k h
  induction h generalizing N k with
  | nil => rw [List.take_nil]; show ([] : List sN) = ([] : List sN).take k; rw [List.take_nil]
  | cons q h ih =>
    cases k with
    | zero => rfl
    | succ k => show upN N q.1 q.2 :: hs (upN N q.1 q.2) (h.take k) = upN N q.1 q.2 :: (hs (upN N q.1 q.2) h).take k; rw [ih]
theorem upN_back {N : sN} {t : Nat} {f : Nat → Nat} : upN (upN N t f) t (N t) = N := by
  funext u
  unfold upN
  by_cases e : u = t
  · rw [if_pos e, e]
  · rw [if_neg e, if_neg e]
theorem hs_kp {N : sN} {h : sH} {t : Nat} {f : Nat → Nat} : hs (upN N t f) (kp N h t) = (N :: hs N h).take 16 := by
  unfold kp
  rw [hs_take]
  show (upN (upN N t f) t (N t) :: hs (upN (upN N t f) t (N t)) h).take 16 = _
  rw [upN_back]
/-- a row of the travellers, laid out in an array -/
def SNP (V : sV) (N : sN) (seg off : Nat) (I : Nat → Nat → Nat → Int32) : Prop := ∀ t, t < V 0 7 0 → (∀ s, s < 6 → I seg 0 (off + (6 * t + s)) = nI (N t (3 + s))) ∧ I seg 0 (off + (24 + t)) = nI (N t 0) ∧ I seg 0 (off + (28 + t)) = nI (N t 1) ∧ I seg 0 (off + (32 + t)) = nI (N t 2)
theorem YN.snp {N : sN} {seg off : Nat} {I' : Nat → Nat → Nat → Int32} (hV : VW V) (h : YN V N I) (he : ∀ k, k < 36 → I' seg 0 (off + k) = I 85 0 k) : SNP V N seg off I' := by
  have v7 := hV.2.2.2.2.2.2.2.1
  intro t ht
  obtain ⟨h1, h2, h3, h4⟩ := h t ht
  exact ⟨fun s hs => by rw [he _ (by omega)]; exact h1 s hs, by rw [he _ (by omega)]; exact h2, by rw [he _ (by omega)]; exact h3, by rw [he _ (by omega)]; exact h4⟩
theorem SNP.yn {N : sN} {seg off : Nat} {I' : Nat → Nat → Nat → Int32} (hV : VW V) (h : SNP V N seg off I) (he : ∀ k, k < 36 → I' 85 0 k = I seg 0 (off + k)) : YN V N I' := by
  have v7 := hV.2.2.2.2.2.2.2.1
  intro t ht
  obtain ⟨h1, h2, h3, h4⟩ := h t ht
  exact ⟨fun s hs => by rw [he _ (by omega)]; exact h1 s hs, by rw [he _ (by omega)]; exact h2, by rw [he _ (by omega)]; exact h3, by rw [he _ (by omega)]; exact h4⟩
theorem SNP.mv {N : sN} {seg seg' off off' : Nat} {I' : Nat → Nat → Nat → Int32} (hV : VW V) (h : SNP V N seg off I) (he : ∀ k, k < 36 → I' seg' 0 (off' + k) = I seg 0 (off + k)) : SNP V N seg' off' I' := by
  have v7 := hV.2.2.2.2.2.2.2.1
  intro t ht
  obtain ⟨h1, h2, h3, h4⟩ := h t ht
  exact ⟨fun s hs => by rw [he _ (by omega)]; exact h1 s hs, by rw [he _ (by omega)]; exact h2, by rw [he _ (by omega)]; exact h3, by rw [he _ (by omega)]; exact h4⟩
/-- the model's past and its marks -/
def YP (V : sV) (S : List sN) (I : Nat → Nat → Nat → Int32) : Prop := I 13 0 19 = nI S.length ∧ S.length ≤ 16 ∧ ∀ (i : Nat) (q : sN), S[i]? = some q → SNP V q 86 (36 * (S.length - 1 - i)) I
def YK (V : sV) (mk : List sN) (I : Nat → Nat → Nat → Int32) : Prop := I 13 0 20 = nI mk.length ∧ mk.length ≤ 3 ∧ ∀ (i : Nat) (q : sN), mk[i]? = some q → SNP V q 87 (36 * i) I
def YS (V : sV) (N : sN) (h : sH) (mk : List sN) (I : Nat → Nat → Nat → Int32) : Prop := YN V N I ∧ YP V (hs N h) I ∧ YK V mk I
theorem SNP.sm {N : sN} {seg off : Nat} {I' : Nat → Nat → Nat → Int32} (h : SNP V N seg off I) (he : I' seg = I seg) : SNP V N seg off I' := by
  unfold SNP at h ⊢
  rw [he]
  exact h
theorem YP.sm {S : List sN} {I' : Nat → Nat → Nat → Int32} (h : YP V S I) (h86 : I' 86 = I 86) (h19 : I' 13 0 19 = I 13 0 19) : YP V S I' := ⟨h19.trans h.1, h.2.1, fun i q hq => (h.2.2 i q hq).sm h86⟩
theorem YK.sm {mk : List sN} {I' : Nat → Nat → Nat → Int32} (h : YK V mk I) (h87 : I' 87 = I 87) (h20 : I' 13 0 20 = I 13 0 20) : YK V mk I' := ⟨h20.trans h.1, h.2.1, fun i q hq => (h.2.2 i q hq).sm h87⟩
theorem YS.mx {N : sN} {h : sH} {mk : List sN} {I' : Nat → Nat → Nat → Int32} (hY : YS V N h mk I) (hm : MX I I') : YS V N h mk I' := ⟨hY.1.mx hm, hY.2.1.sm (hm.1 86 (by unfold msc; omega) (by decide)) (hm.2 19 (by decide)), hY.2.2.sm (hm.1 87 (by unfold msc; omega) (by decide)) (hm.2 20 (by decide))⟩
/-- behind an act -/
def KZ (I I' : Nat → Nat → Nat → Int32) (q : Nat) : Prop := (∀ s, ¬ msc s → s ≠ 13 → s ≠ 85 → s ≠ 86 → s ≠ 87 → I' s = I s) ∧ (I' 13 0 0 = nI 0 ∧ I' 13 0 1 = nI q ∧ I' 13 0 2 = -1) ∧ ∀ k, 3 ≤ k → k < 31 → k ≠ 19 → k ≠ 20 → I' 13 0 k = I 13 0 k
def qZ (V : sV) (ad : Nat → Nat → Nat) (nb : Nat) (b r : Option Nat) (I : Nat → Nat → Nat → Int32) (L : Nat → Nat → Nat → Int64) (a : (Int32 × Nat) × sN × sH × List sN) : Option Value → xM → Prop := qI (fun rr M' => rr = a.1.1 ∧ ∃ I', M' = MM ad nb b r I' L ∧ YS V a.2.1 a.2.2.1 a.2.2.2 I' ∧ KZ I I' a.1.2)
/-- since the start of an act -/
def MZ (I I' : Nat → Nat → Nat → Int32) : Prop := (∀ s, ¬ msc s → s ≠ 13 → s ≠ 85 → s ≠ 86 → s ≠ 87 → I' s = I s) ∧ ∀ k, k < 31 → k ≠ 19 → k ≠ 20 → I' 13 0 k = I 13 0 k
theorem MZ.rf : MZ I I := ⟨fun _ _ _ _ _ _ => rfl, fun _ _ _ _ => rfl⟩
theorem MZ.tr {I1 I2 : Nat → Nat → Nat → Int32} (h1 : MZ I I1) (h2 : MZ I1 I2) : MZ I I2 := ⟨fun s a c d e f => (h2.1 s a c d e f).trans (h1.1 s a c d e f), fun k a c d => (h2.2 k a c d).trans (h1.2 k a c d)⟩
theorem MX.mz {I' : Nat → Nat → Nat → Int32} (h : MX I I') : MZ I I' := ⟨fun s a c _ _ _ => h.1 s a c, fun k a _ _ => h.2 k a⟩
theorem MZ.xu {I1 : Nat → Nat → Nat → Int32} {s i k : Nat} {v : Int32} (h : MZ I I1) (hs : s = 85 ∨ s = 86 ∨ s = 87) : MZ I (xu I1 s i k v) := h.tr ⟨fun q _ _ a c d => by funext x y; rw [xu_ns (by omega)], fun k _ _ _ => by rw [xu_ns (by omega)]⟩
theorem YB.mz {bi : Nat} {I' : Nat → Nat → Nat → Int32} (h : YB V bi I) (hs : MZ I I') : YB V bi I' := h.sm (fun s h => hs.1 s (by unfold msc; omega) (by omega) (by omega) (by omega) (by omega))
theorem KZ.of {I1 : Nat → Nat → Nat → Int32} {q : Nat} (h : MZ (xu I 13 0 0 (nI 0)) I1) : KZ I (mG I1 q) q := by
  unfold mG
  refine ⟨fun s a c e f g => ?_, ⟨?_, ?_, xu_s⟩, fun k h3 h31 k1 k2 => ?_⟩
  · funext x y
    rw [xu_ns c, xu_ns c, h.1 s a c e f g, xu_ns c]
  · rw [xu_nk (by decide), xu_nk (by decide), h.2 0 (by decide) (by decide) (by decide), xu_s]
  · rw [xu_nk (by decide), xu_s]
  · rw [xu_nk (by omega), xu_nk (by omega), h.2 k h31 k1 k2, xu_nk (by omega)]
theorem YS.gd {N : sN} {h : sH} {mk : List sN} {q : Nat} (hY : YS V N h mk I) : YS V N h mk (mG I q) := by
  have e : ∀ s, s ≠ 13 → mG I q s = I s := fun s hs => by unfold mG; funext x y; rw [xu_ns hs, xu_ns hs]
  exact ⟨hY.1.sm (e 85 (by decide)), hY.2.1.sm (e 86 (by decide)) (by unfold mG; rw [xu_nk (by decide), xu_nk (by decide)]), hY.2.2.sm (e 87 (by decide)) (by unfold mG; rw [xu_nk (by decide), xu_nk (by decide)])⟩
theorem qZ_ok {I1 : Nat → Nat → Nat → Int32} {a : (Int32 × Nat) × sN × sH × List sN} {z : Int32} {q : Nat} {N : sN} {h : sH} {mk : List sN} (ha : a = ((z, q), N, h, mk)) (hm : MZ (xu I 13 0 0 (nI 0)) I1) (hY : YS V N h mk I1) : qZ V ad nb b r I L a (some (.int z)) (MM ad nb b r (mG I1 q) L) := by
  subst ha
  exact ⟨_, rfl, rfl, _, rfl, hY.gd, KZ.of hm⟩

set_option maxRecDepth 100000 in
set_option maxHeartbeats 600000 in
theorem lp_rem2 {Iq : Nat → Nat → Nat → Int32} (hV : VW V) {N : sN} (hN : YN V N I) {S : List sN} (hP : YP V S I) {a : Nat} (ha : a ≤ 15) (hl : ((N :: S).take 16).length = a + 1) (hst : ∀ (i : Nat) (q : sN), ((N :: S).take 16)[i + 1]? = some q → SNP V q 86 (36 * (a - 1 - i)) Iq) : ∀ (n : Nat) (k : Nat) (I1 : Nat → Nat → Nat → Int32), 36 - k < n → k ≤ 36 → (I1 13 0 19 = nI a ∧ ∀ k, k ≠ 19 → I1 13 0 k = I 13 0 k) → (∀ j, j < k → I1 86 0 (36 * a + j) = I 85 0 j) → (∀ j, j < 36 * a → I1 86 0 j = Iq 86 0 j) → (∀ s, s ≠ 86 → s ≠ 13 → I1 s = I s) → X G vX13_remembers (d) (0, 0) 51 [(0, some (.ref (ad 13 0))), (1, some (.int (nI (k))))] [] (MM ad nb b r I1 L) (xT G (qV (fun M' => ∃ I', M' = MM ad nb b r I' L ∧ YP V ((N :: S).take 16) I' ∧ (∀ s, s ≠ 86 → s ≠ 13 → I' s = I s) ∧ ∀ k, k ≠ 19 → I' 13 0 k = I 13 0 k))) := by
  intro n
  induction n with
  | zero => intro k I1 h0; omega
  | succ n ih =>
    intro k I1 hn hk h13 h1 h2 hs
    refine x_iload_n dX13_remembers_51 rfl ?_
    refine x_bipush dX13_remembers_52 lb_36 ?_
    refine x_icN_ge 83 dX13_remembers_54 (by decide) (by omega) (by omega) (fun h54 => ?_) (fun h54 => ?_)
    · refine x_aload_n dX13_remembers_83 rfl ?_
      refine x_dup dX13_remembers_84 rfl ?_
      refine g_M_acts fX13_399 dX13_remembers_85 ?_
      rw [h13.1]
      refine x_iconst dX13_remembers_88 li_1 ?_
      refine x_iaddN dX13_remembers_89 ?_
      refine p_M_acts fX13_399 dX13_remembers_90 ?_
      refine x_vret dX13_remembers_93 rfl ?_
      obtain rfl : k = 36 := by omega
      refine ⟨rfl, _, rfl, ⟨?_, by rw [hl]; omega, fun i q hq => ?_⟩, fun s h3 h4 => ?_, fun k hk => ?_⟩
      · rw [xu_s, hl]
      · rw [hl]
        cases i with
        | zero =>
          obtain rfl : q = N := by cases hq; rfl
          rw [show a + 1 - 1 - 0 = a by omega]
          exact hN.snp hV (fun k hk => by rw [xu_ns (by decide)]; exact h1 k hk)
        | succ i =>
          have hi : i + 1 < a + 1 := by
            have := (List.getElem?_eq_some_iff.mp hq).1
            omega
          rw [show a + 1 - 1 - (i + 1) = a - 1 - i by omega]
          exact (hst i q hq).mv hV (fun k hk => by rw [xu_ns (by decide)]; exact h2 _ (by omega))
      · rw [← hs s h3 h4]; funext x y; rw [xu_ns h4]
      · rw [xu_nk hk]; exact h13.2 k hk
    · refine x_aload_n dX13_remembers_57 rfl ?_
      refine g_M_past fX13_21 dX13_remembers_58 ?_
      refine x_bipush dX13_remembers_61 lb_36 ?_
      refine x_aload_n dX13_remembers_63 rfl ?_
      refine g_M_acts fX13_399 dX13_remembers_64 ?_
      rw [h13.1]
      refine x_imulN dX13_remembers_67 ?_
      refine x_iload_n dX13_remembers_68 rfl ?_
      refine x_iaddN dX13_remembers_69 ?_
      refine x_aload_n dX13_remembers_70 rfl ?_
      refine g_M_v fX13_17 dX13_remembers_71 ?_
      refine x_iload_n dX13_remembers_74 rfl ?_
      refine x_iald dX13_remembers_75 rfl rfl (Nat.le_of_ble_eq_true rfl) (by first | exact Nat.le_of_ble_eq_true rfl | assumption | omega) ?_
      refine x_iast dX13_remembers_76 rfl rfl (Nat.le_of_ble_eq_true rfl) (by first | exact Nat.le_of_ble_eq_true rfl | assumption | omega) ?_
      refine x_iincN 1 dX13_remembers_77 li_1 rfl (by decide) rfl ?_
      refine x_goto 51 dX13_remembers_80 (by decide) ?_
      refine x_ls ?_ (ih (k + 1) _ (by omega) (by omega) ⟨?_, fun j hj => ?_⟩ (fun j hj => ?_) (fun j hj => ?_) (fun s h1 h2 => ?_))
      · exact ⟨rfl, rfl, trivial⟩
      · rw [xu_ns (by decide)]; exact h13.1
      · rw [xu_ns (by decide)]; exact h13.2 j hj
      · rw [xu_at]
        by_cases e0 : j = k
        · rw [if_pos (by omega), e0, hs 85 (by decide) (by decide)]
        · rw [if_neg (by omega)]; exact h1 j (by omega)
      · rw [xu_nk (by omega)]; exact h2 j hj
      · rw [← hs s h1 h2]; funext x y; rw [xu_ns h1]
set_option maxRecDepth 100000 in
set_option maxHeartbeats 600000 in
theorem lp_rem1 (hV : VW V) {N : sN} (hN : YN V N I) {S : List sN} (hP : YP V S I) (h16 : S.length = 16) : ∀ (n : Nat) (k : Nat) (I1 : Nat → Nat → Nat → Int32), 540 - k < n → k ≤ 540 → (∀ j, j < k → I1 86 0 j = I 86 0 (j + 36)) → (∀ j, k ≤ j → I1 86 0 j = I 86 0 j) → (∀ s, s ≠ 86 → I1 s = I s) → X G vX13_remembers (d) (0, 0) 11 [(0, some (.ref (ad 13 0))), (1, some (.int (nI (k))))] [] (MM ad nb b r I1 L) (xT G (qV (fun M' => ∃ I', M' = MM ad nb b r I' L ∧ YP V ((N :: S).take 16) I' ∧ (∀ s, s ≠ 86 → s ≠ 13 → I' s = I s) ∧ ∀ k, k ≠ 19 → I' 13 0 k = I 13 0 k))) := by
  intro n
  induction n with
  | zero => intro k I1 h0; omega
  | succ n ih =>
    intro k I1 hn hk h1 h2 hs
    refine x_iload_n dX13_remembers_11 rfl ?_
    refine x_sipush dX13_remembers_12 lS_540 ?_
    refine x_icN_ge 39 dX13_remembers_15 (by decide) (by omega) (by omega) (fun h15 => ?_) (fun h15 => ?_)
    · refine x_aload_n dX13_remembers_39 rfl ?_
      refine x_dup dX13_remembers_40 rfl ?_
      refine g_M_acts fX13_399 dX13_remembers_41 ?_
      rw [hs 13 (by decide), hP.1, h16]
      refine x_iconst dX13_remembers_44 li_1 ?_
      refine x_isubN dX13_remembers_45 (by omega) ?_
      refine p_M_acts fX13_399 dX13_remembers_46 ?_
      refine x_iconst dX13_remembers_49 li_0 ?_
      refine x_istore_n dX13_remembers_50 (by decide) rfl ?_
      obtain rfl : k = 540 := by omega
      refine x_ls ?_ (lp_rem2 (Iq := I1) (a := 15) hV hN hP (by omega) (by rw [List.length_take, List.length_cons, h16]; rfl) (fun i q hq => ?_) 37 0 _ (by omega) (by omega) ⟨?_, fun k hk => ?_⟩ (fun j hj => absurd hj (Nat.not_lt_zero j)) (fun j hj => ?_) (fun s h3 h4 => ?_))
      · exact ⟨rfl, rfl, trivial⟩
      · have hi := (List.getElem?_eq_some_iff.mp hq).1
        rw [List.length_take, List.length_cons, h16] at hi
        rw [List.getElem?_take_of_lt (by omega), List.getElem?_cons_succ] at hq
        have h3 := hP.2.2 i q hq
        rw [h16] at h3
        exact h3.mv hV (fun k hk => by rw [h1 _ (by omega)]; congr 1; omega)
      · rw [xu_s]
      · rw [xu_nk hk, hs 13 (by decide)]
      · rw [xu_ns (by decide)]
      · rw [← hs s h3]; funext x y; rw [xu_ns h4]
    · refine x_aload_n dX13_remembers_18 rfl ?_
      refine g_M_past fX13_21 dX13_remembers_19 ?_
      refine x_iload_n dX13_remembers_22 rfl ?_
      refine x_aload_n dX13_remembers_23 rfl ?_
      refine g_M_past fX13_21 dX13_remembers_24 ?_
      refine x_iload_n dX13_remembers_27 rfl ?_
      refine x_bipush dX13_remembers_28 lb_36 ?_
      refine x_iaddN dX13_remembers_30 ?_
      refine x_iald dX13_remembers_31 rfl rfl (Nat.le_of_ble_eq_true rfl) (by first | exact Nat.le_of_ble_eq_true rfl | assumption | omega) ?_
      refine x_iast dX13_remembers_32 rfl rfl (Nat.le_of_ble_eq_true rfl) (by first | exact Nat.le_of_ble_eq_true rfl | assumption | omega) ?_
      refine x_iincN 1 dX13_remembers_33 li_1 rfl (by decide) rfl ?_
      refine x_goto 11 dX13_remembers_36 (by decide) ?_
      refine x_ls ?_ (ih (k + 1) _ (by omega) (by omega) (fun j hj => ?_) (fun j hj => ?_) (fun s h1 => ?_))
      · exact ⟨rfl, rfl, trivial⟩
      · rw [xu_at]
        by_cases e0 : j = k
        · rw [if_pos e0, e0]; exact h2 _ (by omega)
        · rw [if_neg e0]; exact h1 j (by omega)
      · rw [xu_nk (by omega)]; exact h2 j (by omega)
      · rw [← hs s h1]; funext x y; rw [xu_ns h1]
set_option maxRecDepth 100000 in
set_option maxHeartbeats 600000 in
theorem m_remembers (hV : VW V) {N : sN} (hN : YN V N I) {S : List sN} (hP : YP V S I) : Mt G vX13_remembers (d) (0, 0) [.ref (ad 13 0)] (MM ad nb b r I L) (qV (fun M' => ∃ I', M' = MM ad nb b r I' L ∧ YP V ((N :: S).take 16) I' ∧ (∀ s, s ≠ 86 → s ≠ 13 → I' s = I s) ∧ ∀ k, k ≠ 19 → I' 13 0 k = I 13 0 k)) := by
  have hl16 := hP.2.1
  refine x_start (by decide) (Nat.le_of_ble_eq_true rfl) ?_
  refine x_aload_n dX13_remembers_0 rfl ?_
  refine g_M_acts fX13_399 dX13_remembers_1 ?_
  rw [hP.1]
  refine x_bipush dX13_remembers_4 lb_16 ?_
  refine x_icN_ne 49 dX13_remembers_6 (by decide) (by omega) (by omega) (fun h6 => ?_) (fun h6 => ?_)
  · refine x_iconst dX13_remembers_49 li_0 ?_
    refine x_istore_n dX13_remembers_50 (by decide) rfl ?_
    refine x_ls ?_ (lp_rem2 (Iq := I) (a := S.length) hV hN hP (by omega) (by rw [List.length_take, List.length_cons]; omega) (fun i q hq => ?_) 37 0 I (by omega) (by omega) ⟨hP.1, fun _ _ => rfl⟩ (fun j hj => absurd hj (Nat.not_lt_zero j)) (fun _ _ => rfl) (fun _ _ _ => rfl))
    · exact ⟨rfl, rfl, trivial⟩
    · have hi := (List.getElem?_eq_some_iff.mp hq).1
      rw [List.length_take, List.length_cons] at hi
      rw [List.getElem?_take_of_lt (by omega), List.getElem?_cons_succ] at hq
      exact hP.2.2 i q hq
  · refine x_iconst dX13_remembers_9 li_0 ?_
    refine x_istore_n dX13_remembers_10 (by decide) rfl ?_
    refine x_ls ?_ (lp_rem1 hV hN hP (by omega) 541 0 I (by omega) (by omega) (fun j hj => absurd hj (Nat.not_lt_zero j)) (fun _ _ => rfl) (fun _ _ => rfl))
    exact ⟨rfl, rfl, trivial⟩
set_option maxRecDepth 100000 in
set_option maxHeartbeats 600000 in
theorem m_goesBy (hV : VW V) {bi : Nat} (hb : b = some bi) (hbn : bi < nb) {N : sN} (hW : NW V N) (hB : YB V bi I) (hN : YN V N I) {t H : Nat} (ht : t < V 0 7 0) (hH : H ≤ 99) : Mt G vX13_goesBy (d + 2) (0, 0) [.ref (ad 13 0), .int (nI (t)), .int (nI (H))] (MM ad nb b r I L) (qV (fun M' => ∃ I', M' = MM ad nb b r I' L ∧ YN V (upN N t (pas V (N t) H)) I' ∧ (∀ s, s < V 0 2 0 → I' 88 0 s = nI (xf V (ON N t) H s)) ∧ ∀ q, q ≠ 88 → q ≠ 85 → I' q = I q)) := by
  have v0 := hV.1
  have v1 := hV.2.1
  have v2 := hV.2.2.1
  have v3 := hV.2.2.2.1
  have v4 := hV.2.2.2.2.1
  have v7 := hV.2.2.2.2.2.2.2.1
  have v9 := hV.2.2.2.2.2.2.2.2.2.1
  have v10 := hV.2.2.2.2.2.2.2.2.2.2.1
  have loop12 : ∀ (n : Nat) (k : Nat) (I1 I2 : Nat → Nat → Nat → Int32), 6 - k < n → k ≤ 6 → (∀ s, s < 6 → I2 88 0 s = nI (pas V (N t) H (3 + s))) → (∀ s, s < V 0 2 0 → I2 88 0 s = nI (ON N t s - fd (V 2 s 0) * H)) → (∀ q, q ≠ 88 → I2 q = I q) → (∀ s, s < k → I1 85 0 (6 * t + s) = nI (pas V (N t) H (3 + s))) → (∀ j, ¬ (6 * t ≤ j ∧ j < 6 * t + k) → I1 85 0 j = I 85 0 j) → (∀ q, q ≠ 85 → I1 q = I2 q) → X G vX13_goesBy (d + 2) (0, 0) 12 [(0, some (.ref (ad 13 0))), (1, some (.int (nI (t)))), (2, some (.int (nI (H)))), (3, some (.int (nI (k))))] [] (MM ad nb b r I1 L) (xT G (qV (fun M' => ∃ I', M' = MM ad nb b r I' L ∧ YN V (upN N t (pas V (N t) H)) I' ∧ (∀ s, s < V 0 2 0 → I' 88 0 s = nI (xf V (ON N t) H s)) ∧ ∀ q, q ≠ 88 → q ≠ 85 → I' q = I q))) := by
    intro n
    induction n with
    | zero => intro k I1 I2 h0; omega
    | succ n ih =>
      intro k I1 I2 hn hk hx f1 h2 h1 h3 hs
      refine x_iload_n dX13_goesBy_12 rfl ?_
      refine x_bipush dX13_goesBy_13 lb_6 ?_
      refine x_icN_ge 41 dX13_goesBy_15 (by decide) (by omega) (by omega) (fun h15 => ?_) (fun h15 => ?_)
      · refine x_aload_n dX13_goesBy_41 rfl ?_
        refine g_M_v fX13_17 dX13_goesBy_42 ?_
        refine x_bipush dX13_goesBy_45 lb_32 ?_
        refine x_iload_n dX13_goesBy_47 rfl ?_
        refine x_iaddN dX13_goesBy_48 ?_
        refine x_dup2 dX13_goesBy_49 rfl rfl ?_
        refine x_iald dX13_goesBy_50 rfl rfl (Nat.le_of_ble_eq_true rfl) (by first | exact Nat.le_of_ble_eq_true rfl | assumption | omega) ?_
        rw [h3 (32 + t) (by omega), (hN t ht).2.2.2]
        refine x_iload_n dX13_goesBy_51 rfl ?_
        refine x_iaddN dX13_goesBy_52 ?_
        refine x_iast dX13_goesBy_53 rfl rfl (Nat.le_of_ble_eq_true rfl) (by first | exact Nat.le_of_ble_eq_true rfl | assumption | omega) ?_
        refine x_vret dX13_goesBy_54 rfl ?_
        obtain rfl : k = 6 := by omega
        refine ⟨rfl, _, rfl, fun u hu => ?_, fun s hsv => ?_, fun q h8 h5 => ?_⟩
        · by_cases e0 : u = t
          · subst e0
            have eu : upN N u (pas V (N u) H) u = pas V (N u) H := if_pos rfl
            rw [eu]
            refine ⟨fun s h6 => ?_, ?_, ?_, ?_⟩
            · rw [xu_nk (by omega)]; exact h1 s h6
            · rw [xu_nk (by omega), h3 _ (by omega)]; exact (hN u hu).2.1
            · rw [xu_nk (by omega), h3 _ (by omega)]; exact (hN u hu).2.2.1
            · rw [xu_s]; rfl
          · have eu : upN N t (pas V (N t) H) u = N u := if_neg e0
            rw [eu]
            obtain ⟨n1, n2, n3, n4⟩ := hN u hu
            refine ⟨fun s h6 => ?_, ?_, ?_, ?_⟩
            · rw [xu_nk (by omega), h3 _ (by omega)]; exact n1 s h6
            · rw [xu_nk (by omega), h3 _ (by omega)]; exact n2
            · rw [xu_nk (by omega), h3 _ (by omega)]; exact n3
            · rw [xu_nk (by omega), h3 _ (by omega)]; exact n4
        · rw [xu_ns (by decide), hs 88 (by decide)]; exact f1 s hsv
        · rw [← h2 q h8, ← hs q h5]; funext x y; rw [xu_ns h5]
      · refine x_aload_n dX13_goesBy_18 rfl ?_
        refine g_M_v fX13_17 dX13_goesBy_19 ?_
        refine x_bipush dX13_goesBy_22 lb_6 ?_
        refine x_iload_n dX13_goesBy_24 rfl ?_
        refine x_imulN dX13_goesBy_25 ?_
        refine x_iload_n dX13_goesBy_26 rfl ?_
        refine x_iaddN dX13_goesBy_27 ?_
        refine x_aload_n dX13_goesBy_28 rfl ?_
        refine g_M_x fX13_27 dX13_goesBy_29 ?_
        refine x_iload_n dX13_goesBy_32 rfl ?_
        refine x_iald dX13_goesBy_33 rfl rfl (Nat.le_of_ble_eq_true rfl) (by first | exact Nat.le_of_ble_eq_true rfl | assumption | omega) ?_
        refine x_iast dX13_goesBy_34 rfl rfl (Nat.le_of_ble_eq_true rfl) (by first | exact Nat.le_of_ble_eq_true rfl | assumption | omega) ?_
        refine x_iincN 1 dX13_goesBy_35 li_1 rfl (by decide) rfl ?_
        refine x_goto 12 dX13_goesBy_38 (by decide) ?_
        refine x_ls ?_ (ih (k + 1) _ I2 (by omega) (by omega) hx f1 h2 (fun s hsk => ?_) (fun j hj => ?_) (fun q hq => ?_))
        · exact ⟨rfl, rfl, rfl, rfl, trivial⟩
        · rw [xu_at]
          by_cases e0 : s = k
          · rw [if_pos (by omega), e0, hs 88 (by decide)]; exact hx k (by omega)
          · rw [if_neg (by omega)]; exact h1 s (by omega)
        · rw [xu_nk (by omega)]; exact h3 j (by omega)
        · rw [← hs q hq]; funext x y; rw [xu_ns hq]
  refine x_start (by decide) (Nat.le_of_ble_eq_true rfl) ?_
  refine x_aload_n dX13_goesBy_0 rfl ?_
  refine x_iload_n dX13_goesBy_1 rfl ?_
  refine x_cvv (m_tries (d := d + 1) (t := t) (by omega)) kX13_428 dX13_goesBy_2 rfl (Nat.le_of_ble_eq_true rfl) rfl rfl (Nat.le_of_ble_eq_true rfl) (fun Mu hq => ?_)
  obtain ⟨I1, rfl, t1, t2⟩ := hq
  refine x_aload_n dX13_goesBy_5 rfl ?_
  refine x_iload_n dX13_goesBy_6 rfl ?_
  refine x_cvv (m_fades (d := d) (g := ON N t) hV hb hbn (hB.sm (fun q hq => t2 q (by omega))) (by omega) (fun s hs => by rw [t1 s (by omega)]; exact (hN t ht).1 s (by omega)) (fun s hs => (hW t ht).2 s (by omega))) kX13_431 dX13_goesBy_7 rfl (Nat.le_of_ble_eq_true rfl) rfl rfl (Nat.le_of_ble_eq_true rfl) (fun Mu hq => ?_)
  obtain ⟨I2, rfl, f1, f2, f3⟩ := hq
  have hx : ∀ s, s < 6 → I2 88 0 s = nI (pas V (N t) H (3 + s)) := fun s hs => by
    unfold pas
    rw [if_neg (by omega)]
    by_cases e0 : s < V 0 2 0
    · rw [if_pos (by omega), f1 s e0, Nat.add_sub_cancel_left]; rfl
    · rw [if_neg (by omega), f2 s (by omega), t1 s hs]; exact (hN t ht).1 s hs
  refine x_iconst dX13_goesBy_10 li_0 ?_
  refine x_istore_n dX13_goesBy_11 (by decide) rfl ?_
  refine x_ls ?_ (loop12 7 0 I2 I2 (by omega) (by omega) hx f1 (fun q hq => (f3 q hq).trans (t2 q hq)) (fun s h => absurd h (Nat.not_lt_zero s)) (fun j _ => by rw [f3 85 (by decide), t2 85 (by decide)]) (fun _ _ => rfl))
  exact ⟨rfl, rfl, rfl, rfl, trivial⟩
end M9
