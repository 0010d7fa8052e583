section M14
variable {G : xG} {ad : Nat → Nat → Nat} {nb : Nat} {b r : Option Nat} {L : Nat → Nat → Nat → Int64} {V : sV} {I : Nat → Nat → Nat → Int32} {d : Nat}

variable {f : Nat → Nat} {so : Nat} {W : List (List Nat)} {w : List Nat}
def GD (V : sV) (f : Nat → Nat) (so : Nat) (W : List (List Nat)) (I : Nat → Nat → Nat → Int32) : Prop := ∀ k, k < W.length → ∀ p, p < 6 → I 97 0 (6 * k + p) = nI (gp V f so W k p)
/-- the ways found so far, as the model keeps them -/
def WR (V : sV) (f : Nat → Nat) (so : Nat) (W : List (List Nat)) (I : Nat → Nat → Nat → Int32) : Prop := I 13 0 31 = nI W.length ∧ WL V W ∧ GD V f so W I ∧ BA V f so W 0 I ∧ BA V f so W 1 I ∧ BA V f so W 2 I
def FE (I I' : Nat → Nat → Nat → Int32) : Prop := (∀ s, s ≠ 88 → ¬ (93 ≤ s ∧ s ≤ 97) → s ≠ 13 → I' s = I s) ∧ ∀ k, k ≠ 31 → I' 13 0 k = I 13 0 k
theorem FE.tr {I1 I2 : Nat → Nat → Nat → Int32} (h1 : FE I I1) (h2 : FE I1 I2) : FE I I2 := ⟨fun s a c e => (h2.1 s a c e).trans (h1.1 s a c e), fun k hk => (h2.2 k hk).trans (h1.2 k hk)⟩
theorem FE.rf : FE I I := ⟨fun _ _ _ _ => rfl, fun _ _ => rfl⟩
theorem FE.of {I' : Nat → Nat → Nat → Int32} {s0 : Nat} (h : ∀ q, q ≠ s0 → I' q = I q) (hs : s0 = 88 ∨ (93 ≤ s0 ∧ s0 ≤ 97)) : FE I I' := ⟨fun s a c _ => h s (by omega), fun k _ => by rw [h 13 (by omega)]⟩
theorem FE.tk {I' : Nat → Nat → Nat → Int32} (h : ∀ s, s ≠ 93 → s ≠ 94 → s ≠ 95 → s ≠ 96 → I' s = I s) : FE I I' := ⟨fun s a c _ => h s (by omega) (by omega) (by omega) (by omega), fun k _ => by rw [h 13 (by decide) (by decide) (by decide) (by decide)]⟩
theorem FE.mx {I' : Nat → Nat → Nat → Int32} (h : FE I I') : MX I I' := ⟨fun s a c => h.1 s (fun z => a (by unfold msc; omega)) (fun z => a (by unfold msc; omega)) c, fun k hk => h.2 k (by omega)⟩
theorem GD.app {I' : Nat → Nat → Nat → Int32} (h : GD V f so W I) (h1 : ∀ j, j < 6 * W.length → I' 97 0 j = I 97 0 j) (h2 : ∀ p, p < 6 → I' 97 0 (6 * W.length + p) = nI (gpl V f so w w.length p)) : GD V f so (W ++ [w]) I' := by
  intro k hk p hp
  rw [List.length_append] at hk
  have hk2 : k < W.length + 1 := hk
  unfold gp
  by_cases e : k = W.length
  · rw [e, getD_r]; exact h2 p hp
  · rw [h1 _ (by omega), getD_l (by omega), h k (by omega) p hp]; rfl

set_option maxRecDepth 100000 in
set_option maxHeartbeats 600000 in
theorem me3 (hV : VW V) (hf : ∀ s, s < 6 → f s ≤ 198) (hL : WL V W) (hW65 : W.length < 65) (hw1 : 1 ≤ w.length) (hw6 : w.length ≤ 6) (hwq : ∀ q ∈ w, q < V 0 4 0) {t : Nat} {I1 : Nat → Nat → Nat → Int32} (hw : ∀ i, i < w.length → I1 92 0 i = nI (w.getD i 0)) (h31 : I1 13 0 31 = nI (W.length + 1)) (hG : GD V f so (W ++ [w]) I1) (hF : FE I I1) (b0 : BA V f so (W ++ [w]) 0 I1) (b1 : BA V f so (W ++ [w]) 1 I1) (b2 : BA V f so W 2 I1) : X G vX13_ends (d + 4) (0, 0) 262 [(0, some (.ref (ad 13 0))), (1, some (.int (nI (t)))), (2, some (.int (nI (w.length)))), (3, some (.int (nI (cum V w (w.length - 1))))), (4, some (.int (nI (dl V f so w w.length))))] [] (MM ad nb b r I1 L) (xT G (qV (fun M' => ∃ I', M' = MM ad nb b r I' L ∧ WR V f so (W ++ [w]) I' ∧ FE I I'))) := by
  have hcl := cum_le (w := w) hV (w.length - 1)
  have hdl := dl_le (V := V) (sort := so) (w := w) hV hf w.length
  have hLw : WL V (W ++ [w]) := fun q hq => by
    rcases List.mem_append.mp hq with h | h
    · exact hL q h
    · rw [List.mem_singleton.mp h]; exact ⟨hw1, hw6, hwq⟩
  have hb6 := bsz_6 (V := V) (f := f) (so := so) (kd := 2) hL
  have hb0 := bsz_0 (V := V) (f := f) (so := so) (kd := 2) hL
  have hpl := pkw_le (V := V) (f := f) (so := so) (W := W) (kd := 2)
  refine x_aload_n dX13_ends_262 rfl ?_
  refine x_iconst dX13_ends_263 li_2 ?_
  refine x_iload_n dX13_ends_264 rfl ?_
  refine x_iload_n dX13_ends_265 rfl ?_
  refine x_iload dX13_ends_266 rfl ?_
  refine x_iload dX13_ends_268 rfl ?_
  refine x_ifN_ne 296 dX13_ends_270 (by decide) (by omega) (fun h270 => ?_) (fun h270 => ?_)
  · have he0 : pk V f so (W ++ [w]) 2 = pk V f so W 2 := by rw [pkw_app, if_neg (fun z => by rcases z.1 with y | y <;> omega)]
    refine x_iconst dX13_ends_296 li_0 ?_
    refine x_cvv (m_takes (d := d + 3) (kd := 2) (mn := w.length) (hh := cum V w (w.length - 1)) (dd := dl V f so w w.length) (by omega) hw6 (by omega)) kX13_459 dX13_ends_297 rfl (Nat.le_of_ble_eq_true rfl) rfl rfl (Nat.le_of_ble_eq_true rfl) (fun Mu hq => ?_)
    obtain ⟨I2, rfl, t0, t1⟩ := hq
    refine x_vret dX13_ends_300 rfl ?_
    first
      | (obtain rfl := t0 rfl
         have n2 := b2.no he0 rfl rfl rfl (fun _ _ => rfl) hL
         have n0 := b0
         have n1 := b1
         have hF2 := hF
         have hw2 := hw
         have h312 := h31
         have hG2 := hG
         exact ⟨rfl, _, rfl, ⟨by rw [h312, List.length_append]; rfl, hLw, hG2, n0, n1, n2⟩, hF2⟩
        )
      | (obtain ⟨⟨a4, a5, a6, a3⟩, o1, o2, o3⟩ := t1 rfl
         have n2 : BA V f so (W ++ [w]) 2 I2 := BA.yes he1 a4 a5 a6 (fun i hi => by rw [a3 i hi]; exact hw i hi)
         have n0 := b0.sm (o1 0 (by decide)).1 (o1 0 (by decide)).2.1 (o1 0 (by decide)).2.2 (fun i hi => o2 _ (by omega)) hLw
         have n1 := b1.sm (o1 1 (by decide)).1 (o1 1 (by decide)).2.1 (o1 1 (by decide)).2.2 (fun i hi => o2 _ (by omega)) hLw
         have hF2 := hF.tr (FE.tk o3)
         have hw2 : ∀ i, i < w.length → I2 92 0 i = nI (w.getD i 0) := fun i hi => by rw [o3 92 (by decide) (by decide) (by decide) (by decide)]; exact hw i hi
         have h312 : I2 13 0 31 = nI (W.length + 1) := by rw [o3 13 (by decide) (by decide) (by decide) (by decide)]; exact h31
         have hG2 : GD V f so (W ++ [w]) I2 := fun k hk p hp => by rw [o3 97 (by decide) (by decide) (by decide) (by decide)]; exact hG k hk p hp
         exact ⟨rfl, _, rfl, ⟨by rw [h312, List.length_append]; rfl, hLw, hG2, n0, n1, n2⟩, hF2⟩
        )
  · refine x_aload_n dX13_ends_273 rfl ?_
    refine g_M_bestSize fX13_45 dX13_ends_274 ?_
    refine x_iconst dX13_ends_277 li_2 ?_
    refine x_iald dX13_ends_278 rfl rfl (Nat.le_of_ble_eq_true rfl) (by first | exact Nat.le_of_ble_eq_true rfl | assumption | omega) ?_
    rw [b2.1]
    refine x_ifN_eq 292 dX13_ends_279 (by decide) (by omega) (fun h279 => ?_) (fun h279 => ?_)
    · have he1 : pk V f so (W ++ [w]) 2 = W.length + 1 := by rw [pkw_app, if_pos ⟨Or.inr (by omega), Or.inl (hb0.mp (by omega))⟩]
      refine x_iconst dX13_ends_292 li_1 ?_
      refine x_goto 297 dX13_ends_293 (by decide) ?_
      refine x_cvv (m_takes (d := d + 3) (kd := 2) (mn := w.length) (hh := cum V w (w.length - 1)) (dd := dl V f so w w.length) (by omega) hw6 (by omega)) kX13_459 dX13_ends_297 rfl (Nat.le_of_ble_eq_true rfl) rfl rfl (Nat.le_of_ble_eq_true rfl) (fun Mu hq => ?_)
      obtain ⟨I2, rfl, t0, t1⟩ := hq
      refine x_vret dX13_ends_300 rfl ?_
      first
        | (obtain rfl := t0 rfl
           have n2 := b2.no he0 rfl rfl rfl (fun _ _ => rfl) hL
           have n0 := b0
           have n1 := b1
           have hF2 := hF
           have hw2 := hw
           have h312 := h31
           have hG2 := hG
           exact ⟨rfl, _, rfl, ⟨by rw [h312, List.length_append]; rfl, hLw, hG2, n0, n1, n2⟩, hF2⟩
          )
        | (obtain ⟨⟨a4, a5, a6, a3⟩, o1, o2, o3⟩ := t1 rfl
           have n2 : BA V f so (W ++ [w]) 2 I2 := BA.yes he1 a4 a5 a6 (fun i hi => by rw [a3 i hi]; exact hw i hi)
           have n0 := b0.sm (o1 0 (by decide)).1 (o1 0 (by decide)).2.1 (o1 0 (by decide)).2.2 (fun i hi => o2 _ (by omega)) hLw
           have n1 := b1.sm (o1 1 (by decide)).1 (o1 1 (by decide)).2.1 (o1 1 (by decide)).2.2 (fun i hi => o2 _ (by omega)) hLw
           have hF2 := hF.tr (FE.tk o3)
           have hw2 : ∀ i, i < w.length → I2 92 0 i = nI (w.getD i 0) := fun i hi => by rw [o3 92 (by decide) (by decide) (by decide) (by decide)]; exact hw i hi
           have h312 : I2 13 0 31 = nI (W.length + 1) := by rw [o3 13 (by decide) (by decide) (by decide) (by decide)]; exact h31
           have hG2 : GD V f so (W ++ [w]) I2 := fun k hk p hp => by rw [o3 97 (by decide) (by decide) (by decide) (by decide)]; exact hG k hk p hp
           exact ⟨rfl, _, rfl, ⟨by rw [h312, List.length_append]; rfl, hLw, hG2, n0, n1, n2⟩, hF2⟩
          )
    · have hp0 : pk V f so W 2 ≠ 0 := fun z => by have := hb0.mpr z; omega
      have hb95 := (b2.2 hp0).1
      have hb96 := (b2.2 hp0).2.1
      have hwl := hWd_le hV hL (k := pk V f so W 2 - 1) (by omega)
      have dwl := dW_le (so := so) hV hf hL (k := pk V f so W 2 - 1) (by omega)
      refine x_iload_n dX13_ends_282 rfl ?_
      refine x_aload_n dX13_ends_283 rfl ?_
      refine g_M_bestHours fX13_48 dX13_ends_284 ?_
      refine x_iconst dX13_ends_287 li_2 ?_
      refine x_iald dX13_ends_288 rfl rfl (Nat.le_of_ble_eq_true rfl) (by first | exact Nat.le_of_ble_eq_true rfl | assumption | omega) ?_
      rw [hb95]
      refine x_icN_ge 296 dX13_ends_289 (by decide) (by omega) (by omega) (fun h289 => ?_) (fun h289 => ?_)
      · have he0 : pk V f so (W ++ [w]) 2 = pk V f so W 2 := by rw [pkw_app, if_neg (fun z => z.2.elim hp0 (fun y => by rw [if_neg (by omega)] at y; exact absurd (of_decide_eq_true y) (by omega)))]
        refine x_iconst dX13_ends_296 li_0 ?_
        refine x_cvv (m_takes (d := d + 3) (kd := 2) (mn := w.length) (hh := cum V w (w.length - 1)) (dd := dl V f so w w.length) (by omega) hw6 (by omega)) kX13_459 dX13_ends_297 rfl (Nat.le_of_ble_eq_true rfl) rfl rfl (Nat.le_of_ble_eq_true rfl) (fun Mu hq => ?_)
        obtain ⟨I2, rfl, t0, t1⟩ := hq
        refine x_vret dX13_ends_300 rfl ?_
        first
          | (obtain rfl := t0 rfl
             have n2 := b2.no he0 rfl rfl rfl (fun _ _ => rfl) hL
             have n0 := b0
             have n1 := b1
             have hF2 := hF
             have hw2 := hw
             have h312 := h31
             have hG2 := hG
             exact ⟨rfl, _, rfl, ⟨by rw [h312, List.length_append]; rfl, hLw, hG2, n0, n1, n2⟩, hF2⟩
            )
          | (obtain ⟨⟨a4, a5, a6, a3⟩, o1, o2, o3⟩ := t1 rfl
             have n2 : BA V f so (W ++ [w]) 2 I2 := BA.yes he1 a4 a5 a6 (fun i hi => by rw [a3 i hi]; exact hw i hi)
             have n0 := b0.sm (o1 0 (by decide)).1 (o1 0 (by decide)).2.1 (o1 0 (by decide)).2.2 (fun i hi => o2 _ (by omega)) hLw
             have n1 := b1.sm (o1 1 (by decide)).1 (o1 1 (by decide)).2.1 (o1 1 (by decide)).2.2 (fun i hi => o2 _ (by omega)) hLw
             have hF2 := hF.tr (FE.tk o3)
             have hw2 : ∀ i, i < w.length → I2 92 0 i = nI (w.getD i 0) := fun i hi => by rw [o3 92 (by decide) (by decide) (by decide) (by decide)]; exact hw i hi
             have h312 : I2 13 0 31 = nI (W.length + 1) := by rw [o3 13 (by decide) (by decide) (by decide) (by decide)]; exact h31
             have hG2 : GD V f so (W ++ [w]) I2 := fun k hk p hp => by rw [o3 97 (by decide) (by decide) (by decide) (by decide)]; exact hG k hk p hp
             exact ⟨rfl, _, rfl, ⟨by rw [h312, List.length_append]; rfl, hLw, hG2, n0, n1, n2⟩, hF2⟩
            )
      · have he1 : pk V f so (W ++ [w]) 2 = W.length + 1 := by rw [pkw_app, if_pos ⟨Or.inr (by omega), Or.inr (by rw [if_neg (by omega)]; exact decide_eq_true (by omega))⟩]
        refine x_iconst dX13_ends_292 li_1 ?_
        refine x_goto 297 dX13_ends_293 (by decide) ?_
        refine x_cvv (m_takes (d := d + 3) (kd := 2) (mn := w.length) (hh := cum V w (w.length - 1)) (dd := dl V f so w w.length) (by omega) hw6 (by omega)) kX13_459 dX13_ends_297 rfl (Nat.le_of_ble_eq_true rfl) rfl rfl (Nat.le_of_ble_eq_true rfl) (fun Mu hq => ?_)
        obtain ⟨I2, rfl, t0, t1⟩ := hq
        refine x_vret dX13_ends_300 rfl ?_
        first
          | (obtain rfl := t0 rfl
             have n2 := b2.no he0 rfl rfl rfl (fun _ _ => rfl) hL
             have n0 := b0
             have n1 := b1
             have hF2 := hF
             have hw2 := hw
             have h312 := h31
             have hG2 := hG
             exact ⟨rfl, _, rfl, ⟨by rw [h312, List.length_append]; rfl, hLw, hG2, n0, n1, n2⟩, hF2⟩
            )
          | (obtain ⟨⟨a4, a5, a6, a3⟩, o1, o2, o3⟩ := t1 rfl
             have n2 : BA V f so (W ++ [w]) 2 I2 := BA.yes he1 a4 a5 a6 (fun i hi => by rw [a3 i hi]; exact hw i hi)
             have n0 := b0.sm (o1 0 (by decide)).1 (o1 0 (by decide)).2.1 (o1 0 (by decide)).2.2 (fun i hi => o2 _ (by omega)) hLw
             have n1 := b1.sm (o1 1 (by decide)).1 (o1 1 (by decide)).2.1 (o1 1 (by decide)).2.2 (fun i hi => o2 _ (by omega)) hLw
             have hF2 := hF.tr (FE.tk o3)
             have hw2 : ∀ i, i < w.length → I2 92 0 i = nI (w.getD i 0) := fun i hi => by rw [o3 92 (by decide) (by decide) (by decide) (by decide)]; exact hw i hi
             have h312 : I2 13 0 31 = nI (W.length + 1) := by rw [o3 13 (by decide) (by decide) (by decide) (by decide)]; exact h31
             have hG2 : GD V f so (W ++ [w]) I2 := fun k hk p hp => by rw [o3 97 (by decide) (by decide) (by decide) (by decide)]; exact hG k hk p hp
             exact ⟨rfl, _, rfl, ⟨by rw [h312, List.length_append]; rfl, hLw, hG2, n0, n1, n2⟩, hF2⟩
            )
set_option maxRecDepth 100000 in
set_option maxHeartbeats 600000 in
theorem me2 (hV : VW V) (hf : ∀ s, s < 6 → f s ≤ 198) (hL : WL V W) (hW65 : W.length < 65) (hw1 : 1 ≤ w.length) (hw6 : w.length ≤ 6) (hwq : ∀ q ∈ w, q < V 0 4 0) {t : Nat} {I1 : Nat → Nat → Nat → Int32} (hw : ∀ i, i < w.length → I1 92 0 i = nI (w.getD i 0)) (h31 : I1 13 0 31 = nI (W.length + 1)) (hG : GD V f so (W ++ [w]) I1) (hF : FE I I1) (b0 : BA V f so (W ++ [w]) 0 I1) (b1 : BA V f so W 1 I1) (b2 : BA V f so W 2 I1) : X G vX13_ends (d + 4) (0, 0) 207 [(0, some (.ref (ad 13 0))), (1, some (.int (nI (t)))), (2, some (.int (nI (w.length)))), (3, some (.int (nI (cum V w (w.length - 1))))), (4, some (.int (nI (dl V f so w w.length))))] [] (MM ad nb b r I1 L) (xT G (qV (fun M' => ∃ I', M' = MM ad nb b r I' L ∧ WR V f so (W ++ [w]) I' ∧ FE I I'))) := by
  have hcl := cum_le (w := w) hV (w.length - 1)
  have hdl := dl_le (V := V) (sort := so) (w := w) hV hf w.length
  have hLw : WL V (W ++ [w]) := fun q hq => by
    rcases List.mem_append.mp hq with h | h
    · exact hL q h
    · rw [List.mem_singleton.mp h]; exact ⟨hw1, hw6, hwq⟩
  have hb6 := bsz_6 (V := V) (f := f) (so := so) (kd := 1) hL
  have hb0 := bsz_0 (V := V) (f := f) (so := so) (kd := 1) hL
  have hpl := pkw_le (V := V) (f := f) (so := so) (W := W) (kd := 1)
  refine x_aload_n dX13_ends_207 rfl ?_
  refine x_iconst dX13_ends_208 li_1 ?_
  refine x_iload_n dX13_ends_209 rfl ?_
  refine x_iload_n dX13_ends_210 rfl ?_
  refine x_iload dX13_ends_211 rfl ?_
  refine x_aload_n dX13_ends_213 rfl ?_
  refine g_M_bestSize fX13_45 dX13_ends_214 ?_
  refine x_iconst dX13_ends_217 li_1 ?_
  refine x_iald dX13_ends_218 rfl rfl (Nat.le_of_ble_eq_true rfl) (by first | exact Nat.le_of_ble_eq_true rfl | assumption | omega) ?_
  rw [b1.1]
  refine x_ifN_eq 254 dX13_ends_219 (by decide) (by omega) (fun h219 => ?_) (fun h219 => ?_)
  · have he1 : pk V f so (W ++ [w]) 1 = W.length + 1 := by rw [pkw_app, if_pos ⟨Or.inl (by decide), Or.inl (hb0.mp (by omega))⟩]
    refine x_iconst dX13_ends_254 li_1 ?_
    refine x_goto 259 dX13_ends_255 (by decide) ?_
    refine x_cvv (m_takes (d := d + 3) (kd := 1) (mn := w.length) (hh := cum V w (w.length - 1)) (dd := dl V f so w w.length) (by omega) hw6 (by omega)) kX13_459 dX13_ends_259 rfl (Nat.le_of_ble_eq_true rfl) rfl rfl (Nat.le_of_ble_eq_true rfl) (fun Mu hq => ?_)
    obtain ⟨I2, rfl, t0, t1⟩ := hq
    first
      | (obtain rfl := t0 rfl
         have n1 := b1.no he0 rfl rfl rfl (fun _ _ => rfl) hL
         have n0 := b0
         have n2 := b2
         have hF2 := hF
         have hw2 := hw
         have h312 := h31
         have hG2 := hG
         refine x_ls ?_ (me3 (t := t) hV hf hL hW65 hw1 hw6 hwq hw2 h312 hG2 hF2 n0 n1 n2)
         exact ⟨rfl, rfl, rfl, rfl, rfl, trivial⟩
        )
      | (obtain ⟨⟨a4, a5, a6, a3⟩, o1, o2, o3⟩ := t1 rfl
         have n1 : BA V f so (W ++ [w]) 1 I2 := BA.yes he1 a4 a5 a6 (fun i hi => by rw [a3 i hi]; exact hw i hi)
         have n0 := b0.sm (o1 0 (by decide)).1 (o1 0 (by decide)).2.1 (o1 0 (by decide)).2.2 (fun i hi => o2 _ (by omega)) hLw
         have n2 := b2.sm (o1 2 (by decide)).1 (o1 2 (by decide)).2.1 (o1 2 (by decide)).2.2 (fun i hi => o2 _ (by omega)) hL
         have hF2 := hF.tr (FE.tk o3)
         have hw2 : ∀ i, i < w.length → I2 92 0 i = nI (w.getD i 0) := fun i hi => by rw [o3 92 (by decide) (by decide) (by decide) (by decide)]; exact hw i hi
         have h312 : I2 13 0 31 = nI (W.length + 1) := by rw [o3 13 (by decide) (by decide) (by decide) (by decide)]; exact h31
         have hG2 : GD V f so (W ++ [w]) I2 := fun k hk p hp => by rw [o3 97 (by decide) (by decide) (by decide) (by decide)]; exact hG k hk p hp
         refine x_ls ?_ (me3 (t := t) hV hf hL hW65 hw1 hw6 hwq hw2 h312 hG2 hF2 n0 n1 n2)
         exact ⟨rfl, rfl, rfl, rfl, rfl, trivial⟩
        )
  · have hp0 : pk V f so W 1 ≠ 0 := fun z => by have := hb0.mpr z; omega
    have hb95 := (b1.2 hp0).1
    have hb96 := (b1.2 hp0).2.1
    have hwl := hWd_le hV hL (k := pk V f so W 1 - 1) (by omega)
    have dwl := dW_le (so := so) hV hf hL (k := pk V f so W 1 - 1) (by omega)
    refine x_iload dX13_ends_222 rfl ?_
    refine x_aload_n dX13_ends_224 rfl ?_
    refine g_M_bestDuty fX13_51 dX13_ends_225 ?_
    refine x_iconst dX13_ends_228 li_1 ?_
    refine x_iald dX13_ends_229 rfl rfl (Nat.le_of_ble_eq_true rfl) (by first | exact Nat.le_of_ble_eq_true rfl | assumption | omega) ?_
    rw [hb96]
    refine x_icN_lt 254 dX13_ends_230 (by decide) (by omega) (by omega) (fun h230 => ?_) (fun h230 => ?_)
    · have he1 : pk V f so (W ++ [w]) 1 = W.length + 1 := by rw [pkw_app, if_pos ⟨Or.inl (by decide), Or.inr (by rw [if_pos ⟨rfl, by omega⟩]; exact decide_eq_true (by omega))⟩]
      refine x_iconst dX13_ends_254 li_1 ?_
      refine x_goto 259 dX13_ends_255 (by decide) ?_
      refine x_cvv (m_takes (d := d + 3) (kd := 1) (mn := w.length) (hh := cum V w (w.length - 1)) (dd := dl V f so w w.length) (by omega) hw6 (by omega)) kX13_459 dX13_ends_259 rfl (Nat.le_of_ble_eq_true rfl) rfl rfl (Nat.le_of_ble_eq_true rfl) (fun Mu hq => ?_)
      obtain ⟨I2, rfl, t0, t1⟩ := hq
      first
        | (obtain rfl := t0 rfl
           have n1 := b1.no he0 rfl rfl rfl (fun _ _ => rfl) hL
           have n0 := b0
           have n2 := b2
           have hF2 := hF
           have hw2 := hw
           have h312 := h31
           have hG2 := hG
           refine x_ls ?_ (me3 (t := t) hV hf hL hW65 hw1 hw6 hwq hw2 h312 hG2 hF2 n0 n1 n2)
           exact ⟨rfl, rfl, rfl, rfl, rfl, trivial⟩
          )
        | (obtain ⟨⟨a4, a5, a6, a3⟩, o1, o2, o3⟩ := t1 rfl
           have n1 : BA V f so (W ++ [w]) 1 I2 := BA.yes he1 a4 a5 a6 (fun i hi => by rw [a3 i hi]; exact hw i hi)
           have n0 := b0.sm (o1 0 (by decide)).1 (o1 0 (by decide)).2.1 (o1 0 (by decide)).2.2 (fun i hi => o2 _ (by omega)) hLw
           have n2 := b2.sm (o1 2 (by decide)).1 (o1 2 (by decide)).2.1 (o1 2 (by decide)).2.2 (fun i hi => o2 _ (by omega)) hL
           have hF2 := hF.tr (FE.tk o3)
           have hw2 : ∀ i, i < w.length → I2 92 0 i = nI (w.getD i 0) := fun i hi => by rw [o3 92 (by decide) (by decide) (by decide) (by decide)]; exact hw i hi
           have h312 : I2 13 0 31 = nI (W.length + 1) := by rw [o3 13 (by decide) (by decide) (by decide) (by decide)]; exact h31
           have hG2 : GD V f so (W ++ [w]) I2 := fun k hk p hp => by rw [o3 97 (by decide) (by decide) (by decide) (by decide)]; exact hG k hk p hp
           refine x_ls ?_ (me3 (t := t) hV hf hL hW65 hw1 hw6 hwq hw2 h312 hG2 hF2 n0 n1 n2)
           exact ⟨rfl, rfl, rfl, rfl, rfl, trivial⟩
          )
    · refine x_iload dX13_ends_233 rfl ?_
      refine x_aload_n dX13_ends_235 rfl ?_
      refine g_M_bestDuty fX13_51 dX13_ends_236 ?_
      refine x_iconst dX13_ends_239 li_1 ?_
      refine x_iald dX13_ends_240 rfl rfl (Nat.le_of_ble_eq_true rfl) (by first | exact Nat.le_of_ble_eq_true rfl | assumption | omega) ?_
      rw [hb96]
      refine x_icN_ne 258 dX13_ends_241 (by decide) (by omega) (by omega) (fun h241 => ?_) (fun h241 => ?_)
      · have he0 : pk V f so (W ++ [w]) 1 = pk V f so W 1 := by rw [pkw_app, if_neg (fun z => z.2.elim hp0 (fun y => by rw [if_pos ⟨rfl, by omega⟩] at y; exact absurd (of_decide_eq_true y) (by omega)))]
        refine x_iconst dX13_ends_258 li_0 ?_
        refine x_cvv (m_takes (d := d + 3) (kd := 1) (mn := w.length) (hh := cum V w (w.length - 1)) (dd := dl V f so w w.length) (by omega) hw6 (by omega)) kX13_459 dX13_ends_259 rfl (Nat.le_of_ble_eq_true rfl) rfl rfl (Nat.le_of_ble_eq_true rfl) (fun Mu hq => ?_)
        obtain ⟨I2, rfl, t0, t1⟩ := hq
        first
          | (obtain rfl := t0 rfl
             have n1 := b1.no he0 rfl rfl rfl (fun _ _ => rfl) hL
             have n0 := b0
             have n2 := b2
             have hF2 := hF
             have hw2 := hw
             have h312 := h31
             have hG2 := hG
             refine x_ls ?_ (me3 (t := t) hV hf hL hW65 hw1 hw6 hwq hw2 h312 hG2 hF2 n0 n1 n2)
             exact ⟨rfl, rfl, rfl, rfl, rfl, trivial⟩
            )
          | (obtain ⟨⟨a4, a5, a6, a3⟩, o1, o2, o3⟩ := t1 rfl
             have n1 : BA V f so (W ++ [w]) 1 I2 := BA.yes he1 a4 a5 a6 (fun i hi => by rw [a3 i hi]; exact hw i hi)
             have n0 := b0.sm (o1 0 (by decide)).1 (o1 0 (by decide)).2.1 (o1 0 (by decide)).2.2 (fun i hi => o2 _ (by omega)) hLw
             have n2 := b2.sm (o1 2 (by decide)).1 (o1 2 (by decide)).2.1 (o1 2 (by decide)).2.2 (fun i hi => o2 _ (by omega)) hL
             have hF2 := hF.tr (FE.tk o3)
             have hw2 : ∀ i, i < w.length → I2 92 0 i = nI (w.getD i 0) := fun i hi => by rw [o3 92 (by decide) (by decide) (by decide) (by decide)]; exact hw i hi
             have h312 : I2 13 0 31 = nI (W.length + 1) := by rw [o3 13 (by decide) (by decide) (by decide) (by decide)]; exact h31
             have hG2 : GD V f so (W ++ [w]) I2 := fun k hk p hp => by rw [o3 97 (by decide) (by decide) (by decide) (by decide)]; exact hG k hk p hp
             refine x_ls ?_ (me3 (t := t) hV hf hL hW65 hw1 hw6 hwq hw2 h312 hG2 hF2 n0 n1 n2)
             exact ⟨rfl, rfl, rfl, rfl, rfl, trivial⟩
            )
      · refine x_iload_n dX13_ends_244 rfl ?_
        refine x_aload_n dX13_ends_245 rfl ?_
        refine g_M_bestHours fX13_48 dX13_ends_246 ?_
        refine x_iconst dX13_ends_249 li_1 ?_
        refine x_iald dX13_ends_250 rfl rfl (Nat.le_of_ble_eq_true rfl) (by first | exact Nat.le_of_ble_eq_true rfl | assumption | omega) ?_
        rw [hb95]
        refine x_icN_ge 258 dX13_ends_251 (by decide) (by omega) (by omega) (fun h251 => ?_) (fun h251 => ?_)
        · have he0 : pk V f so (W ++ [w]) 1 = pk V f so W 1 := by rw [pkw_app, if_neg (fun z => z.2.elim hp0 (fun y => by rw [if_neg (by omega)] at y; exact absurd (of_decide_eq_true y) (by omega)))]
          refine x_iconst dX13_ends_258 li_0 ?_
          refine x_cvv (m_takes (d := d + 3) (kd := 1) (mn := w.length) (hh := cum V w (w.length - 1)) (dd := dl V f so w w.length) (by omega) hw6 (by omega)) kX13_459 dX13_ends_259 rfl (Nat.le_of_ble_eq_true rfl) rfl rfl (Nat.le_of_ble_eq_true rfl) (fun Mu hq => ?_)
          obtain ⟨I2, rfl, t0, t1⟩ := hq
          first
            | (obtain rfl := t0 rfl
               have n1 := b1.no he0 rfl rfl rfl (fun _ _ => rfl) hL
               have n0 := b0
               have n2 := b2
               have hF2 := hF
               have hw2 := hw
               have h312 := h31
               have hG2 := hG
               refine x_ls ?_ (me3 (t := t) hV hf hL hW65 hw1 hw6 hwq hw2 h312 hG2 hF2 n0 n1 n2)
               exact ⟨rfl, rfl, rfl, rfl, rfl, trivial⟩
              )
            | (obtain ⟨⟨a4, a5, a6, a3⟩, o1, o2, o3⟩ := t1 rfl
               have n1 : BA V f so (W ++ [w]) 1 I2 := BA.yes he1 a4 a5 a6 (fun i hi => by rw [a3 i hi]; exact hw i hi)
               have n0 := b0.sm (o1 0 (by decide)).1 (o1 0 (by decide)).2.1 (o1 0 (by decide)).2.2 (fun i hi => o2 _ (by omega)) hLw
               have n2 := b2.sm (o1 2 (by decide)).1 (o1 2 (by decide)).2.1 (o1 2 (by decide)).2.2 (fun i hi => o2 _ (by omega)) hL
               have hF2 := hF.tr (FE.tk o3)
               have hw2 : ∀ i, i < w.length → I2 92 0 i = nI (w.getD i 0) := fun i hi => by rw [o3 92 (by decide) (by decide) (by decide) (by decide)]; exact hw i hi
               have h312 : I2 13 0 31 = nI (W.length + 1) := by rw [o3 13 (by decide) (by decide) (by decide) (by decide)]; exact h31
               have hG2 : GD V f so (W ++ [w]) I2 := fun k hk p hp => by rw [o3 97 (by decide) (by decide) (by decide) (by decide)]; exact hG k hk p hp
               refine x_ls ?_ (me3 (t := t) hV hf hL hW65 hw1 hw6 hwq hw2 h312 hG2 hF2 n0 n1 n2)
               exact ⟨rfl, rfl, rfl, rfl, rfl, trivial⟩
              )
        · have he1 : pk V f so (W ++ [w]) 1 = W.length + 1 := by rw [pkw_app, if_pos ⟨Or.inl (by decide), Or.inr (by rw [if_neg (by omega)]; exact decide_eq_true (by omega))⟩]
          refine x_iconst dX13_ends_254 li_1 ?_
          refine x_goto 259 dX13_ends_255 (by decide) ?_
          refine x_cvv (m_takes (d := d + 3) (kd := 1) (mn := w.length) (hh := cum V w (w.length - 1)) (dd := dl V f so w w.length) (by omega) hw6 (by omega)) kX13_459 dX13_ends_259 rfl (Nat.le_of_ble_eq_true rfl) rfl rfl (Nat.le_of_ble_eq_true rfl) (fun Mu hq => ?_)
          obtain ⟨I2, rfl, t0, t1⟩ := hq
          first
            | (obtain rfl := t0 rfl
               have n1 := b1.no he0 rfl rfl rfl (fun _ _ => rfl) hL
               have n0 := b0
               have n2 := b2
               have hF2 := hF
               have hw2 := hw
               have h312 := h31
               have hG2 := hG
               refine x_ls ?_ (me3 (t := t) hV hf hL hW65 hw1 hw6 hwq hw2 h312 hG2 hF2 n0 n1 n2)
               exact ⟨rfl, rfl, rfl, rfl, rfl, trivial⟩
              )
            | (obtain ⟨⟨a4, a5, a6, a3⟩, o1, o2, o3⟩ := t1 rfl
               have n1 : BA V f so (W ++ [w]) 1 I2 := BA.yes he1 a4 a5 a6 (fun i hi => by rw [a3 i hi]; exact hw i hi)
               have n0 := b0.sm (o1 0 (by decide)).1 (o1 0 (by decide)).2.1 (o1 0 (by decide)).2.2 (fun i hi => o2 _ (by omega)) hLw
               have n2 := b2.sm (o1 2 (by decide)).1 (o1 2 (by decide)).2.1 (o1 2 (by decide)).2.2 (fun i hi => o2 _ (by omega)) hL
               have hF2 := hF.tr (FE.tk o3)
               have hw2 : ∀ i, i < w.length → I2 92 0 i = nI (w.getD i 0) := fun i hi => by rw [o3 92 (by decide) (by decide) (by decide) (by decide)]; exact hw i hi
               have h312 : I2 13 0 31 = nI (W.length + 1) := by rw [o3 13 (by decide) (by decide) (by decide) (by decide)]; exact h31
               have hG2 : GD V f so (W ++ [w]) I2 := fun k hk p hp => by rw [o3 97 (by decide) (by decide) (by decide) (by decide)]; exact hG k hk p hp
               refine x_ls ?_ (me3 (t := t) hV hf hL hW65 hw1 hw6 hwq hw2 h312 hG2 hF2 n0 n1 n2)
               exact ⟨rfl, rfl, rfl, rfl, rfl, trivial⟩
              )
set_option maxRecDepth 100000 in
set_option maxHeartbeats 600000 in
theorem me1 (hV : VW V) (hf : ∀ s, s < 6 → f s ≤ 198) (hL : WL V W) (hW65 : W.length < 65) (hw1 : 1 ≤ w.length) (hw6 : w.length ≤ 6) (hwq : ∀ q ∈ w, q < V 0 4 0) {t : Nat} {I1 : Nat → Nat → Nat → Int32} (hw : ∀ i, i < w.length → I1 92 0 i = nI (w.getD i 0)) (h31 : I1 13 0 31 = nI (W.length + 1)) (hG : GD V f so (W ++ [w]) I1) (hF : FE I I1) (b0 : BA V f so W 0 I1) (b1 : BA V f so W 1 I1) (b2 : BA V f so W 2 I1) : X G vX13_ends (d + 4) (0, 0) 174 [(0, some (.ref (ad 13 0))), (1, some (.int (nI (t)))), (2, some (.int (nI (w.length)))), (3, some (.int (nI (cum V w (w.length - 1))))), (4, some (.int (nI (dl V f so w w.length))))] [] (MM ad nb b r I1 L) (xT G (qV (fun M' => ∃ I', M' = MM ad nb b r I' L ∧ WR V f so (W ++ [w]) I' ∧ FE I I'))) := by
  have hcl := cum_le (w := w) hV (w.length - 1)
  have hdl := dl_le (V := V) (sort := so) (w := w) hV hf w.length
  have hLw : WL V (W ++ [w]) := fun q hq => by
    rcases List.mem_append.mp hq with h | h
    · exact hL q h
    · rw [List.mem_singleton.mp h]; exact ⟨hw1, hw6, hwq⟩
  have hb6 := bsz_6 (V := V) (f := f) (so := so) (kd := 0) hL
  have hb0 := bsz_0 (V := V) (f := f) (so := so) (kd := 0) hL
  have hpl := pkw_le (V := V) (f := f) (so := so) (W := W) (kd := 0)
  refine x_aload_n dX13_ends_174 rfl ?_
  refine x_iconst dX13_ends_175 li_0 ?_
  refine x_iload_n dX13_ends_176 rfl ?_
  refine x_iload_n dX13_ends_177 rfl ?_
  refine x_iload dX13_ends_178 rfl ?_
  refine x_aload_n dX13_ends_180 rfl ?_
  refine g_M_bestSize fX13_45 dX13_ends_181 ?_
  refine x_iconst dX13_ends_184 li_0 ?_
  refine x_iald dX13_ends_185 rfl rfl (Nat.le_of_ble_eq_true rfl) (by first | exact Nat.le_of_ble_eq_true rfl | assumption | omega) ?_
  rw [b0.1]
  refine x_ifN_eq 199 dX13_ends_186 (by decide) (by omega) (fun h186 => ?_) (fun h186 => ?_)
  · have he1 : pk V f so (W ++ [w]) 0 = W.length + 1 := by rw [pkw_app, if_pos ⟨Or.inl (by decide), Or.inl (hb0.mp (by omega))⟩]
    refine x_iconst dX13_ends_199 li_1 ?_
    refine x_goto 204 dX13_ends_200 (by decide) ?_
    refine x_cvv (m_takes (d := d + 3) (kd := 0) (mn := w.length) (hh := cum V w (w.length - 1)) (dd := dl V f so w w.length) (by omega) hw6 (by omega)) kX13_459 dX13_ends_204 rfl (Nat.le_of_ble_eq_true rfl) rfl rfl (Nat.le_of_ble_eq_true rfl) (fun Mu hq => ?_)
    obtain ⟨I2, rfl, t0, t1⟩ := hq
    first
      | (obtain rfl := t0 rfl
         have n0 := b0.no he0 rfl rfl rfl (fun _ _ => rfl) hL
         have n1 := b1
         have n2 := b2
         have hF2 := hF
         have hw2 := hw
         have h312 := h31
         have hG2 := hG
         refine x_ls ?_ (me2 (t := t) hV hf hL hW65 hw1 hw6 hwq hw2 h312 hG2 hF2 n0 n1 n2)
         exact ⟨rfl, rfl, rfl, rfl, rfl, trivial⟩
        )
      | (obtain ⟨⟨a4, a5, a6, a3⟩, o1, o2, o3⟩ := t1 rfl
         have n0 : BA V f so (W ++ [w]) 0 I2 := BA.yes he1 a4 a5 a6 (fun i hi => by rw [a3 i hi]; exact hw i hi)
         have n1 := b1.sm (o1 1 (by decide)).1 (o1 1 (by decide)).2.1 (o1 1 (by decide)).2.2 (fun i hi => o2 _ (by omega)) hL
         have n2 := b2.sm (o1 2 (by decide)).1 (o1 2 (by decide)).2.1 (o1 2 (by decide)).2.2 (fun i hi => o2 _ (by omega)) hL
         have hF2 := hF.tr (FE.tk o3)
         have hw2 : ∀ i, i < w.length → I2 92 0 i = nI (w.getD i 0) := fun i hi => by rw [o3 92 (by decide) (by decide) (by decide) (by decide)]; exact hw i hi
         have h312 : I2 13 0 31 = nI (W.length + 1) := by rw [o3 13 (by decide) (by decide) (by decide) (by decide)]; exact h31
         have hG2 : GD V f so (W ++ [w]) I2 := fun k hk p hp => by rw [o3 97 (by decide) (by decide) (by decide) (by decide)]; exact hG k hk p hp
         refine x_ls ?_ (me2 (t := t) hV hf hL hW65 hw1 hw6 hwq hw2 h312 hG2 hF2 n0 n1 n2)
         exact ⟨rfl, rfl, rfl, rfl, rfl, trivial⟩
        )
  · have hp0 : pk V f so W 0 ≠ 0 := fun z => by have := hb0.mpr z; omega
    have hb95 := (b0.2 hp0).1
    have hb96 := (b0.2 hp0).2.1
    have hwl := hWd_le hV hL (k := pk V f so W 0 - 1) (by omega)
    have dwl := dW_le (so := so) hV hf hL (k := pk V f so W 0 - 1) (by omega)
    refine x_iload_n dX13_ends_189 rfl ?_
    refine x_aload_n dX13_ends_190 rfl ?_
    refine g_M_bestHours fX13_48 dX13_ends_191 ?_
    refine x_iconst dX13_ends_194 li_0 ?_
    refine x_iald dX13_ends_195 rfl rfl (Nat.le_of_ble_eq_true rfl) (by first | exact Nat.le_of_ble_eq_true rfl | assumption | omega) ?_
    rw [hb95]
    refine x_icN_ge 203 dX13_ends_196 (by decide) (by omega) (by omega) (fun h196 => ?_) (fun h196 => ?_)
    · have he0 : pk V f so (W ++ [w]) 0 = pk V f so W 0 := by rw [pkw_app, if_neg (fun z => z.2.elim hp0 (fun y => by rw [if_neg (by omega)] at y; exact absurd (of_decide_eq_true y) (by omega)))]
      refine x_iconst dX13_ends_203 li_0 ?_
      refine x_cvv (m_takes (d := d + 3) (kd := 0) (mn := w.length) (hh := cum V w (w.length - 1)) (dd := dl V f so w w.length) (by omega) hw6 (by omega)) kX13_459 dX13_ends_204 rfl (Nat.le_of_ble_eq_true rfl) rfl rfl (Nat.le_of_ble_eq_true rfl) (fun Mu hq => ?_)
      obtain ⟨I2, rfl, t0, t1⟩ := hq
      first
        | (obtain rfl := t0 rfl
           have n0 := b0.no he0 rfl rfl rfl (fun _ _ => rfl) hL
           have n1 := b1
           have n2 := b2
           have hF2 := hF
           have hw2 := hw
           have h312 := h31
           have hG2 := hG
           refine x_ls ?_ (me2 (t := t) hV hf hL hW65 hw1 hw6 hwq hw2 h312 hG2 hF2 n0 n1 n2)
           exact ⟨rfl, rfl, rfl, rfl, rfl, trivial⟩
          )
        | (obtain ⟨⟨a4, a5, a6, a3⟩, o1, o2, o3⟩ := t1 rfl
           have n0 : BA V f so (W ++ [w]) 0 I2 := BA.yes he1 a4 a5 a6 (fun i hi => by rw [a3 i hi]; exact hw i hi)
           have n1 := b1.sm (o1 1 (by decide)).1 (o1 1 (by decide)).2.1 (o1 1 (by decide)).2.2 (fun i hi => o2 _ (by omega)) hL
           have n2 := b2.sm (o1 2 (by decide)).1 (o1 2 (by decide)).2.1 (o1 2 (by decide)).2.2 (fun i hi => o2 _ (by omega)) hL
           have hF2 := hF.tr (FE.tk o3)
           have hw2 : ∀ i, i < w.length → I2 92 0 i = nI (w.getD i 0) := fun i hi => by rw [o3 92 (by decide) (by decide) (by decide) (by decide)]; exact hw i hi
           have h312 : I2 13 0 31 = nI (W.length + 1) := by rw [o3 13 (by decide) (by decide) (by decide) (by decide)]; exact h31
           have hG2 : GD V f so (W ++ [w]) I2 := fun k hk p hp => by rw [o3 97 (by decide) (by decide) (by decide) (by decide)]; exact hG k hk p hp
           refine x_ls ?_ (me2 (t := t) hV hf hL hW65 hw1 hw6 hwq hw2 h312 hG2 hF2 n0 n1 n2)
           exact ⟨rfl, rfl, rfl, rfl, rfl, trivial⟩
          )
    · have he1 : pk V f so (W ++ [w]) 0 = W.length + 1 := by rw [pkw_app, if_pos ⟨Or.inl (by decide), Or.inr (by rw [if_neg (by omega)]; exact decide_eq_true (by omega))⟩]
      refine x_iconst dX13_ends_199 li_1 ?_
      refine x_goto 204 dX13_ends_200 (by decide) ?_
      refine x_cvv (m_takes (d := d + 3) (kd := 0) (mn := w.length) (hh := cum V w (w.length - 1)) (dd := dl V f so w w.length) (by omega) hw6 (by omega)) kX13_459 dX13_ends_204 rfl (Nat.le_of_ble_eq_true rfl) rfl rfl (Nat.le_of_ble_eq_true rfl) (fun Mu hq => ?_)
      obtain ⟨I2, rfl, t0, t1⟩ := hq
      first
        | (obtain rfl := t0 rfl
           have n0 := b0.no he0 rfl rfl rfl (fun _ _ => rfl) hL
           have n1 := b1
           have n2 := b2
           have hF2 := hF
           have hw2 := hw
           have h312 := h31
           have hG2 := hG
           refine x_ls ?_ (me2 (t := t) hV hf hL hW65 hw1 hw6 hwq hw2 h312 hG2 hF2 n0 n1 n2)
           exact ⟨rfl, rfl, rfl, rfl, rfl, trivial⟩
          )
        | (obtain ⟨⟨a4, a5, a6, a3⟩, o1, o2, o3⟩ := t1 rfl
           have n0 : BA V f so (W ++ [w]) 0 I2 := BA.yes he1 a4 a5 a6 (fun i hi => by rw [a3 i hi]; exact hw i hi)
           have n1 := b1.sm (o1 1 (by decide)).1 (o1 1 (by decide)).2.1 (o1 1 (by decide)).2.2 (fun i hi => o2 _ (by omega)) hL
           have n2 := b2.sm (o1 2 (by decide)).1 (o1 2 (by decide)).2.1 (o1 2 (by decide)).2.2 (fun i hi => o2 _ (by omega)) hL
           have hF2 := hF.tr (FE.tk o3)
           have hw2 : ∀ i, i < w.length → I2 92 0 i = nI (w.getD i 0) := fun i hi => by rw [o3 92 (by decide) (by decide) (by decide) (by decide)]; exact hw i hi
           have h312 : I2 13 0 31 = nI (W.length + 1) := by rw [o3 13 (by decide) (by decide) (by decide) (by decide)]; exact h31
           have hG2 : GD V f so (W ++ [w]) I2 := fun k hk p hp => by rw [o3 97 (by decide) (by decide) (by decide) (by decide)]; exact hG k hk p hp
           refine x_ls ?_ (me2 (t := t) hV hf hL hW65 hw1 hw6 hwq hw2 h312 hG2 hF2 n0 n1 n2)
           exact ⟨rfl, rfl, rfl, rfl, rfl, trivial⟩
          )
set_option maxRecDepth 100000 in
set_option maxHeartbeats 600000 in
theorem lp_mend (hV : VW V) {bi : Nat} (hb : b = some bi) (hbn : bi < nb) {N : sN} (hW : NW V N) {t : Nat} (ht : t < V 0 7 0) (hL : WL V W) (hW65 : W.length < 65) (hw1 : 1 ≤ w.length) (hw6 : w.length ≤ 6) (hwq : ∀ q ∈ w, q < V 0 4 0)  : ∀ (n : Nat) (j : Nat) (I1 Iq : Nat → Nat → Nat → Int32), w.length - j < n → j + 1 ≤ w.length → YB V bi I1 → (∀ p, p < V 0 4 0 → I1 89 0 p = nO (-2) (V 6 p 0)) → (∀ i, i < w.length → I1 92 0 i = nI (w.getD i 0)) → I1 13 0 31 = nI W.length → (∀ q, q < 6 * W.length → I1 97 0 q = Iq 97 0 q) → GD V (ON N t) (V 9 t 0) W Iq → (∀ p, p < 6 → I1 97 0 (6 * W.length + p) = nI (gpl V (ON N t) (V 9 t 0) w (j + 1) p)) → BA V (ON N t) (V 9 t 0) W 0 I1 → BA V (ON N t) (V 9 t 0) W 1 I1 → BA V (ON N t) (V 9 t 0) W 2 I1 → FE I I1 → (∀ s, s < V 0 2 0 → I1 88 0 s = nI (xf V (ON N t) (cum V w j) s)) → X G vX13_ends (d + 4) (0, 0) 45 [(0, some (.ref (ad 13 0))), (1, some (.int (nI (t)))), (2, some (.int (nI (w.length)))), (3, some (.int (nI (cum V w j)))), (4, some (.int (nI (dl V (ON N t) (V 9 t 0) w (j + 1))))), (5, some (.int (nI (j + 1))))] [] (MM ad nb b r I1 L) (xT G (qV (fun M' => ∃ I', M' = MM ad nb b r I' L ∧ WR V (ON N t) (V 9 t 0) (W ++ [w]) I' ∧ FE I I'))) := by
  have v0 := hV.1
  have v1 := hV.2.1
  have v2 := hV.2.2.1
  have v3 := hV.2.2.2.1
  have v4 := hV.2.2.2.2.1
  have v7 := hV.2.2.2.2.2.2.2.1
  have v9 := hV.2.2.2.2.2.2.2.2.2.1
  have v10 := hV.2.2.2.2.2.2.2.2.2.2.1
  intro n
  induction n with
  | zero => intro j I1 Iq h0; omega
  | succ n ih =>
    intro j I1 Iq hn hj hB hp hw h31 hG hGq hR b0 b1 b2 hF hx
    have hg : ∀ i, i < V 0 2 0 → xf V (ON N t) (cum V w j) i ≤ 198 := fun i hi => xf_le ((hW t ht).2 i (by omega))
    refine x_iload dX13_ends_45 rfl ?_
    refine x_iload_n dX13_ends_47 rfl ?_
    refine x_icN_ge 164 dX13_ends_48 (by decide) (by omega) (by omega) (fun h48 => ?_) (fun h48 => ?_)
    · refine x_aload_n dX13_ends_164 rfl ?_
      refine x_dup dX13_ends_165 rfl ?_
      refine g_M_ways fX13_450 dX13_ends_166 ?_
      rw [h31]
      refine x_iconst dX13_ends_169 li_1 ?_
      refine x_iaddN dX13_ends_170 ?_
      refine p_M_ways fX13_450 dX13_ends_171 ?_
      have ej : j = w.length - 1 := by omega
      subst ej
      rw [show w.length - 1 + 1 = w.length by omega] at hR ⊢
      refine x_ls ?_ (me1 (t := t) (f := (ON N t)) (so := (V 9 t 0)) (W := W) (w := w) hV (fun s hs => (hW t ht).2 s hs) hL hW65 hw1 hw6 hwq (fun i hi => by rw [xu_ns (by decide)]; exact hw i hi) xu_s (hGq.app (fun q hq => by rw [xu_ns (by decide)]; exact hG q hq) (fun p hp6 => by rw [xu_ns (by decide)]; exact hR p hp6)) (hF.tr ⟨fun s _ _ h13 => by funext x y; rw [xu_ns h13], fun k hk => by rw [xu_nk hk]⟩) (b0.sm ?_ ?_ ?_ ?_ hL) (b1.sm ?_ ?_ ?_ ?_ hL) (b2.sm ?_ ?_ ?_ ?_ hL))
      · exact ⟨rfl, rfl, rfl, rfl, rfl, trivial⟩
      · rw [xu_ns (by decide)]
      · rw [xu_ns (by decide)]
      · rw [xu_ns (by decide)]
      · intro i _; rw [xu_ns (by decide)]
      · rw [xu_ns (by decide)]
      · rw [xu_ns (by decide)]
      · rw [xu_ns (by decide)]
      · intro i _; rw [xu_ns (by decide)]
      · rw [xu_ns (by decide)]
      · rw [xu_ns (by decide)]
      · rw [xu_ns (by decide)]
      · intro i _; rw [xu_ns (by decide)]
    · have hj2 : j + 1 < w.length := h48
      have hq0 := getD_lt hwq (show j < w.length by omega)
      have hq1 := getD_lt hwq hj2
      have h7 := hV.2.2.2.2.2.2.2.2.2.2.2.2.2.2.2.2.1 (w.getD j 0) (w.getD (j + 1) 0)
      refine x_aload_n dX13_ends_51 rfl ?_
      refine g_M_border hb fX13_397 dX13_ends_52 ?_
      refine g_MB_hours fX13_334 dX13_ends_55 hbn ?_
      refine x_bipush dX13_ends_58 lb_6 ?_
      refine x_aload_n dX13_ends_60 rfl ?_
      refine g_M_way fX13_39 dX13_ends_61 ?_
      refine x_iload dX13_ends_64 rfl ?_
      refine x_iconst dX13_ends_66 li_1 ?_
      refine x_isubN dX13_ends_67 (by omega) ?_
      refine x_iald dX13_ends_68 rfl rfl (Nat.le_of_ble_eq_true rfl) (by first | exact Nat.le_of_ble_eq_true rfl | assumption | omega) ?_
      rw [show I1 92 0 (j + 1 - 1) = nI (w.getD j 0) from hw j (by omega)]
      refine x_imulN dX13_ends_69 ?_
      refine x_aload_n dX13_ends_70 rfl ?_
      refine g_M_way fX13_39 dX13_ends_71 ?_
      refine x_iload dX13_ends_74 rfl ?_
      refine x_iald dX13_ends_76 rfl rfl (Nat.le_of_ble_eq_true rfl) (by first | exact Nat.le_of_ble_eq_true rfl | assumption | omega) ?_
      rw [hw (j + 1) hj2]
      refine x_iaddN dX13_ends_77 ?_
      refine x_iald dX13_ends_78 rfl rfl hbn (by first | exact Nat.le_of_ble_eq_true rfl | assumption | omega) ?_
      refine x_top (y70 hB (by first | assumption | omega) (by first | assumption | omega)) ?_
      refine x_istore dX13_ends_79 (by decide) rfl ?_
      refine x_iload_n dX13_ends_81 rfl ?_
      refine x_iload dX13_ends_82 rfl ?_
      refine x_iaddN dX13_ends_84 ?_
      refine x_istore_n dX13_ends_85 (by decide) rfl ?_
      refine x_aload_n dX13_ends_86 rfl ?_
      refine x_iload dX13_ends_87 rfl ?_
      refine x_cvv (m_fades (d := d + 2) hV hb hbn hB (by omega) hx hg) kX13_431 dX13_ends_89 rfl (Nat.le_of_ble_eq_true rfl) rfl rfl (Nat.le_of_ble_eq_true rfl) (fun Mu hq => ?_)
      obtain ⟨I2, rfl, f1, f2, f3⟩ := hq
      have hB2 := hB.sm (I' := I2) (fun q hq => f3 q (by omega))
      have hx2 : ∀ s, s < V 0 2 0 → I2 88 0 s = nI (xf V (ON N t) (cum V w (j + 1)) s) := fun s hs => by rw [f1 s hs, xf_add]; rfl
      have hg2 : ∀ i, i < V 0 2 0 → xf V (ON N t) (cum V w (j + 1)) i ≤ 198 := fun i hi => xf_le ((hW t ht).2 i (by omega))
      refine x_iload dX13_ends_92 rfl ?_
      refine x_aload_n dX13_ends_94 rfl ?_
      refine x_iload_n dX13_ends_95 rfl ?_
      refine x_aload_n dX13_ends_96 rfl ?_
      refine g_M_way fX13_39 dX13_ends_97 ?_
      refine x_iload dX13_ends_100 rfl ?_
      refine x_iald dX13_ends_102 rfl rfl (Nat.le_of_ble_eq_true rfl) (by first | exact Nat.le_of_ble_eq_true rfl | assumption | omega) ?_
      rw [f3 92 (by decide), hw (j + 1) hj2]
      refine x_cvi (m_dutyAt (d := d) hV hb hbn hB2 hx2 hg2 (nz := fun p => V 6 p 0) (fun p hp4 => by rw [f3 89 (by decide)]; exact hp p hp4) (fun p hp => (hV.2.2.2.2.2.2.2.2.2.2.2.2.2.2.2.1 p hp).2) ht hq1) kX13_442 dX13_ends_103 rfl (Nat.le_of_ble_eq_true rfl) rfl rfl (Nat.le_of_ble_eq_true rfl) (fun ru Mu hq => ?_)
      obtain ⟨rfl, rfl⟩ := hq
      refine x_iaddN dX13_ends_106 ?_
      refine x_istore dX13_ends_107 (by decide) rfl ?_
      refine x_aload_n dX13_ends_109 rfl ?_
      refine g_M_gameDuty fX13_54 dX13_ends_110 ?_
      refine x_bipush dX13_ends_113 lb_6 ?_
      refine x_aload_n dX13_ends_115 rfl ?_
      refine g_M_ways fX13_450 dX13_ends_116 ?_
      rw [f3 13 (by decide), h31]
      refine x_imulN dX13_ends_119 ?_
      refine x_aload_n dX13_ends_120 rfl ?_
      refine g_M_way fX13_39 dX13_ends_121 ?_
      refine x_iload dX13_ends_124 rfl ?_
      refine x_iald dX13_ends_126 rfl rfl (Nat.le_of_ble_eq_true rfl) (by first | exact Nat.le_of_ble_eq_true rfl | assumption | omega) ?_
      rw [f3 92 (by decide), hw (j + 1) hj2]
      refine x_iaddN dX13_ends_127 ?_
      refine x_aload_n dX13_ends_128 rfl ?_
      refine x_aload_n dX13_ends_129 rfl ?_
      refine g_M_border hb fX13_397 dX13_ends_130 ?_
      refine g_MB_sortOf fX13_358 dX13_ends_133 hbn ?_
      refine x_iload_n dX13_ends_136 rfl ?_
      refine x_iald dX13_ends_137 rfl rfl hbn (by first | exact Nat.le_of_ble_eq_true rfl | assumption | omega) ?_
      refine x_top (y72 hB2 ht) ?_
      refine x_aload_n dX13_ends_138 rfl ?_
      refine g_M_border hb fX13_397 dX13_ends_139 ?_
      refine g_MB_landOf fX13_325 dX13_ends_142 hbn ?_
      refine x_aload_n dX13_ends_145 rfl ?_
      refine g_M_way fX13_39 dX13_ends_146 ?_
      refine x_iload dX13_ends_149 rfl ?_
      refine x_iald dX13_ends_151 rfl rfl (Nat.le_of_ble_eq_true rfl) (by first | exact Nat.le_of_ble_eq_true rfl | assumption | omega) ?_
      rw [f3 92 (by decide), hw (j + 1) hj2]
      refine x_iald dX13_ends_152 rfl rfl hbn (by first | exact Nat.le_of_ble_eq_true rfl | assumption | omega) ?_
      refine x_top (y68 hB2 hq1) ?_
      refine x_iconst dX13_ends_153 li_1 ?_
      refine x_cvi (m_dutyBy (d := d + 1) hV hb hbn hB2 hx2 hg2 (p := w.getD (j + 1) 0) (hV.2.2.2.2.2.2.2.2.2.2.2.2.2.2.2.2.2.2.1 t ht).1 (hV.2.2.2.2.2.2.2.2.2.2.2.2.2.2.2.1 _ hq1).1 (by omega)) kX13_415 dX13_ends_154 rfl (Nat.le_of_ble_eq_true rfl) rfl rfl (Nat.le_of_ble_eq_true rfl) (fun ru Mu hq => ?_)
      obtain ⟨rfl, rfl⟩ := hq
      refine x_iast dX13_ends_157 rfl rfl (Nat.le_of_ble_eq_true rfl) (by first | exact Nat.le_of_ble_eq_true rfl | assumption | omega) ?_
      refine x_iincN 1 dX13_ends_158 li_1 rfl (by decide) rfl ?_
      refine x_goto 45 dX13_ends_161 (by decide) ?_
      refine x_ls ?_ (ih (j + 1) _ Iq (by omega) (by omega) (hB2.sm (fun q hq => by funext x y; rw [xu_ns (by omega)])) (fun p hp4 => by rw [xu_ns (by decide), f3 89 (by decide)]; exact hp p hp4) (fun i hi => by rw [xu_ns (by decide), f3 92 (by decide)]; exact hw i hi) (by rw [xu_ns (by decide), f3 13 (by decide)]; exact h31) (fun q hq => by rw [xu_nk (by omega), f3 97 (by decide)]; exact hG q hq) hGq (fun p hp6 => ?_) (b0.sm ?_ ?_ ?_ ?_ hL) (b1.sm ?_ ?_ ?_ ?_ hL) (b2.sm ?_ ?_ ?_ ?_ hL) ?_ ?_)
      · refine ⟨rfl, rfl, rfl, rfl, ?_, rfl, trivial⟩
        rw [dl_s (show j + 1 ≠ 0 by omega)]
        rfl
      · rw [xu_at, f3 97 (by decide)]
        show _ = nI (if j + 1 ≠ 0 ∧ p = w.getD (j + 1) 0 then _ else _)
        by_cases e0 : p = w.getD (j + 1) 0
        · rw [if_pos (by omega), if_pos ⟨by omega, e0⟩]; rfl
        · rw [if_neg (by omega), if_neg (fun z => e0 z.2)]; exact hR p hp6
      · rw [xu_ns (by decide), f3 94 (by decide)]
      · rw [xu_ns (by decide), f3 95 (by decide)]
      · rw [xu_ns (by decide), f3 96 (by decide)]
      · intro i _; rw [xu_ns (by decide), f3 93 (by decide)]
      · rw [xu_ns (by decide), f3 94 (by decide)]
      · rw [xu_ns (by decide), f3 95 (by decide)]
      · rw [xu_ns (by decide), f3 96 (by decide)]
      · intro i _; rw [xu_ns (by decide), f3 93 (by decide)]
      · rw [xu_ns (by decide), f3 94 (by decide)]
      · rw [xu_ns (by decide), f3 95 (by decide)]
      · rw [xu_ns (by decide), f3 96 (by decide)]
      · intro i _; rw [xu_ns (by decide), f3 93 (by decide)]
      · exact (hF.tr (FE.of f3 (Or.inl rfl))).tr (FE.of (s0 := 97) (fun q hq => by funext x y; rw [xu_ns hq]) (Or.inr (by omega)))
      · intro s hs; rw [xu_ns (by decide)]; exact hx2 s hs
set_option maxRecDepth 100000 in
set_option maxHeartbeats 600000 in
theorem lp_mend0 (hV : VW V) {bi : Nat} (hb : b = some bi) (hbn : bi < nb) {N : sN} (hW : NW V N) {t : Nat} (ht : t < V 0 7 0) (hL : WL V W) (hW65 : W.length < 65) (hw1 : 1 ≤ w.length) (hw6 : w.length ≤ 6) (hwq : ∀ q ∈ w, q < V 0 4 0)  : ∀ (n : Nat) (k : Nat) (I1 Iq : Nat → Nat → Nat → Int32), 6 - k < n → k ≤ 6 → YB V bi I1 → (∀ p, p < V 0 4 0 → I1 89 0 p = nO (-2) (V 6 p 0)) → (∀ i, i < w.length → I1 92 0 i = nI (w.getD i 0)) → I1 13 0 31 = nI W.length → (∀ q, q < 6 * W.length → I1 97 0 q = Iq 97 0 q) → GD V (ON N t) (V 9 t 0) W Iq → (∀ p, p < k → I1 97 0 (6 * W.length + p) = nI 0) → BA V (ON N t) (V 9 t 0) W 0 I1 → BA V (ON N t) (V 9 t 0) W 1 I1 → BA V (ON N t) (V 9 t 0) W 2 I1 → FE I I1 → (∀ s, s < V 0 2 0 → I1 88 0 s = nI (xf V (ON N t) 0 s)) → X G vX13_ends (d + 4) (0, 0) 13 [(0, some (.ref (ad 13 0))), (1, some (.int (nI (t)))), (2, some (.int (nI (w.length)))), (3, some (.int (nI (0)))), (4, some (.int (nI (0)))), (5, some (.int (nI (k))))] [] (MM ad nb b r I1 L) (xT G (qV (fun M' => ∃ I', M' = MM ad nb b r I' L ∧ WR V (ON N t) (V 9 t 0) (W ++ [w]) I' ∧ FE I I'))) := by
  have v0 := hV.1
  have v1 := hV.2.1
  have v2 := hV.2.2.1
  have v3 := hV.2.2.2.1
  have v4 := hV.2.2.2.2.1
  have v7 := hV.2.2.2.2.2.2.2.1
  have v9 := hV.2.2.2.2.2.2.2.2.2.1
  have v10 := hV.2.2.2.2.2.2.2.2.2.2.1
  intro n
  induction n with
  | zero => intro k I1 Iq h0; omega
  | succ n ih =>
    intro k I1 Iq hn hk hB hp hw h31 hG hGq hR b0 b1 b2 hF hx
    refine x_iload dX13_ends_13 rfl ?_
    refine x_bipush dX13_ends_15 lb_6 ?_
    refine x_icN_ge 42 dX13_ends_17 (by decide) (by omega) (by omega) (fun h17 => ?_) (fun h17 => ?_)
    · refine x_iconst dX13_ends_42 li_1 ?_
      refine x_istore dX13_ends_43 (by decide) rfl ?_
      refine x_ls ?_ (lp_mend hV hb hbn hW ht hL hW65 hw1 hw6 hwq (w.length + 1) 0 I1 Iq (by omega) hw1 hB hp hw h31 hG hGq (fun p hp6 => ?_) b0 b1 b2 hF hx)
      · exact ⟨rfl, rfl, rfl, rfl, rfl, rfl, trivial⟩
      · rw [hR p (by omega)]; rfl
    · refine x_aload_n dX13_ends_20 rfl ?_
      refine g_M_gameDuty fX13_54 dX13_ends_21 ?_
      refine x_bipush dX13_ends_24 lb_6 ?_
      refine x_aload_n dX13_ends_26 rfl ?_
      refine g_M_ways fX13_450 dX13_ends_27 ?_
      rw [h31]
      refine x_imulN dX13_ends_30 ?_
      refine x_iload dX13_ends_31 rfl ?_
      refine x_iaddN dX13_ends_33 ?_
      refine x_iconst dX13_ends_34 li_0 ?_
      refine x_iast dX13_ends_35 rfl rfl (Nat.le_of_ble_eq_true rfl) (by first | exact Nat.le_of_ble_eq_true rfl | assumption | omega) ?_
      refine x_iincN 1 dX13_ends_36 li_1 rfl (by decide) rfl ?_
      refine x_goto 13 dX13_ends_39 (by decide) ?_
      refine x_ls ?_ (ih (k + 1) _ Iq (by omega) (by omega) (hB.sm (fun q hq => by funext x y; rw [xu_ns (by omega)])) (fun p hp4 => by rw [xu_ns (by decide)]; exact hp p hp4) (fun i hi => by rw [xu_ns (by decide)]; exact hw i hi) (by rw [xu_ns (by decide)]; exact h31) (fun q hq => by rw [xu_nk (by omega)]; exact hG q hq) hGq (fun p hp6 => ?_) (b0.sm ?_ ?_ ?_ ?_ hL) (b1.sm ?_ ?_ ?_ ?_ hL) (b2.sm ?_ ?_ ?_ ?_ hL) ?_ ?_)
      · exact ⟨rfl, rfl, rfl, rfl, rfl, rfl, trivial⟩
      · rw [xu_at]
        by_cases e0 : p = k
        · rw [if_pos (by omega)]
        · rw [if_neg (by omega)]; exact hR p (by omega)
      · rw [xu_ns (by decide)]
      · rw [xu_ns (by decide)]
      · rw [xu_ns (by decide)]
      · intro i _; rw [xu_ns (by decide)]
      · rw [xu_ns (by decide)]
      · rw [xu_ns (by decide)]
      · rw [xu_ns (by decide)]
      · intro i _; rw [xu_ns (by decide)]
      · rw [xu_ns (by decide)]
      · rw [xu_ns (by decide)]
      · rw [xu_ns (by decide)]
      · intro i _; rw [xu_ns (by decide)]
      · exact hF.tr (FE.of (s0 := 97) (fun q hq => by funext x y; rw [xu_ns hq]) (Or.inr (by omega)))
      · intro s hs; rw [xu_ns (by decide)]; exact hx s hs
set_option maxRecDepth 100000 in
set_option maxHeartbeats 600000 in
theorem m_ends (hV : VW V) {bi : Nat} (hb : b = some bi) (hbn : bi < nb) {N : sN} (hW : NW V N) {t : Nat} (ht : t < V 0 7 0) (hL : WL V W) (hW65 : W.length < 65) (hw1 : 1 ≤ w.length) (hw6 : w.length ≤ 6) (hwq : ∀ q ∈ w, q < V 0 4 0) (hB : YB V bi I) (hN : YN V N I) (hp : ∀ p, p < V 0 4 0 → I 89 0 p = nO (-2) (V 6 p 0)) (hw : ∀ i, i < w.length → I 92 0 i = nI (w.getD i 0)) (hR : WR V (ON N t) (V 9 t 0) W I) : Mt G vX13_ends (d + 4) (0, 0) [.ref (ad 13 0), .int (nI (t)), .int (nI (w.length))] (MM ad nb b r I L) (qV (fun M' => ∃ I', M' = MM ad nb b r I' L ∧ WR V (ON N t) (V 9 t 0) (W ++ [w]) I' ∧ FE I I')) := by
  have v0 := hV.1
  have v1 := hV.2.1
  have v2 := hV.2.2.1
  have v3 := hV.2.2.2.1
  have v4 := hV.2.2.2.2.1
  have v7 := hV.2.2.2.2.2.2.2.1
  have v9 := hV.2.2.2.2.2.2.2.2.2.1
  have v10 := hV.2.2.2.2.2.2.2.2.2.2.1
  refine x_start (by decide) (Nat.le_of_ble_eq_true rfl) ?_
  refine x_iconst dX13_ends_0 li_0 ?_
  refine x_istore_n dX13_ends_1 (by decide) rfl ?_
  refine x_iconst dX13_ends_2 li_0 ?_
  refine x_istore dX13_ends_3 (by decide) rfl ?_
  refine x_aload_n dX13_ends_5 rfl ?_
  refine x_iload_n dX13_ends_6 rfl ?_
  refine x_cvv (m_tries (d := d + 3) (t := t) (by omega)) kX13_428 dX13_ends_7 rfl (Nat.le_of_ble_eq_true rfl) rfl rfl (Nat.le_of_ble_eq_true rfl) (fun Mu hq => ?_)
  obtain ⟨I1, rfl, t1, t2⟩ := hq
  obtain ⟨h31, -, hG, b0, b1, b2⟩ := hR
  refine x_iconst dX13_ends_10 li_0 ?_
  refine x_istore dX13_ends_11 (by decide) rfl ?_
  refine x_ls ?_ (lp_mend0 hV hb hbn hW ht hL hW65 hw1 hw6 hwq 7 0 I1 I (by omega) (by omega) (hB.sm (fun q hq => t2 q (by omega))) (fun p hp4 => by rw [t2 89 (by decide)]; exact hp p hp4) (fun i hi => by rw [t2 92 (by decide)]; exact hw i hi) (by rw [t2 13 (by decide)]; exact h31) (fun q _ => by rw [t2 97 (by decide)]) hG (fun p h => absurd h (Nat.not_lt_zero p)) (b0.sm ?_ ?_ ?_ ?_ hL) (b1.sm ?_ ?_ ?_ ?_ hL) (b2.sm ?_ ?_ ?_ ?_ hL) (FE.of t2 (Or.inl rfl)) (fun s hs => by rw [t1 s (by omega), xf_0]; exact (hN t ht).1 s (by omega)))
  · exact ⟨rfl, rfl, rfl, rfl, rfl, rfl, trivial⟩
  · rw [t2 94 (by decide)]
  · rw [t2 95 (by decide)]
  · rw [t2 96 (by decide)]
  · intro i _; rw [t2 93 (by decide)]
  · rw [t2 94 (by decide)]
  · rw [t2 95 (by decide)]
  · rw [t2 96 (by decide)]
  · intro i _; rw [t2 93 (by decide)]
  · rw [t2 94 (by decide)]
  · rw [t2 95 (by decide)]
  · rw [t2 96 (by decide)]
  · intro i _; rw [t2 93 (by decide)]
end M14
