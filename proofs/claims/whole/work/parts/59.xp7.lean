section Xp7
variable {G : xG} {ad : Nat → Nat → Nat} {nb : Nat} {b r : Option Nat} {L : Nat → Nat → Nat → Int64} {V : sV} {I : Nat → Nat → Nat → Int32} {d : Nat}

variable {N : sN} {h : sH} {mk : List sN}
theorem XB.sm0 {I' : Nat → Nat → Nat → Int32} (hX : XB V 0 I) (hs : ∀ a c, tb a c → I' a c = I a c) : XB V 0 I' := by
  have e : ∀ a, 16 ≤ a → a ≤ 29 → I' a 0 = I a 0 := fun a h1 h2 => hs a 0 (Or.inl ⟨h1, h2, rfl⟩)
  obtain ⟨x0, x1, x2, x3, x4, x5, x6, x7, x8, x9, x10, x11⟩ := hX
  refine ⟨?_, ?_, ?_, ?_, ?_, ?_, ?_, ?_, ?_, fun p q hp hq => ?_, fun t s ht hq => ?_, fun t i ht hi => ?_⟩
  · rw [e 16 (by decide) (by decide)]; exact x0
  · rw [e 17 (by decide) (by decide)]; exact x1
  · rw [e 18 (by decide) (by decide), e 19 (by decide) (by decide)]; exact x2
  · rw [e 20 (by decide) (by decide)]; exact x3
  · rw [e 21 (by decide) (by decide), e 22 (by decide) (by decide)]; exact x4
  · rw [e 23 (by decide) (by decide), e 24 (by decide) (by decide), e 25 (by decide) (by decide)]; exact x5
  · rw [e 26 (by decide) (by decide)]; exact x6
  · rw [e 27 (by decide) (by decide), e 28 (by decide) (by decide)]; exact x7
  · rw [e 29 (by decide) (by decide)]; exact x8
  · rw [hs 31 (p + 6 * 0) (Or.inr (Or.inl ⟨Or.inl rfl, by omega⟩)), hs 33 (p + 6 * 0) (Or.inr (Or.inl ⟨Or.inr rfl, by omega⟩))]; exact x9 p q hp hq
  · rw [hs 35 (t + 4 * 0) (Or.inr (Or.inr ⟨Or.inl rfl, by omega⟩))]; exact x10 t s ht hq
  · rw [hs 37 (t + 4 * 0) (Or.inr (Or.inr ⟨Or.inr rfl, by omega⟩))]; exact x11 t i ht hi
theorem XS.sm0 {I' : Nat → Nat → Nat → Int32} (hX : XS V N h mk I) (hs : ∀ a c, a = 0 ∨ a = 4 ∨ a = 42 ∨ a = 43 ∨ tb a c → I' a c = I a c) : XS V N h mk I' := by
  obtain ⟨h1, h2, h3, h4⟩ := hX
  have e0 : I' 0 = I 0 := funext fun c => hs 0 c (Or.inl rfl)
  have e4 : I' 4 = I 4 := funext fun c => hs 4 c (Or.inr (Or.inl rfl))
  have e42 : I' 42 = I 42 := funext fun c => hs 42 c (Or.inr (Or.inr (Or.inl rfl)))
  have e43 : I' 43 = I 43 := funext fun c => hs 43 c (Or.inr (Or.inr (Or.inr (Or.inl rfl))))
  refine ⟨h1.sm0 (fun a c hac => hs a c (Or.inr (Or.inr (Or.inr (Or.inr hac))))), ?_, ?_, ?_⟩
  · unfold XN PR at h2 ⊢; rw [e4, e43]; exact h2
  · unfold XH PR at h3 ⊢; rw [e0, e4, e42, e43]; exact h3
  · unfold XK PR at h4 ⊢; rw [e0, e4, e43]; exact h4
/-- the other side's part of the memory stands -/
def MF {α : Type} (I I' : Nat → Nat → Nat → α) : Prop := ∀ s, s = 12 ∨ s = 13 ∨ 64 ≤ s → I' s = I s
def qB (T : Nat → Nat) (n : Nat) (z : Int32) (V : sV) (N : sN) (h : sH) (mk : List sN) (ad : Nat → Nat → Nat) (nb : Nat) (b r : Option Nat) (I : Nat → Nat → Nat → Int32) (L : Nat → Nat → Nat → Int64) : Option Value → xM → Prop := qI (fun rr M' => ∃ I' L', M' = MM ad nb b r I' L' ∧ MF I I' ∧ MF L L' ∧
  if wth z 0 n = true then (match rdB T (zN z) with
    | .inl f => rr = -1 ∧ XS V N h mk I' ∧ I' 11 0 1 = nI 0 ∧ I' 11 0 12 = nI 4 ∧ I' 11 0 13 = nI f.1 ∧ I' 11 0 14 = nI f.2
    | .inr s => rr = nI (s.1 0 4 0) ∧ XS s.1 (N0 s.1) [] [] I' ∧ PC s ∧ 0 < s.1 0 0 0 ∧ I' 11 0 1 = nI 0 ∧ I' 11 0 12 = nI 0 ∧ I' 11 0 13 = nI 0)
  else rr = -1 ∧ I' = xu I 11 0 12 (nI 2) ∧ L' = L)
theorem wth_no {z : Int32} {n : Nat} (hq : z < 0 ∨ ¬ z ≤ nI n) : wth z 0 n = false := by
  refine decide_eq_false (fun k => ?_)
  rcases hq with hq | hq
  · exact k.1 hq
  · exact hq (Int32.not_lt.mp k.2)
theorem wth_yes {z : Int32} {n : Nat} (h1 : ¬ z < 0) (h2 : z ≤ nI n) : wth z 0 n = true := decide_eq_true ⟨h1, Int32.not_lt.mpr h2⟩
theorem db_tb {a c : Nat} (h : tb a c) : ¬ db a c := by unfold tb at h; unfold db; omega

set_option maxRecDepth 100000 in
set_option maxHeartbeats 4000000 in
theorem x_border_c (hS : SW V N h mk) (hX : XS V N h mk I) {T : Nat → Nat} {n : Nat} (hT : XT T n I) (hT2 : ∀ i, T i < 256) {z : Int32} : Mt G vX11_border (d + 9) (0, 0) [.ref (ad 11 0), .int (z)] (MM ad nb b r I L) (qB T n z V N h mk ad nb b r I L) := by
  refine x_start (by decide) (Nat.le_of_ble_eq_true rfl) ?_
  refine x_iload_n dX11_border_0 rfl ?_
  refine x_if_lt 12 dX11_border_1 (by decide) (fun h1 => ?_) (fun h1 => ?_)
  · refine x_aload_n dX11_border_12 rfl ?_
    refine x_iconst dX11_border_13 li_2 ?_
    refine x_cvi (c_refuse (d := d + 8) (y := 2)) kX11_102 dX11_border_14 rfl (Nat.le_of_ble_eq_true rfl) rfl rfl (Nat.le_of_ble_eq_true rfl) (fun ru Mu hq => ?_)
    obtain ⟨rfl, rfl⟩ := hq
    refine x_iret dX11_border_17 rfl ?_
    refine ⟨_, rfl, _, _, rfl, fun s hs => (by funext x y; rw [xu_ns (by omega)]), fun s _ => rfl, ?_⟩
    rw [if_neg (by first | (rw [wth_no (Or.inl h1)]; decide) | (rw [wth_no (Or.inr h9)]; decide))]
    exact ⟨rfl, rfl, rfl⟩
  · refine x_iload_n dX11_border_4 rfl ?_
    refine x_aload_n dX11_border_5 rfl ?_
    refine g_X_taped fX11_95 dX11_border_6 ?_
    rw [hT.1]
    refine x_ic_le 18 dX11_border_9 (by decide) (fun h9 => ?_) (fun h9 => ?_)
    · have hw : wth z 0 n = true := wth_yes h1 h9
      obtain ⟨e, -, he, rfl⟩ := wth_of hw (by omega) (by have := hT.2.1; omega)
      have hn := hT.2.1
      refine x_aload_n dX11_border_18 rfl ?_
      refine x_iconst dX11_border_19 li_0 ?_
      refine p_X_taped fX11_95 dX11_border_20 ?_
      refine x_aload_n dX11_border_23 rfl ?_
      refine g_X_teller fX11_25 dX11_border_24 ?_
      refine x_iload_n dX11_border_27 rfl ?_
      refine x_cvi (c_read (d := d) (T := T) (e := e) (by omega) (fun i hi => by rw [xu_ns (by decide)]; exact hT.2.2 i (by omega)) hT2) kX11_106 dX11_border_28 rfl (Nat.le_of_ble_eq_true rfl) rfl rfl (Nat.le_of_ble_eq_true rfl) (fun ru Mu hq => ?_)
      obtain ⟨rfl, I2, L2, rfl, p2, l2, e2, g2⟩ := hq
      refine x_istore_n dX11_border_31 (by decide) rfl ?_
      refine x_aload_n dX11_border_32 rfl ?_
      refine x_aload_n dX11_border_33 rfl ?_
      refine g_X_teller fX11_25 dX11_border_34 ?_
      refine g_Teller_fault fX11_110 dX11_border_37 ?_
      refine p_X_fault fX11_113 dX11_border_40 ?_
      refine x_aload_n dX11_border_43 rfl ?_
      refine x_aload_n dX11_border_44 rfl ?_
      refine g_X_teller fX11_25 dX11_border_45 ?_
      refine g_Teller_faultAt fX11_114 dX11_border_48 ?_
      refine p_X_faultAt fX11_91 dX11_border_51 ?_
      refine x_iload_n dX11_border_54 rfl ?_
      refine x_if_ne 64 dX11_border_55 (by decide) (fun h55 => ?_) (fun h55 => ?_)
      · obtain ⟨s, hs⟩ := lR_r h55
        obtain ⟨hB2, hPC, h00, g61, g62⟩ := g2 s hs
        refine x_aload_n dX11_border_64 rfl ?_
        refine g_X_told fX11_16 dX11_border_65 ?_
        refine x_aload_n dX11_border_68 rfl ?_
        refine g_X_teller fX11_25 dX11_border_69 ?_
        refine g_Teller_draft fX11_115 dX11_border_72 ?_
        refine x_cvv (c_bcopy (d := d + 5)) kX11_118 dX11_border_75 rfl (Nat.le_of_ble_eq_true rfl) rfl rfl (Nat.le_of_ble_eq_true rfl) (fun Mu hq => ?_)
        obtain ⟨I4, rfl, c1, c2⟩ := hq
        have hXB := c1 s.1 hPC.1.1 (hB2.sm (fun q q1 q2 => by funext x y; rw [xu_ns (by omega), xu_ns (by omega)]))
        obtain ⟨nx6, hn6, en6, -⟩ := hX.2.2.1
        refine x_aload_n dX11_border_78 rfl ?_
        refine g_X_acts fX11_41 dX11_border_79 ?_
        refine x_cvv (c_begin (d := d + 7) (V := s.1) hPC.1.1 hXB ⟨nx6, hn6, by rw [c2 0 0 (by unfold tb; omega), xu_ns (by decide), xu_ns (by decide), p2 0 0 (by unfold db; omega), xu_ns (by decide)]; exact en6⟩) kX11_121 dX11_border_82 rfl (Nat.le_of_ble_eq_true rfl) rfl rfl (Nat.le_of_ble_eq_true rfl) (fun Mu hq => ?_)
        obtain ⟨I5, rfl, n1, n2, n3, n4⟩ := hq
        have hXB5 := hXB.sm (fun q q1 q2 => by funext c; exact n4 q c (by omega))
        have e4 : I5 16 0 4 = nI (s.1 0 4 0) := hXB5.1 4 (by omega)
        refine x_aload_n dX11_border_85 rfl ?_
        refine x_aload_n dX11_border_86 rfl ?_
        refine g_X_told fX11_16 dX11_border_87 ?_
        refine g_Border_sizes fX11_124 dX11_border_90 (by first | exact Nat.le_of_ble_eq_true rfl | assumption | omega) ?_
        refine x_iconst dX11_border_93 li_4 ?_
        refine x_iald dX11_border_94 rfl rfl (Nat.lt_of_lt_of_le (by first | assumption | omega | decide) (Nat.le_refl 2)) (by first | exact Nat.le_of_ble_eq_true rfl | assumption | omega) ?_
        rw [e4]
        refine x_cvi (c_answer (d := d + 8)) kX11_127 dX11_border_95 rfl (Nat.le_of_ble_eq_true rfl) rfl rfl (Nat.le_of_ble_eq_true rfl) (fun ru Mu hq => ?_)
        obtain ⟨rfl, rfl⟩ := hq
        refine x_iret dX11_border_98 rfl ?_
        have fr : ∀ a c, a ≠ 11 → ¬ (a = 6 ∨ a = 7 ∨ a = 39 ∨ a = 40 ∨ db a c) → ¬ tb a c → ¬ (a = 0 ∨ ((a = 4 ∨ a = 43) ∧ c < 4)) → (xu I5 11 0 12 (nI 0)) a c = I a c := fun a c h11 h1 h2 h3 => by
          rw [show (xu I5 11 0 12 (nI 0)) a c = I5 a c by funext x; rw [xu_ns h11], n4 a c h3, c2 a c h2, show (xu (xu I2 11 0 13 (I2 6 0 1)) 11 0 14 ((xu I2 11 0 13 (I2 6 0 1)) 6 0 2)) a c = I2 a c by funext x; rw [xu_ns h11, xu_ns h11], p2 a c h1]
          funext x; rw [xu_ns h11]
        have e5 : ∀ k, k ≠ 12 → (xu I5 11 0 12 (nI 0)) 11 0 k = (xu (xu I2 11 0 13 (I2 6 0 1)) 11 0 14 ((xu I2 11 0 13 (I2 6 0 1)) 6 0 2)) 11 0 k := fun k hk => by rw [xu_nk hk, n4 11 0 (by omega), c2 11 0 (by unfold tb; omega)]
        refine ⟨_, rfl, _, _, rfl, fun s hs => (by funext c; exact fr s c (by omega) (by unfold db; omega) (by unfold tb; omega) (by omega)), fun s hs => l2 s (by omega) (by omega), ?_⟩
        rw [if_pos hw, zN_nI (by omega), show rdB T e = .inr s from hs]
        refine ⟨rfl, XS.t11 ⟨hXB5, n1, n2, n3⟩, hPC, h00, ?_, xu_s, ?_⟩
        · rw [e5 1 (by decide), xu_nk (by decide), xu_nk (by decide), p2 11 0 (by unfold db; omega), xu_s]
        · rw [e5 13 (by decide), xu_nk (by decide), xu_s]; exact g61
      · obtain ⟨f, hf⟩ := lR_l h55
        have e3 := e2 f hf
        refine x_aload_n dX11_border_58 rfl ?_
        refine x_iconst dX11_border_59 li_4 ?_
        refine x_cvi (c_refuse (d := d + 8) (y := 4)) kX11_102 dX11_border_60 rfl (Nat.le_of_ble_eq_true rfl) rfl rfl (Nat.le_of_ble_eq_true rfl) (fun ru Mu hq => ?_)
        obtain ⟨rfl, rfl⟩ := hq
        refine x_iret dX11_border_63 rfl ?_
        have fr : ∀ a c, a ≠ 11 → ¬ (a = 6 ∨ a = 7 ∨ a = 39 ∨ a = 40 ∨ db a c) → (xu (xu (xu I2 11 0 13 (I2 6 0 1)) 11 0 14 ((xu I2 11 0 13 (I2 6 0 1)) 6 0 2)) 11 0 12 (nI 4)) a c = I a c := fun a c h11 hac => by
          rw [show (xu (xu (xu I2 11 0 13 (I2 6 0 1)) 11 0 14 ((xu I2 11 0 13 (I2 6 0 1)) 6 0 2)) 11 0 12 (nI 4)) a c = I2 a c by funext x; rw [xu_ns h11, xu_ns h11, xu_ns h11], p2 a c hac]
          funext x; rw [xu_ns h11]
        refine ⟨_, rfl, _, _, rfl, fun s hs => (by funext c; exact fr s c (by omega) (by unfold db; omega)), fun s hs => l2 s (by omega) (by omega), ?_⟩
        rw [if_pos hw, zN_nI (by omega), show rdB T e = .inl f from hf]
        refine ⟨rfl, hX.sm0 (fun a c hac => fr a c (by unfold tb at hac; omega) (by unfold tb at hac; unfold db; omega)), ?_, xu_s, ?_, ?_⟩
        · rw [xu_nk (by decide), xu_nk (by decide), xu_nk (by decide), p2 11 0 (by unfold db; omega), xu_s]
        · rw [xu_nk (by decide), xu_nk (by decide), xu_s]; exact e3.1
        · rw [xu_nk (by decide), xu_s, xu_ns (by decide)]; exact e3.2
    · refine x_aload_n dX11_border_12 rfl ?_
      refine x_iconst dX11_border_13 li_2 ?_
      refine x_cvi (c_refuse (d := d + 8) (y := 2)) kX11_102 dX11_border_14 rfl (Nat.le_of_ble_eq_true rfl) rfl rfl (Nat.le_of_ble_eq_true rfl) (fun ru Mu hq => ?_)
      obtain ⟨rfl, rfl⟩ := hq
      refine x_iret dX11_border_17 rfl ?_
      refine ⟨_, rfl, _, _, rfl, fun s hs => (by funext x y; rw [xu_ns (by omega)]), fun s _ => rfl, ?_⟩
      rw [if_neg (by first | (rw [wth_no (Or.inl h1)]; decide) | (rw [wth_no (Or.inr h9)]; decide))]
      exact ⟨rfl, rfl, rfl⟩
end Xp7
