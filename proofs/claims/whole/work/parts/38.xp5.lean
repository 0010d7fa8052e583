section Xp5
variable {G : xG} {ad : Nat → Nat → Nat} {nb : Nat} {b r : Option Nat} {L : Nat → Nat → Nat → Int64} {V : sV} {I : Nat → Nat → Nat → Int32} {d : Nat}
variable {N : sN} {h : sH} {mk : List sN}

def upN (N : sN) (t : Nat) (f : Nat → Nat) : sN := fun u => if u = t then f else N u
theorem upN_s {t : Nat} {f : Nat → Nat} : upN N t f t = f := if_pos rfl
/-- hours pass -/
def pas (V : sV) (f : Nat → Nat) (H : Nat) : Nat → Nat := fun k => if k = 2 then f 2 + H else if 3 ≤ k ∧ k - 3 < V 0 2 0 then f k - fd (V 2 (k - 3) 0) * H else f k
def kp (N : sN) (h : sH) (t : Nat) : sH := ((t, N t) :: h).take 16
/-- but for scratch and what travellers are -/
def FY (I I' : Nat → Nat → Nat → Int32) : Prop := ∀ s, ¬ scr s → s ≠ 0 → s ≠ 4 → s ≠ 42 → s ≠ 43 → I' s = I s
def KY (I I' : Nat → Nat → Nat → Int32) (q : Nat) : Prop := (∀ s, ¬ scr s → s ≠ 11 → s ≠ 0 → s ≠ 4 → s ≠ 42 → s ≠ 43 → I' s = I s) ∧ I' 11 0 12 = nI q ∧ ∀ k, k ≠ 12 → I' 11 0 k = I 11 0 k
theorem KY.of {I' : Nat → Nat → Nat → Int32} {q : Nat} (hf : FY I I') : KY I (xu I' 11 0 12 (nI q)) q := by
  refine ⟨fun s h1 h2 h3 h4 h5 h6 => ?_, xu_s, fun k hk => ?_⟩
  · funext a c; rw [xu_ns h2, hf s h1 h3 h4 h5 h6]
  · rw [xu_nk hk, hf 11 (by unfold scr; omega) (by omega) (by omega) (by omega) (by omega)]
theorem XS.t11 {q : Int32} (hX : XS V N h mk I) : XS V N h mk (xu I 11 0 12 q) := hX.sm (fun s hs => by funext a c; rw [xu_ns (by omega)])
/-- the answer of an act -/
def qS (V : sV) (ad : Nat → Nat → Nat) (nb : Nat) (b r : Option Nat) (I : Nat → Nat → Nat → Int32) (L : Nat → Nat → Nat → Int64) (a : (Int32 × Nat) × sN × sH × List sN) : Option Value → xM → Prop := qI (fun rr M' => rr = a.1.1 ∧ ∃ I', M' = MM ad nb b r I' L ∧ XS V a.2.1 a.2.2.1 a.2.2.2 I' ∧ KY I I' a.1.2)
theorem qS_no {z : Int32} {c : Nat} {a : (Int32 × Nat) × sN × sH × List sN} (hX : XS V N h mk I) (e : a = ((z, c), N, h, mk)) : qS V ad nb b r I L a (some (.int z)) (MM ad nb b r (xu I 11 0 12 (nI c)) L) := by
  subst e
  exact ⟨_, rfl, rfl, _, rfl, hX.t11, KY.of (fun _ _ _ _ _ _ => rfl)⟩
theorem qS_ok {z : Int32} {c : Nat} {a : (Int32 × Nat) × sN × sH × List sN} {N' : sN} {h' : sH} {mk' : List sN} {I' : Nat → Nat → Nat → Int32} (hX : XS V N' h' mk' I') (hf : FY I I') (e : a = ((z, c), N', h', mk')) : qS V ad nb b r I L a (some (.int z)) (MM ad nb b r (xu I' 11 0 12 (nI c)) L) := by
  subst e
  exact ⟨_, rfl, rfl, _, rfl, hX.t11, KY.of hf⟩
theorem XS.put {t : Nat} {f : Nat → Nat} {I' : Nat → Nat → Nat → Int32} (hX : XS V N h mk I) (ht : t < 4) (hp : PR I' t f) (hs : ∀ a c, ¬ (scr a ∨ ((a = 4 ∨ a = 43) ∧ c = t)) → I' a c = I a c) : XS V (upN N t f) h mk I' := by
  obtain ⟨h1, h2, h3, h4⟩ := hX
  have e0 : I' 0 = I 0 := funext fun c => hs 0 c (by unfold scr; omega)
  have e42 : I' 42 = I 42 := funext fun c => hs 42 c (by unfold scr; omega)
  refine ⟨h1.sm (fun s a b => funext fun c => hs s c (by unfold scr; omega)), fun u hu => ?_, ?_, ?_⟩
  · unfold upN
    by_cases e : u = t
    · rw [if_pos e, e]; exact hp
    · rw [if_neg e]; exact (h2 u hu).to (hs 4 u (by unfold scr; omega)) (hs 43 u (by unfold scr; omega))
  · obtain ⟨nx, a1, a2, a3, a4, a5⟩ := h3
    refine ⟨nx, a1, by rw [e0]; exact a2, by rw [e0]; exact a3, a4, fun i q hq => ?_⟩
    obtain ⟨b1, b2, b3⟩ := a5 i q hq
    exact ⟨b1, by rw [e42]; exact b2, b3.to (hs 4 _ (by unfold scr; omega)) (hs 43 _ (by unfold scr; omega))⟩
  · obtain ⟨a1, a2, a3⟩ := h4
    refine ⟨by rw [e0]; exact a1, a2, fun m q hq u hu => ?_⟩
    exact (a3 m q hq u hu).to (hs 4 _ (by unfold scr; omega)) (hs 43 _ (by unfold scr; omega))
theorem XS.kept {h2 : sH} {I' : Nat → Nat → Nat → Int32} (hX : XS V N h mk I) (hv : V 0 7 0 ≤ 4) (hH : XH V h2 I') (hs : ∀ a c, ¬ (a = 0 ∨ a = 42 ∨ ((a = 4 ∨ a = 43) ∧ 4 ≤ c ∧ c < 20)) → I' a c = I a c) (h03 : I' 0 0 3 = I 0 0 3) : XS V N h2 mk I' := by
  obtain ⟨h1, h2, h3, h4⟩ := hX
  refine ⟨h1.sm (fun s a b => funext fun c => hs s c (by omega)), fun u hu => (h2 u hu).to (hs 4 u (by omega)) (hs 43 u (by omega)), hH, ?_⟩
  obtain ⟨a1, a2, a3⟩ := h4
  refine ⟨by rw [h03]; exact a1, a2, fun m q hq u hu => ?_⟩
  exact (a3 m q hq u hu).to (hs 4 _ (by omega)) (hs 43 _ (by omega))
theorem FY.tr {I1 I2 : Nat → Nat → Nat → Int32} (h1 : FY I I1) (h2 : FY I1 I2) : FY I I2 := fun s a b c d e => (h2 s a b c d e).trans (h1 s a b c d e)
theorem FY.of1 {I' : Nat → Nat → Nat → Int32} (hs : ∀ a c, ¬ (a = 0 ∨ a = 42 ∨ ((a = 4 ∨ a = 43) ∧ 4 ≤ c ∧ c < 20)) → I' a c = I a c) : FY I I' := fun s a b c d e => funext fun x => hs s x (by omega)
theorem FY.of2 {t : Nat} {I' : Nat → Nat → Nat → Int32} (hs : ∀ a c, ¬ (scr a ∨ ((a = 4 ∨ a = 43) ∧ c = t)) → I' a c = I a c) : FY I I' := fun s a b c d e => funext fun x => hs s x (by intro z; rcases z with z | z; exact a z; omega)

set_option maxRecDepth 100000 in
set_option maxHeartbeats 4000000 in
theorem c_pass (hV : VW V) (hB : XB V 0 I) {t H : Nat} {f : Nat → Nat} (ht : t < 4) (hp : PR I t f) (hf : ∀ s, s < 6 → f (3 + s) ≤ 198) (hH : H ≤ 1000) : Mt G vX11_pass (d + 1 + 1) (0, 0) [.ref (ad 11 0), .ref (ad 4 t), .int (nI (H))] (MM ad nb b r I L) (qV (fun M' => ∃ I', M' = MM ad nb b r I' L ∧ PR I' t (pas V f H) ∧ ∀ a c, ¬ ((a = 4 ∨ a = 43) ∧ c = t) → I' a c = I a c)) := by
  have v2 := hV.2.2.1
  refine x_start (by decide) (Nat.le_of_ble_eq_true rfl) ?_
  refine x_aload_n dX11_pass_0 rfl ?_
  refine g_X_air fX11_34 dX11_pass_1 ?_
  refine x_aload_n dX11_pass_4 rfl ?_
  refine g_Person_halves fX11_183 dX11_pass_5 (Nat.lt_of_lt_of_le (show t < 4 by omega) (by decide)) ?_
  refine x_iload_n dX11_pass_8 rfl ?_
  refine x_cvv (c_fade (h := 43) (j := t) (f := fun s => f (3 + s)) rfl (by omega) (Nat.lt_of_lt_of_le ht (Nat.le_of_ble_eq_true rfl)) hV hB (fun s hs => ⟨hp.2 s (by omega), hf s (by omega)⟩) hH) kX11_365 dX11_pass_9 rfl (Nat.le_of_ble_eq_true rfl) rfl rfl (Nat.le_of_ble_eq_true rfl) (fun M2 hq => ?_)
  obtain ⟨I2, rfl, k1, k2, k3⟩ := hq
  have e4 : I2 4 t = I 4 t := k3 4 t (by omega)
  refine x_aload_n dX11_pass_12 rfl ?_
  refine x_dup dX11_pass_13 rfl ?_
  refine g_Person_hours fX11_173 dX11_pass_14 (Nat.lt_of_lt_of_le (show t < 4 by omega) (by decide)) ?_
  rw [e4, hp.1 2 (by omega)]
  refine x_iload_n dX11_pass_17 rfl ?_
  refine x_iaddN dX11_pass_18 ?_
  refine p_Person_hours fX11_173 dX11_pass_19 (Nat.lt_of_lt_of_le (show t < 4 by omega) (by decide)) ?_
  refine x_vret dX11_pass_22 rfl ?_
  refine ⟨rfl, _, rfl, ⟨fun k hk => ?_, fun s hs => ?_⟩, fun a c hac => ?_⟩
  · unfold pas
    by_cases e : k = 2
    · subst e; rw [xu_s, if_pos rfl]
    · rw [xu_nk e, if_neg e, if_neg (by omega), e4]; exact hp.1 k hk
  · rw [xu_ns (by decide)]
    unfold pas
    rw [if_neg (by omega)]
    by_cases e : s < V 0 2 0
    · rw [if_pos (by omega), k1 s e, show 3 + s - 3 = s by omega]
    · rw [if_neg (by omega), k2 s (by omega)]; exact hp.2 s hs
  · by_cases e : a = 4
    · subst e; rw [show xu I2 4 t 2 (nI (f 2 + H)) 4 c = I2 4 c from funext fun x => xu_ni (fun z => hac ⟨Or.inl rfl, z⟩)]; exact k3 4 c (by omega)
    · rw [show xu I2 4 t 2 (nI (f 2 + H)) a c = I2 a c from funext fun x => xu_ns e]; exact k3 a c (by omega)

def t_waits (V : sV) (N : sN) (h : sH) (mk : List sN) (t H : Int32) : (Int32 × Nat) × sN × sH × List sN := if inr t (V 0 7 0) = true then (if wth H 1 99 = true then ((nI (N (zN t) 2 + zN H), 0), upN N (zN t) (pas V (N (zN t)) (zN H)), kp N h (zN t), mk) else ((-1, 2), N, h, mk)) else ((-1, 1), N, h, mk)
/-- one goes to a place -/
def gon (V : sV) (N : sN) (t q : Nat) : Nat → Nat := fun k => if k = 0 then q else pas V (N t) (V 7 (N t 0) q) k
def god (V : sV) (N : sN) (t q : Nat) : Nat := dbh V (upN N t (gon V N t q)) t q 0
def t_go (V : sV) (N : sN) (h : sH) (mk : List sN) (t z : Int32) : (Int32 × Nat) × sN × sH × List sN := if (inr t (V 0 7 0) && inr z (V 0 4 0)) = true then (if V 7 (N (zN t) 0) (zN z) = 0 then ((-1, 5), N, h, mk) else ((nI (god V N (zN t) (zN z)), 0), upN N (zN t) (fun k => if k = 1 then N (zN t) 1 + god V N (zN t) (zN z) else gon V N (zN t) (zN z) k), kp N h (zN t), mk)) else ((-1, 1), N, h, mk)
def t_spray (V : sV) (N : sN) (h : sH) (mk : List sN) (t s c : Int32) : (Int32 × Nat) × sN × sH × List sN := if (inr t (V 0 7 0) && inr s (V 0 2 0)) = true then (if wth c 0 99 = true then (if N (zN t) (3 + zN s) = 2 * zN c then ((nI 0, 5), N, h, mk) else ((nI 1, 0), upN N (zN t) (fun k => if k = 3 + zN s then 2 * zN c else N (zN t) k), kp N h (zN t), mk)) else ((nI 0, 2), N, h, mk)) else ((nI 0, 1), N, h, mk)
def wsh (f : Nat → Nat) : Nat → Nat := fun k => if k < 3 then f k else f k / 2
def t_wash (V : sV) (N : sN) (h : sH) (mk : List sN) (t : Int32) : (Int32 × Nat) × sN × sH × List sN := if inr t (V 0 7 0) = true then (if anyOn (N (zN t)) 6 = true then ((nI 1, 0), upN N (zN t) (wsh (N (zN t))), kp N h (zN t), mk) else ((nI 0, 5), N, h, mk)) else ((nI 0, 1), N, h, mk)
def t_undo (N : sN) (h : sH) (mk : List sN) : (Int32 × Nat) × sN × sH × List sN := match h with
  | [] => ((nI 0, 6), N, h, mk)
  | q :: h' => ((nI 1, 0), upN N q.1 q.2, h', mk)
def t_mark (V : sV) (N : sN) (h : sH) (mk : List sN) : (Int32 × Nat) × sN × sH × List sN := if 0 < V 0 0 0 then (if mk.length < 3 then ((nI mk.length, 0), N, h, mk ++ [N]) else ((-1, 3), N, h, mk)) else ((-1, 1), N, h, mk)
def t_back (N : sN) (h : sH) (mk : List sN) (z : Int32) : (Int32 × Nat) × sN × sH × List sN := if inr z mk.length = true then ((nI 1, 0), mk.getD (zN z) N, [], mk) else ((nI 0, 1), N, h, mk)

set_option maxRecDepth 100000 in
set_option maxHeartbeats 4000000 in
theorem x_waits_c (hS : SW V N h mk) (hX : XS V N h mk I) {z1 z2 : Int32} : Mt G vX11_waits (d + 2 + 1) (0, 0) [.ref (ad 11 0), .int (z1), .int (z2)] (MM ad nb b r I L) (qS V ad nb b r I L (t_waits V N h mk z1 z2)) := by
  have hV := hS.1
  obtain ⟨hB, hN, hH, hK⟩ := hX
  have hW := hS.2.1
  have v0 := hV.1
  have v1 := hV.2.1
  have v2 := hV.2.2.1
  have v3 := hV.2.2.2.1
  have v4 := hV.2.2.2.2.1
  have v7 := hV.2.2.2.2.2.2.2.1
  have v9 := hV.2.2.2.2.2.2.2.2.2.1
  have v10 := hV.2.2.2.2.2.2.2.2.2.2.1
  refine x_start (by decide) (Nat.le_of_ble_eq_true rfl) ?_
  refine x_aload_n dX11_waits_0 rfl ?_
  refine x_bipush dX11_waits_1 lb_7 ?_
  refine x_iload_n dX11_waits_3 rfl ?_
  refine x_cvi (c_isOne hV (so := 7) (by omega) (by omega) (hB.1 7 (by omega))) kX11_133 dX11_waits_4 rfl (Nat.le_of_ble_eq_true rfl) rfl rfl (Nat.le_of_ble_eq_true rfl) (fun ru Mu hq => ?_)
  obtain ⟨rfl, rfl⟩ := hq
  refine x_if_ne 16 dX11_waits_7 (by decide) (fun h7 => ?_) (fun h7 => ?_)
  · have qt := bI_ne.mp h7
    obtain ⟨t, ht, rfl⟩ := inr_of qt (by omega)
    refine x_iload_n dX11_waits_16 rfl ?_
    refine x_iconst dX11_waits_17 li_1 ?_
    refine x_bipush dX11_waits_18 lb_99 ?_
    refine x_csi (c_isWithin) kX11_206 dX11_waits_20 rfl rfl (Nat.le_of_ble_eq_true rfl) (fun ru Mu hq => ?_)
    obtain ⟨rfl, rfl⟩ := hq
    refine x_if_ne 32 dX11_waits_23 (by decide) (fun h23 => ?_) (fun h23 => ?_)
    · have qH := bI_ne.mp h23
      obtain ⟨H, hH1, hH2, rfl⟩ := wth_of qH (by omega) (by omega)
      refine x_aload_n dX11_waits_32 rfl ?_
      refine g_X_acts fX11_41 dX11_waits_33 ?_
      refine x_iload_n dX11_waits_36 rfl ?_
      refine x_cvv (c_keep (d := d) (t := t) (f := N t) hV ht (hN t ht) hH) kX11_310 dX11_waits_37 rfl (Nat.le_of_ble_eq_true rfl) rfl rfl (Nat.le_of_ble_eq_true rfl) (fun M2 hq2 => ?_)
      obtain ⟨I2, rfl, hH2, hF2, h03⟩ := hq2
      have hX2 : XS V N (kp N h t) mk I2 := XS.kept ⟨hB, hN, hH, hK⟩ v7 hH2 hF2 h03
      have hP2 : PR I2 t (N t) := hX2.2.1 t ht
      have hY2 : FY I I2 := FY.of1 hF2
      refine x_aload_n dX11_waits_40 rfl ?_
      refine x_aload_n dX11_waits_41 rfl ?_
      refine g_X_acts fX11_41 dX11_waits_42 ?_
      refine g_Acts_now fX11_155 dX11_waits_45 ?_
      refine x_iload_n dX11_waits_48 rfl ?_
      refine aa_Acts_now dX11_waits_49 rfl (by first | exact Nat.le_of_ble_eq_true rfl | assumption | omega) ?_
      refine x_iload_n dX11_waits_50 rfl ?_
      refine x_cvv (c_pass (d := d) (t := t) (H := H) (f := N t) hV hX2.1 (by omega) hP2 (hW t ht).2 (by omega)) kX11_313 dX11_waits_51 rfl (Nat.le_of_ble_eq_true rfl) rfl rfl (Nat.le_of_ble_eq_true rfl) (fun M3 hq3 => ?_)
      obtain ⟨I3, rfl, hP3, hF3⟩ := hq3
      have hX3 : XS V (upN N t (pas V (N t) (H))) (kp N h t) mk I3 := hX2.put (by omega) hP3 (fun a c z => hF3 a c (fun y => z (Or.inr y)))
      have hY3 : FY I I3 := hY2.tr (FY.of2 (t := t) (fun a c z => hF3 a c (fun y => z (Or.inr y))))
      refine x_aload_n dX11_waits_54 rfl ?_
      refine x_aload_n dX11_waits_55 rfl ?_
      refine g_X_acts fX11_41 dX11_waits_56 ?_
      refine g_Acts_now fX11_155 dX11_waits_59 ?_
      refine x_iload_n dX11_waits_62 rfl ?_
      refine aa_Acts_now dX11_waits_63 rfl (by first | exact Nat.le_of_ble_eq_true rfl | assumption | omega) ?_
      refine g_Person_hours fX11_173 dX11_waits_64 (Nat.lt_of_lt_of_le (show t < 4 by omega) (by decide)) ?_
      rw [hP3.1 2 (by omega)]
      refine x_cvi (c_answer) kX11_127 dX11_waits_67 rfl (Nat.le_of_ble_eq_true rfl) rfl rfl (Nat.le_of_ble_eq_true rfl) (fun ru Mu hq => ?_)
      obtain ⟨rfl, rfl⟩ := hq
      refine x_iret dX11_waits_70 rfl ?_
      refine qS_ok hX3 hY3 ?_
      unfold t_waits
      rw [qt, qH, if_pos rfl, if_pos rfl, zN_nI (by omega), zN_nI (by omega)]
      rfl
    · refine x_aload_n dX11_waits_26 rfl ?_
      refine x_iconst dX11_waits_27 li_2 ?_
      refine x_cvi (c_refuse) kX11_102 dX11_waits_28 rfl (Nat.le_of_ble_eq_true rfl) rfl rfl (Nat.le_of_ble_eq_true rfl) (fun ru Mu hq => ?_)
      obtain ⟨rfl, rfl⟩ := hq
      refine x_iret dX11_waits_31 rfl ?_
      refine qS_no ⟨hB, hN, hH, hK⟩ ?_
      unfold t_waits
      rw [qt, bI_eq.mp h23]
      rfl
  · refine x_aload_n dX11_waits_10 rfl ?_
    refine x_iconst dX11_waits_11 li_1 ?_
    refine x_cvi (c_refuse) kX11_102 dX11_waits_12 rfl (Nat.le_of_ble_eq_true rfl) rfl rfl (Nat.le_of_ble_eq_true rfl) (fun ru Mu hq => ?_)
    obtain ⟨rfl, rfl⟩ := hq
    refine x_iret dX11_waits_15 rfl ?_
    refine qS_no ⟨hB, hN, hH, hK⟩ ?_
    unfold t_waits
    rw [bI_eq.mp h7]
    rfl
set_option maxRecDepth 100000 in
set_option maxHeartbeats 4000000 in
theorem x_go_c (hS : SW V N h mk) (hX : XS V N h mk I) {z1 z2 : Int32} : Mt G vX11_go (d + 2 + 1 + 1) (0, 0) [.ref (ad 11 0), .int (z1), .int (z2)] (MM ad nb b r I L) (qS V ad nb b r I L (t_go V N h mk z1 z2)) := by
  have hV := hS.1
  obtain ⟨hB, hN, hH, hK⟩ := hX
  have hW := hS.2.1
  have v0 := hV.1
  have v1 := hV.2.1
  have v2 := hV.2.2.1
  have v3 := hV.2.2.2.1
  have v4 := hV.2.2.2.2.1
  have v7 := hV.2.2.2.2.2.2.2.1
  have v9 := hV.2.2.2.2.2.2.2.2.2.1
  have v10 := hV.2.2.2.2.2.2.2.2.2.2.1
  refine x_start (by decide) (Nat.le_of_ble_eq_true rfl) ?_
  refine x_aload_n dX11_go_0 rfl ?_
  refine x_bipush dX11_go_1 lb_7 ?_
  refine x_iload_n dX11_go_3 rfl ?_
  refine x_cvi (c_isOne hV (so := 7) (by omega) (by omega) (hB.1 7 (by omega))) kX11_133 dX11_go_4 rfl (Nat.le_of_ble_eq_true rfl) rfl rfl (Nat.le_of_ble_eq_true rfl) (fun ru Mu hq => ?_)
  obtain ⟨rfl, rfl⟩ := hq
  refine x_if_eq 19 dX11_go_7 (by decide) (fun h7 => ?_) (fun h7 => ?_)
  · refine x_aload_n dX11_go_19 rfl ?_
    refine x_iconst dX11_go_20 li_1 ?_
    refine x_cvi (c_refuse) kX11_102 dX11_go_21 rfl (Nat.le_of_ble_eq_true rfl) rfl rfl (Nat.le_of_ble_eq_true rfl) (fun ru Mu hq => ?_)
    obtain ⟨rfl, rfl⟩ := hq
    refine x_iret dX11_go_24 rfl ?_
    refine qS_no ⟨hB, hN, hH, hK⟩ ?_
    unfold t_go
    first
      | (rw [bI_eq.mp h7]; rfl)
      | (rw [bI_eq.mp h16, Bool.and_false]; rfl)
  · have qt := bI_ne.mp h7
    obtain ⟨t, ht, rfl⟩ := inr_of qt (by omega)
    refine x_aload_n dX11_go_10 rfl ?_
    refine x_iconst dX11_go_11 li_4 ?_
    refine x_iload_n dX11_go_12 rfl ?_
    refine x_cvi (c_isOne hV (so := 4) (by omega) (by omega) (hB.1 4 (by omega))) kX11_133 dX11_go_13 rfl (Nat.le_of_ble_eq_true rfl) rfl rfl (Nat.le_of_ble_eq_true rfl) (fun ru Mu hq => ?_)
    obtain ⟨rfl, rfl⟩ := hq
    refine x_if_ne 25 dX11_go_16 (by decide) (fun h16 => ?_) (fun h16 => ?_)
    · have qq := bI_ne.mp h16
      obtain ⟨q, hq, rfl⟩ := inr_of qq (by omega)
      refine x_aload_n dX11_go_25 rfl ?_
      refine g_X_acts fX11_41 dX11_go_26 ?_
      refine g_Acts_now fX11_155 dX11_go_29 ?_
      refine x_iload_n dX11_go_32 rfl ?_
      refine aa_Acts_now dX11_go_33 rfl (by first | exact Nat.le_of_ble_eq_true rfl | assumption | omega) ?_
      refine x_astore_n dX11_go_34 (by decide) rfl ?_
      refine x_aload_n dX11_go_35 rfl ?_
      refine g_X_told fX11_16 dX11_go_36 ?_
      refine g_Border_hours fX11_176 dX11_go_39 (by first | exact Nat.le_of_ble_eq_true rfl | assumption | omega) ?_
      refine x_aload_n dX11_go_42 rfl ?_
      refine g_Person_place fX11_165 dX11_go_43 (Nat.lt_of_lt_of_le (show t < 4 by omega) (by decide)) ?_
      have hp0 := (hW t ht).1
      rw [(hN t ht).1 0 (by omega)]
      refine aa_Border_hours0 dX11_go_46 rfl (by first | exact Nat.le_of_ble_eq_true rfl | assumption | omega) ?_
      refine x_iload_n dX11_go_47 rfl ?_
      refine x_iald dX11_go_48 rfl rfl (Nat.lt_of_lt_of_le (by first | assumption | omega | decide) (Nat.le_refl 12)) (by first | exact Nat.le_of_ble_eq_true rfl | assumption | omega) ?_
      have h40 := hV.2.2.2.2.2.2.2.2.2.2.2.2.2.2.2.2.1 (N t 0) q
      have eh : I 31 (N t 0) q = nI (V 7 (N t 0) q) := (hB.2.2.2.2.2.2.2.2.2.1 _ _ (by omega) (by omega)).1
      rw [eh]
      refine x_istore dX11_go_49 (by decide) rfl ?_
      refine x_iload dX11_go_51 rfl ?_
      refine x_ifN_ne 62 dX11_go_53 (by decide) (by omega) (fun h53 => ?_) (fun h53 => ?_)
      · refine x_aload_n dX11_go_62 rfl ?_
        refine g_X_acts fX11_41 dX11_go_63 ?_
        refine x_iload_n dX11_go_66 rfl ?_
        refine x_cvv (c_keep (d := d + 1) (t := t) (f := N t) hV ht (hN t ht) hH) kX11_310 dX11_go_67 rfl (Nat.le_of_ble_eq_true rfl) rfl rfl (Nat.le_of_ble_eq_true rfl) (fun M2 hq2 => ?_)
        obtain ⟨I2, rfl, hH2, hF2, h03⟩ := hq2
        have hX2 : XS V N (kp N h t) mk I2 := XS.kept ⟨hB, hN, hH, hK⟩ v7 hH2 hF2 h03
        have hP2 : PR I2 t (N t) := hX2.2.1 t ht
        have hY2 : FY I I2 := FY.of1 hF2
        refine x_aload_n dX11_go_70 rfl ?_
        refine x_aload_n dX11_go_71 rfl ?_
        refine x_iload dX11_go_72 rfl ?_
        refine x_cvv (c_pass (d := d + 1) (t := t) (H := V 7 (N t 0) q) (f := N t) hV hX2.1 (by omega) hP2 (hW t ht).2 (by omega)) kX11_313 dX11_go_74 rfl (Nat.le_of_ble_eq_true rfl) rfl rfl (Nat.le_of_ble_eq_true rfl) (fun M3 hq3 => ?_)
        obtain ⟨I3, rfl, hP3, hF3⟩ := hq3
        have hX3 : XS V (upN N t (pas V (N t) (V 7 (N t 0) q))) (kp N h t) mk I3 := hX2.put (by omega) hP3 (fun a c z => hF3 a c (fun y => z (Or.inr y)))
        have hY3 : FY I I3 := hY2.tr (FY.of2 (t := t) (fun a c z => hF3 a c (fun y => z (Or.inr y))))
        refine x_aload_n dX11_go_77 rfl ?_
        refine x_iload_n dX11_go_78 rfl ?_
        refine p_Person_place fX11_165 dX11_go_79 (Nat.lt_of_lt_of_le (show t < 4 by omega) (by decide)) ?_
        have hP4 : PR (xu I3 4 t 0 (nI q)) t (gon V N t q) := by
          refine ⟨fun k hk => ?_, fun s hs => ?_⟩
          · unfold gon
            by_cases e : k = 0
            · subst e; rw [xu_s, if_pos rfl]
            · rw [xu_nk e, if_neg e]; exact hP3.1 k hk
          · rw [xu_ns (by decide)]; unfold gon; rw [if_neg (by omega)]; exact hP3.2 s hs
        have hF4 : ∀ a c, ¬ (scr a ∨ ((a = 4 ∨ a = 43) ∧ c = t)) → (xu I3 4 t 0 (nI q)) a c = I2 a c := by
          intro a c z
          rw [show (xu I3 4 t 0 (nI q)) a c = I3 a c from funext fun x => ?_]
          · exact hF3 a c (fun y => z (Or.inr y))
          · by_cases e : a = 4
            · subst e; exact xu_ni (fun y => z (Or.inr ⟨Or.inl rfl, y⟩))
            · exact xu_ns e
        have hX4 : XS V (upN N t (gon V N t q)) (kp N h t) mk (xu I3 4 t 0 (nI q)) := hX2.put (by omega) hP4 hF4
        have hW4 : NW V (upN N t (gon V N t q)) := by
          intro u hu
          unfold upN
          split
          · refine ⟨hq, fun s hs => ?_⟩
            have := (hW t ht).2 s hs
            unfold gon pas
            rw [if_neg (by omega), if_neg (by omega)]
            split <;> omega
          · exact hW u hu
        refine x_aload_n dX11_go_82 rfl ?_
        refine x_iload_n dX11_go_83 rfl ?_
        refine x_iload_n dX11_go_84 rfl ?_
        refine x_iconst dX11_go_85 li_0 ?_
        refine x_cvi (c_dutyBehind (d := d) (N := upN N t (gon V N t q)) (t := t) (q := q) (H := 0) hV hX4.1 hX4.2.1 hW4 ht hq (by omega)) kX11_202 dX11_go_86 rfl (Nat.le_of_ble_eq_true rfl) rfl rfl (Nat.le_of_ble_eq_true rfl) (fun ru M5 hq5 => ?_)
        obtain ⟨rfl, I5, rfl, hS5⟩ := hq5
        have e1 : I5 4 t 1 = nI (N t 1) := by
          rw [hS5 4 (by omega), hP4.1 1 (by omega)]
          rfl
        refine x_istore dX11_go_89 (by decide) rfl ?_
        refine x_aload_n dX11_go_91 rfl ?_
        refine x_dup dX11_go_92 rfl ?_
        refine g_Person_paid fX11_170 dX11_go_93 (Nat.lt_of_lt_of_le (show t < 4 by omega) (by decide)) ?_
        rw [e1]
        refine x_iload dX11_go_96 rfl ?_
        refine x_iaddN dX11_go_98 ?_
        refine p_Person_paid fX11_170 dX11_go_99 (Nat.lt_of_lt_of_le (show t < 4 by omega) (by decide)) ?_
        refine x_aload_n dX11_go_102 rfl ?_
        refine x_iload dX11_go_103 rfl ?_
        refine x_cvi (c_answer) kX11_127 dX11_go_105 rfl (Nat.le_of_ble_eq_true rfl) rfl rfl (Nat.le_of_ble_eq_true rfl) (fun ru Mu hq => ?_)
        obtain ⟨rfl, rfl⟩ := hq
        refine x_iret dX11_go_108 rfl ?_
        have hP6 : PR (xu I5 4 t 1 (nI (N t 1 + dbh V (upN N t (gon V N t q)) t q 0))) t (fun k => if k = 1 then N t 1 + god V N t q else gon V N t q k) := by
          refine ⟨fun k hk => ?_, fun s hs => ?_⟩
          · by_cases e : k = 1
            · subst e; rw [xu_s]; rfl
            · rw [xu_nk e, hS5 4 (by omega)]; simp only [if_neg e]; exact hP4.1 k hk
          · rw [xu_ns (by decide), hS5 43 (by omega)]; simp only [if_neg (show ¬ 3 + s = 1 by omega)]; exact hP4.2 s hs
        have hF6 : ∀ a c, ¬ (scr a ∨ ((a = 4 ∨ a = 43) ∧ c = t)) → xu I5 4 t 1 (nI (N t 1 + dbh V (upN N t (gon V N t q)) t q 0)) a c = I2 a c := by
          intro a c z
          rw [show xu I5 4 t 1 (nI (N t 1 + dbh V (upN N t (gon V N t q)) t q 0)) a c = I5 a c from funext fun x => ?_]
          · rw [hS5 a (fun y => z (Or.inl (by unfold scr; omega)))]; exact hF4 a c z
          · by_cases e : a = 4
            · subst e; exact xu_ni (fun y => z (Or.inr ⟨Or.inl rfl, y⟩))
            · exact xu_ns e
        refine qS_ok (hX2.put (by omega) hP6 hF6) (hY2.tr (FY.of2 hF6)) ?_
        unfold t_go
        rw [qt, qq, Bool.and_self, if_pos rfl, zN_nI (by omega), zN_nI (by omega), if_neg (by omega)]
        rfl
      · refine x_aload_n dX11_go_56 rfl ?_
        refine x_iconst dX11_go_57 li_5 ?_
        refine x_cvi (c_refuse) kX11_102 dX11_go_58 rfl (Nat.le_of_ble_eq_true rfl) rfl rfl (Nat.le_of_ble_eq_true rfl) (fun ru Mu hq => ?_)
        obtain ⟨rfl, rfl⟩ := hq
        refine x_iret dX11_go_61 rfl ?_
        refine qS_no ⟨hB, hN, hH, hK⟩ ?_
        unfold t_go
        rw [qt, qq, Bool.and_self, if_pos rfl, zN_nI (by omega), zN_nI (by omega), if_pos (by omega)]
    · refine x_aload_n dX11_go_19 rfl ?_
      refine x_iconst dX11_go_20 li_1 ?_
      refine x_cvi (c_refuse) kX11_102 dX11_go_21 rfl (Nat.le_of_ble_eq_true rfl) rfl rfl (Nat.le_of_ble_eq_true rfl) (fun ru Mu hq => ?_)
      obtain ⟨rfl, rfl⟩ := hq
      refine x_iret dX11_go_24 rfl ?_
      refine qS_no ⟨hB, hN, hH, hK⟩ ?_
      unfold t_go
      first
        | (rw [bI_eq.mp h7]; rfl)
        | (rw [bI_eq.mp h16, Bool.and_false]; rfl)
set_option maxRecDepth 100000 in
set_option maxHeartbeats 4000000 in
theorem x_spray_c (hS : SW V N h mk) (hX : XS V N h mk I) {z1 z2 z3 : Int32} : Mt G vX11_spray (d + 2 + 1) (0, 0) [.ref (ad 11 0), .int (z1), .int (z2), .int (z3)] (MM ad nb b r I L) (qS V ad nb b r I L (t_spray V N h mk z1 z2 z3)) := by
  have hV := hS.1
  obtain ⟨hB, hN, hH, hK⟩ := hX
  have hW := hS.2.1
  have v0 := hV.1
  have v1 := hV.2.1
  have v2 := hV.2.2.1
  have v3 := hV.2.2.2.1
  have v4 := hV.2.2.2.2.1
  have v7 := hV.2.2.2.2.2.2.2.1
  have v9 := hV.2.2.2.2.2.2.2.2.2.1
  have v10 := hV.2.2.2.2.2.2.2.2.2.2.1
  refine x_start (by decide) (Nat.le_of_ble_eq_true rfl) ?_
  refine x_aload_n dX11_spray_0 rfl ?_
  refine x_bipush dX11_spray_1 lb_7 ?_
  refine x_iload_n dX11_spray_3 rfl ?_
  refine x_cvi (c_isOne hV (so := 7) (by omega) (by omega) (hB.1 7 (by omega))) kX11_133 dX11_spray_4 rfl (Nat.le_of_ble_eq_true rfl) rfl rfl (Nat.le_of_ble_eq_true rfl) (fun ru Mu hq => ?_)
  obtain ⟨rfl, rfl⟩ := hq
  refine x_if_eq 19 dX11_spray_7 (by decide) (fun h7 => ?_) (fun h7 => ?_)
  · refine x_aload_n dX11_spray_19 rfl ?_
    refine x_iconst dX11_spray_20 li_1 ?_
    refine x_cvi (c_deny) kX11_317 dX11_spray_21 rfl (Nat.le_of_ble_eq_true rfl) rfl rfl (Nat.le_of_ble_eq_true rfl) (fun ru Mu hq => ?_)
    obtain ⟨rfl, rfl⟩ := hq
    refine x_zret dX11_spray_24 rfl rfl ?_
    refine qS_no ⟨hB, hN, hH, hK⟩ ?_
    unfold t_spray
    first
      | (rw [bI_eq.mp h7]; rfl)
      | (rw [bI_eq.mp h16, Bool.and_false]; rfl)
  · have qt := bI_ne.mp h7
    obtain ⟨t, ht, rfl⟩ := inr_of qt (by omega)
    refine x_aload_n dX11_spray_10 rfl ?_
    refine x_iconst dX11_spray_11 li_2 ?_
    refine x_iload_n dX11_spray_12 rfl ?_
    refine x_cvi (c_isOne hV (so := 2) (by omega) (by omega) (hB.1 2 (by omega))) kX11_133 dX11_spray_13 rfl (Nat.le_of_ble_eq_true rfl) rfl rfl (Nat.le_of_ble_eq_true rfl) (fun ru Mu hq => ?_)
    obtain ⟨rfl, rfl⟩ := hq
    refine x_if_ne 25 dX11_spray_16 (by decide) (fun h16 => ?_) (fun h16 => ?_)
    · have qs := bI_ne.mp h16
      obtain ⟨s, hs, rfl⟩ := inr_of qs (by omega)
      refine x_iload_n dX11_spray_25 rfl ?_
      refine x_iconst dX11_spray_26 li_0 ?_
      refine x_bipush dX11_spray_27 lb_99 ?_
      refine x_csi (c_isWithin) kX11_206 dX11_spray_29 rfl rfl (Nat.le_of_ble_eq_true rfl) (fun ru Mu hq => ?_)
      obtain ⟨rfl, rfl⟩ := hq
      refine x_if_ne 41 dX11_spray_32 (by decide) (fun h32 => ?_) (fun h32 => ?_)
      · have qc := bI_ne.mp h32
        obtain ⟨c, -, hc, rfl⟩ := wth_of qc (by omega) (by omega)
        refine x_aload_n dX11_spray_41 rfl ?_
        refine g_X_acts fX11_41 dX11_spray_42 ?_
        refine g_Acts_now fX11_155 dX11_spray_45 ?_
        refine x_iload_n dX11_spray_48 rfl ?_
        refine aa_Acts_now dX11_spray_49 rfl (by first | exact Nat.le_of_ble_eq_true rfl | assumption | omega) ?_
        refine x_astore dX11_spray_50 (by decide) rfl ?_
        refine x_aload dX11_spray_52 rfl ?_
        refine g_Person_halves fX11_183 dX11_spray_54 (Nat.lt_of_lt_of_le (show t < 4 by omega) (by decide)) ?_
        refine x_iload_n dX11_spray_57 rfl ?_
        refine x_iald dX11_spray_58 rfl rfl (Nat.lt_of_lt_of_le (show t < 4 by omega) (Nat.le_of_ble_eq_true rfl)) (by first | exact Nat.le_of_ble_eq_true rfl | assumption | omega) ?_
        have hNs := (hW t ht).2 s (by omega)
        rw [(hN t ht).2 s (by omega)]
        refine x_iconst dX11_spray_59 li_2 ?_
        refine x_iload_n dX11_spray_60 rfl ?_
        refine x_imulN dX11_spray_61 ?_
        refine x_icN_ne 71 dX11_spray_62 (by decide) (by omega) (by omega) (fun h62 => ?_) (fun h62 => ?_)
        · refine x_aload_n dX11_spray_71 rfl ?_
          refine g_X_acts fX11_41 dX11_spray_72 ?_
          refine x_iload_n dX11_spray_75 rfl ?_
          refine x_cvv (c_keep (d := d) (t := t) (f := N t) hV ht (hN t ht) hH) kX11_310 dX11_spray_76 rfl (Nat.le_of_ble_eq_true rfl) rfl rfl (Nat.le_of_ble_eq_true rfl) (fun M2 hq2 => ?_)
          obtain ⟨I2, rfl, hH2, hF2, h03⟩ := hq2
          have hX2 : XS V N (kp N h t) mk I2 := XS.kept ⟨hB, hN, hH, hK⟩ v7 hH2 hF2 h03
          have hP2 : PR I2 t (N t) := hX2.2.1 t ht
          have hY2 : FY I I2 := FY.of1 hF2
          refine x_aload dX11_spray_79 rfl ?_
          refine g_Person_halves fX11_183 dX11_spray_81 (Nat.lt_of_lt_of_le (show t < 4 by omega) (by decide)) ?_
          refine x_iload_n dX11_spray_84 rfl ?_
          refine x_iconst dX11_spray_85 li_2 ?_
          refine x_iload_n dX11_spray_86 rfl ?_
          refine x_imulN dX11_spray_87 ?_
          refine x_iast dX11_spray_88 rfl rfl (Nat.lt_of_lt_of_le (show t < 4 by omega) (Nat.le_of_ble_eq_true rfl)) (by first | exact Nat.le_of_ble_eq_true rfl | assumption | omega) ?_
          refine x_aload_n dX11_spray_89 rfl ?_
          refine x_cvi (c_agree) kX11_320 dX11_spray_90 rfl (Nat.le_of_ble_eq_true rfl) rfl rfl (Nat.le_of_ble_eq_true rfl) (fun ru Mu hq => ?_)
          obtain ⟨rfl, rfl⟩ := hq
          refine x_zret dX11_spray_93 rfl rfl ?_
          have hP3 : PR (xu I2 43 t s (nI (2 * c))) t (fun k => if k = 3 + s then 2 * c else N t k) := by
            refine ⟨fun k hk => ?_, fun j hj => ?_⟩
            · rw [xu_ns (by decide)]; simp only [if_neg (show ¬ k = 3 + s by omega)]; exact hP2.1 k hk
            · by_cases e : j = s
              · subst e; rw [xu_s]; simp only [if_true]
              · rw [xu_nk e]; simp only [if_neg (show ¬ 3 + j = 3 + s by omega)]; exact hP2.2 j hj
          have hF3 : ∀ a c0, ¬ (scr a ∨ ((a = 4 ∨ a = 43) ∧ c0 = t)) → xu I2 43 t s (nI (2 * c)) a c0 = I2 a c0 := by
            intro a c0 z
            funext x
            by_cases e : a = 43
            · subst e; exact xu_ni (fun y => z (Or.inr ⟨Or.inr rfl, y⟩))
            · exact xu_ns e
          refine qS_ok (hX2.put (by omega) hP3 hF3) (hY2.tr (FY.of2 hF3)) ?_
          unfold t_spray
          rw [qt, qs, Bool.and_self, if_pos rfl, qc, if_pos rfl, zN_nI (by omega), zN_nI (by omega), zN_nI (by omega), if_neg h62]
        · refine x_aload_n dX11_spray_65 rfl ?_
          refine x_iconst dX11_spray_66 li_5 ?_
          refine x_cvi (c_deny) kX11_317 dX11_spray_67 rfl (Nat.le_of_ble_eq_true rfl) rfl rfl (Nat.le_of_ble_eq_true rfl) (fun ru Mu hq => ?_)
          obtain ⟨rfl, rfl⟩ := hq
          refine x_zret dX11_spray_70 rfl rfl ?_
          refine qS_no ⟨hB, hN, hH, hK⟩ ?_
          unfold t_spray
          rw [qt, qs, Bool.and_self, if_pos rfl, qc, if_pos rfl, zN_nI (by omega), zN_nI (by omega), zN_nI (by omega), if_pos h62]
      · refine x_aload_n dX11_spray_35 rfl ?_
        refine x_iconst dX11_spray_36 li_2 ?_
        refine x_cvi (c_deny) kX11_317 dX11_spray_37 rfl (Nat.le_of_ble_eq_true rfl) rfl rfl (Nat.le_of_ble_eq_true rfl) (fun ru Mu hq => ?_)
        obtain ⟨rfl, rfl⟩ := hq
        refine x_zret dX11_spray_40 rfl rfl ?_
        refine qS_no ⟨hB, hN, hH, hK⟩ ?_
        unfold t_spray
        rw [qt, qs, Bool.and_self, if_pos rfl, bI_eq.mp h32]
        rfl
    · refine x_aload_n dX11_spray_19 rfl ?_
      refine x_iconst dX11_spray_20 li_1 ?_
      refine x_cvi (c_deny) kX11_317 dX11_spray_21 rfl (Nat.le_of_ble_eq_true rfl) rfl rfl (Nat.le_of_ble_eq_true rfl) (fun ru Mu hq => ?_)
      obtain ⟨rfl, rfl⟩ := hq
      refine x_zret dX11_spray_24 rfl rfl ?_
      refine qS_no ⟨hB, hN, hH, hK⟩ ?_
      unfold t_spray
      first
        | (rw [bI_eq.mp h7]; rfl)
        | (rw [bI_eq.mp h16, Bool.and_false]; rfl)
set_option maxRecDepth 100000 in
set_option maxHeartbeats 4000000 in
theorem lp_wash (hS : SW V N h mk) (hX : XS V N h mk I) {t : Nat} {I2 : Nat → Nat → Nat → Int32} (ht : t < V 0 7 0) (hX2 : XS V N (kp N h t) mk I2) (hY2 : FY I I2) (han : anyOn (N t) 6 = true) : ∀ (n : Nat) (k : Nat) (I1 : Nat → Nat → Nat → Int32), 6 - k < n → k ≤ 6 → (∀ j, j < 3 → I1 4 t j = nI (N t j)) ∧ (∀ s, s < k → I1 43 t s = nI (N t (3 + s) / 2)) ∧ (∀ s, k ≤ s → s < 6 → I1 43 t s = nI (N t (3 + s))) → (∀ a c, ¬ (scr a ∨ ((a = 4 ∨ a = 43) ∧ c = t)) → I1 a c = I2 a c) → X G vX11_wash (d + 2 + 1) (0, 0) 49 [(0, some (.ref (ad 11 0))), (1, some (.int (nI (t)))), (2, some (.ref (ad 4 t))), (3, some (.int (nI (k))))] [] (MM ad nb b r I1 L) (xT G (qS V ad nb b r I L (t_wash V N h mk (nI t)))) := by
  have hV := hS.1
  obtain ⟨hB, hN, hH, hK⟩ := hX
  have hW := hS.2.1
  have v0 := hV.1
  have v1 := hV.2.1
  have v2 := hV.2.2.1
  have v3 := hV.2.2.2.1
  have v4 := hV.2.2.2.2.1
  have v7 := hV.2.2.2.2.2.2.2.1
  have v9 := hV.2.2.2.2.2.2.2.2.2.1
  have v10 := hV.2.2.2.2.2.2.2.2.2.2.1
  intro n
  induction n with
  | zero => intro k I1 h0; omega
  | succ n ih =>
    intro k I1 hn hk hp hF1
    obtain ⟨hp1, hp2, hp3⟩ := hp
    refine x_iload_n dX11_wash_49 rfl ?_
    refine x_bipush dX11_wash_50 lb_6 ?_
    refine x_icN_ge 75 dX11_wash_52 (by decide) (by omega) (by omega) (fun h52 => ?_) (fun h52 => ?_)
    · refine x_aload_n dX11_wash_75 rfl ?_
      refine x_cvi (c_agree) kX11_320 dX11_wash_76 rfl (Nat.le_of_ble_eq_true rfl) rfl rfl (Nat.le_of_ble_eq_true rfl) (fun ru Mu hq => ?_)
      obtain ⟨rfl, rfl⟩ := hq
      refine x_zret dX11_wash_79 rfl rfl ?_
      have hP1 : PR I1 t (wsh (N t)) := by
        refine ⟨fun j hj => ?_, fun s hs => ?_⟩
        · unfold wsh; rw [if_pos hj]; exact hp1 j hj
        · unfold wsh; rw [if_neg (by omega)]; exact hp2 s (by omega)
      refine qS_ok (hX2.put (by omega) hP1 hF1) (hY2.tr (FY.of2 hF1)) ?_
      unfold t_wash
      rw [inr_nI (by omega) (by omega), decide_eq_true ht, if_pos rfl, zN_nI (by omega), if_pos han]
    · refine x_aload_n dX11_wash_55 rfl ?_
      refine g_Person_halves fX11_183 dX11_wash_56 (Nat.lt_of_lt_of_le (show t < 4 by omega) (by decide)) ?_
      refine x_iload_n dX11_wash_59 rfl ?_
      refine x_aload_n dX11_wash_60 rfl ?_
      refine g_Person_halves fX11_183 dX11_wash_61 (Nat.lt_of_lt_of_le (show t < 4 by omega) (by decide)) ?_
      refine x_iload_n dX11_wash_64 rfl ?_
      refine x_iald dX11_wash_65 rfl rfl (Nat.lt_of_lt_of_le (show t < 4 by omega) (Nat.le_of_ble_eq_true rfl)) (by first | exact Nat.le_of_ble_eq_true rfl | assumption | omega) ?_
      have hNs := (hW t ht).2 k h52
      rw [hp3 k (Nat.le_refl k) h52]
      refine x_iconst dX11_wash_66 li_2 ?_
      refine x_idivN dX11_wash_67 (by omega) (by omega) (by omega) ?_
      refine x_iast dX11_wash_68 rfl rfl (Nat.lt_of_lt_of_le (show t < 4 by omega) (Nat.le_of_ble_eq_true rfl)) (by first | exact Nat.le_of_ble_eq_true rfl | assumption | omega) ?_
      refine x_iincN 1 dX11_wash_69 li_1 rfl (by decide) rfl ?_
      refine x_goto 49 dX11_wash_72 (by decide) ?_
      refine x_ls ?_ (ih (k + 1) _ (by omega) (by omega) ⟨?_, ?_, ?_⟩ ?_)
      · exact ⟨rfl, rfl, rfl, rfl, trivial⟩
      · intro j hj; rw [xu_ns (by decide)]; exact hp1 j hj
      · intro s hs
        by_cases e : s = k
        · subst e; rw [xu_s]
        · rw [xu_nk e]; exact hp2 s (by omega)
      · intro s h1 h2; rw [xu_nk (by omega)]; exact hp3 s (by omega) h2
      · intro a c z
        rw [← hF1 a c z]
        funext x
        by_cases e : a = 43
        · subst e; exact xu_ni (fun y => z (Or.inr ⟨Or.inr rfl, y⟩))
        · exact xu_ns e
set_option maxRecDepth 100000 in
set_option maxHeartbeats 4000000 in
theorem x_wash_c (hS : SW V N h mk) (hX : XS V N h mk I) {z1 : Int32} : Mt G vX11_wash (d + 2 + 1) (0, 0) [.ref (ad 11 0), .int (z1)] (MM ad nb b r I L) (qS V ad nb b r I L (t_wash V N h mk z1)) := by
  have hV := hS.1
  obtain ⟨hB, hN, hH, hK⟩ := hX
  have hW := hS.2.1
  have v0 := hV.1
  have v1 := hV.2.1
  have v2 := hV.2.2.1
  have v3 := hV.2.2.2.1
  have v4 := hV.2.2.2.2.1
  have v7 := hV.2.2.2.2.2.2.2.1
  have v9 := hV.2.2.2.2.2.2.2.2.2.1
  have v10 := hV.2.2.2.2.2.2.2.2.2.2.1
  refine x_start (by decide) (Nat.le_of_ble_eq_true rfl) ?_
  refine x_aload_n dX11_wash_0 rfl ?_
  refine x_bipush dX11_wash_1 lb_7 ?_
  refine x_iload_n dX11_wash_3 rfl ?_
  refine x_cvi (c_isOne hV (so := 7) (by omega) (by omega) (hB.1 7 (by omega))) kX11_133 dX11_wash_4 rfl (Nat.le_of_ble_eq_true rfl) rfl rfl (Nat.le_of_ble_eq_true rfl) (fun ru Mu hq => ?_)
  obtain ⟨rfl, rfl⟩ := hq
  refine x_if_ne 16 dX11_wash_7 (by decide) (fun h7 => ?_) (fun h7 => ?_)
  · have qt := bI_ne.mp h7
    obtain ⟨t, ht, rfl⟩ := inr_of qt (by omega)
    refine x_aload_n dX11_wash_16 rfl ?_
    refine g_X_acts fX11_41 dX11_wash_17 ?_
    refine g_Acts_now fX11_155 dX11_wash_20 ?_
    refine x_iload_n dX11_wash_23 rfl ?_
    refine aa_Acts_now dX11_wash_24 rfl (by first | exact Nat.le_of_ble_eq_true rfl | assumption | omega) ?_
    refine x_astore_n dX11_wash_25 (by decide) rfl ?_
    refine x_aload_n dX11_wash_26 rfl ?_
    refine x_cvi (c_hasOn (i := t) (f := N t) (by omega) (hN t ht) (hW t ht).2) kX11_323 dX11_wash_27 rfl (Nat.lt_of_lt_of_le (show t < 4 by omega) (Nat.le_of_ble_eq_true rfl)) rfl rfl (Nat.le_of_ble_eq_true rfl) (fun ru Mu hq => ?_)
    obtain ⟨rfl, rfl⟩ := hq
    refine x_if_ne 39 dX11_wash_30 (by decide) (fun h30 => ?_) (fun h30 => ?_)
    · refine x_aload_n dX11_wash_39 rfl ?_
      refine g_X_acts fX11_41 dX11_wash_40 ?_
      refine x_iload_n dX11_wash_43 rfl ?_
      refine x_cvv (c_keep (d := d) (t := t) (f := N t) hV ht (hN t ht) hH) kX11_310 dX11_wash_44 rfl (Nat.le_of_ble_eq_true rfl) rfl rfl (Nat.le_of_ble_eq_true rfl) (fun M2 hq2 => ?_)
      obtain ⟨I2, rfl, hH2, hF2, h03⟩ := hq2
      have hX2 : XS V N (kp N h t) mk I2 := XS.kept ⟨hB, hN, hH, hK⟩ v7 hH2 hF2 h03
      have hP2 : PR I2 t (N t) := hX2.2.1 t ht
      have hY2 : FY I I2 := FY.of1 hF2
      refine x_iconst dX11_wash_47 li_0 ?_
      refine x_istore_n dX11_wash_48 (by decide) rfl ?_
      refine x_ls ?_ (lp_wash (I := I) hS ⟨hB, hN, hH, hK⟩ ht hX2 hY2 (bI_ne.mp h30) 7 0 I2 (by omega) (by omega) ⟨hP2.1, fun s hs => absurd hs (Nat.not_lt_zero s), fun s _ h2 => hP2.2 s h2⟩ (fun _ _ _ => rfl))
      exact ⟨rfl, rfl, rfl, rfl, trivial⟩
    · refine x_aload_n dX11_wash_33 rfl ?_
      refine x_iconst dX11_wash_34 li_5 ?_
      refine x_cvi (c_deny) kX11_317 dX11_wash_35 rfl (Nat.le_of_ble_eq_true rfl) rfl rfl (Nat.le_of_ble_eq_true rfl) (fun ru Mu hq => ?_)
      obtain ⟨rfl, rfl⟩ := hq
      refine x_zret dX11_wash_38 rfl rfl ?_
      refine qS_no ⟨hB, hN, hH, hK⟩ ?_
      unfold t_wash
      rw [qt, if_pos rfl, zN_nI (by omega), bI_eq.mp h30]
      rfl
  · refine x_aload_n dX11_wash_10 rfl ?_
    refine x_iconst dX11_wash_11 li_1 ?_
    refine x_cvi (c_deny) kX11_317 dX11_wash_12 rfl (Nat.le_of_ble_eq_true rfl) rfl rfl (Nat.le_of_ble_eq_true rfl) (fun ru Mu hq => ?_)
    obtain ⟨rfl, rfl⟩ := hq
    refine x_zret dX11_wash_15 rfl rfl ?_
    refine qS_no ⟨hB, hN, hH, hK⟩ ?_
    unfold t_wash
    rw [bI_eq.mp h7]
    rfl
end Xp5
