section M55
variable {G : xG} {ad : Nat → Nat → Nat} {nb : Nat} {b r : Option Nat} {L : Nat → Nat → Nat → Int64} {V : sV} {I : Nat → Nat → Nat → Int32} {d : Nat}

variable {N : sN} {h : sH} {mk : List sN} {T : Nat → Nat} {n q fa w : Nat} {I' : Nat → Nat → Nat → Int32} {N' : sN} {h' : sH} {mk' : List sN} {c : Nat}
abbrev vL_law : xY := (yL_law, cL_law, 7, some .boolean)
abbrev scA (G : xG) : Nat := G.2.2.2.2.1 2
abbrev scN (G : xG) : Nat := G.2.2.2.2.1 3
abbrev scX (G : xG) (j : Nat) : Int32 := nI (G.2.2.2.2.1 (4 + j))
/-- the class's side -/
def CI (V : sV) (N : sN) (h : sH) (mk : List sN) (T : Nat → Nat) (n q fa w : Nat) (I : Nat → Nat → Nat → Int32) : Prop := XS V N h mk I ∧ XT T n I ∧ I 11 0 12 = nI q ∧ I 11 0 13 = nI fa ∧ (q = 4 → I 11 0 14 = nI w)
/-- the model's side -/
def MI (V : sV) (N : sN) (h : sH) (mk : List sN) (T : Nat → Nat) (n q fa w nb : Nat) (b : Option Nat) (I : Nat → Nat → Nat → Int32) : Prop := YO V nb b I ∧ YS V N h mk I ∧ YT T n I ∧ I 13 0 1 = nI q ∧ I 13 0 13 = nI fa ∧ I 13 0 2 = (if q = 4 then nI w else -1)
def IV (V : sV) (N : sN) (h : sH) (mk : List sN) (T : Nat → Nat) (n q fa w nb : Nat) (b r : Option Nat) (I : Nat → Nat → Nat → Int32) : Prop := (SW V N h mk ∧ (0 < V 0 7 0 → 0 < V 0 0 0) ∧ (∀ i, T i < 256) ∧ (b = none → h = [] ∧ mk = []) ∧ (∀ i, r = some i → i < nb) ∧ q < 100) ∧ CI V N h mk T n q fa w I ∧ MI V N h mk T n q fa w nb b I
theorem XT.sm {T : Nat → Nat} (h : XT T n I) (h1 : I' 11 0 1 = I 11 0 1) (h2 : I' 14 = I 14) : XT T n I' := by unfold XT at h ⊢; rw [h1, h2]; exact h
theorem YT.sm {T : Nat → Nat} (h : YT T n I) (h1 : I' 13 0 6 = I 13 0 6) (h2 : I' 84 = I 84) : YT T n I' := by unfold YT at h ⊢; rw [h1, h2]; exact h
theorem CI.fr (h0 : CI V N h mk T n q fa w I) (hs : ∀ s, s < 64 → s ≠ 12 → s ≠ 13 → I' s = I s) : CI V N h mk T n q fa w I' := by
  have e := hs 11 (by omega) (by omega) (by omega)
  exact ⟨h0.1.sm (fun s h => hs s (by omega) (by omega) (by omega)), h0.2.1.sm (by rw [e]) (hs 14 (by omega) (by omega) (by omega)), by rw [e]; exact h0.2.2.1, by rw [e]; exact h0.2.2.2.1, by rw [e]; exact h0.2.2.2.2⟩
theorem MI.fr (h0 : MI V N h mk T n q fa w nb b I) (hs : ∀ s, s = 12 ∨ s = 13 ∨ 64 ≤ s → I' s = I s) : MI V N h mk T n q fa w nb b I' := by
  have e := hs 13 (by omega)
  exact ⟨h0.1.sm (fun s h => hs s (by omega)), ⟨h0.2.1.1.sm (hs 85 (by omega)), h0.2.1.2.1.sm (hs 86 (by omega)) (by rw [e]), h0.2.1.2.2.sm (hs 87 (by omega)) (by rw [e])⟩, h0.2.2.1.sm (by rw [e]) (hs 84 (by omega)), by rw [e]; exact h0.2.2.2.1, by rw [e]; exact h0.2.2.2.2.1, by rw [e]; exact h0.2.2.2.2.2⟩
theorem CI.kx (h0 : CI V N h mk T n q fa w I) (hk : KX I I' c) (hc : c ≠ 4) : CI V N h mk T n c fa w I' :=
  ⟨h0.1.sm (fun s h => hk.1 s (by unfold scr; omega) (by omega)), h0.2.1.sm (hk.2.2 1 (by decide)) (hk.1 14 (by unfold scr; omega) (by decide)), hk.2.1, (hk.2.2 13 (by decide)).trans h0.2.2.2.1, fun z => absurd z hc⟩
theorem CI.ky (h0 : CI V N h mk T n q fa w I) (hX : XS V N' h' mk' I') (hk : KY I I' c) (hc : c ≠ 4) : CI V N' h' mk' T n c fa w I' :=
  ⟨hX, h0.2.1.sm (hk.2.2 1 (by decide)) (hk.1 14 (by unfold scr; omega) (by decide) (by decide) (by decide) (by decide) (by decide)), hk.2.1, (hk.2.2 13 (by decide)).trans h0.2.2.2.1, fun z => absurd z hc⟩
theorem kx_m (hk : KX I I' c) : ∀ s, s = 12 ∨ s = 13 ∨ 64 ≤ s → I' s = I s := fun s h => hk.1 s (by unfold scr; omega) (by omega)
theorem ky_m (hk : KY I I' c) : ∀ s, s = 12 ∨ s = 13 ∨ 64 ≤ s → I' s = I s := fun s h => hk.1 s (by unfold scr; omega) (by omega) (by omega) (by omega) (by omega) (by omega)
theorem km_c (hk : KM I I' c) : ∀ s, s < 64 → s ≠ 12 → s ≠ 13 → I' s = I s := fun s h1 h2 h3 => hk.1 s (by unfold msc; omega) h3
theorem kz_c (hk : KZ I I' c) : ∀ s, s < 64 → s ≠ 12 → s ≠ 13 → I' s = I s := fun s h1 h2 h3 => hk.1 s (by unfold msc; omega) h3 (by omega) (by omega) (by omega)
theorem MI.km (h0 : MI V N h mk T n q fa w nb b I) (hk : KM I I' c) (hc : c ≠ 4) : MI V N h mk T n c fa w nb b I' :=
  ⟨h0.1.sm (fun s h => hk.1 s (by unfold msc; omega) (by omega)), ⟨h0.2.1.1.sm (hk.1 85 (by unfold msc; omega) (by decide)), h0.2.1.2.1.sm (hk.1 86 (by unfold msc; omega) (by decide)) (hk.2.2 19 (by decide) (by decide)), h0.2.1.2.2.sm (hk.1 87 (by unfold msc; omega) (by decide)) (hk.2.2 20 (by decide) (by decide))⟩, h0.2.2.1.sm (hk.2.2 6 (by decide) (by decide)) (hk.1 84 (by unfold msc; omega) (by decide)), hk.2.1.2.1, (hk.2.2 13 (by decide) (by decide)).trans h0.2.2.2.2.1, by rw [if_neg hc]; exact hk.2.1.2.2⟩
theorem MI.kz (h0 : MI V N h mk T n q fa w nb b I) (hY : YS V N' h' mk' I') (hk : KZ I I' c) (hc : c ≠ 4) : MI V N' h' mk' T n c fa w nb b I' :=
  ⟨h0.1.sm (fun s h => hk.1 s (by unfold msc; omega) (by omega) (by omega) (by omega) (by omega)), hY, h0.2.2.1.sm (hk.2.2 6 (by decide) (by decide) (by decide) (by decide)) (hk.1 84 (by unfold msc; omega) (by decide) (by decide) (by decide) (by decide)), hk.2.1.2.1, (hk.2.2 13 (by decide) (by decide) (by decide) (by decide)).trans h0.2.2.2.2.1, by rw [if_neg hc]; exact hk.2.1.2.2⟩
theorem MI.t0 {z : Int32} (h0 : MI V N h mk T n q fa w nb b I) : MI V N h mk T n q fa w nb b (xu I 13 0 0 z) := by
  have e : ∀ s, s ≠ 13 → xu I 13 0 0 z s = I s := fun s hs => by funext x y; rw [xu_ns hs]
  refine ⟨h0.1.sm (fun s h => e s (by omega)), ⟨h0.2.1.1.sm (e 85 (by decide)), h0.2.1.2.1.sm (e 86 (by decide)) (xu_nk (by decide)), h0.2.1.2.2.sm (e 87 (by decide)) (xu_nk (by decide))⟩, h0.2.2.1.sm (xu_nk (by decide)) (e 84 (by decide)), ?_, ?_, ?_⟩
  · rw [xu_nk (by decide)]; exact h0.2.2.2.1
  · rw [xu_nk (by decide)]; exact h0.2.2.2.2.1
  · rw [xu_nk (by decide)]; exact h0.2.2.2.2.2
theorem t0_c {z : Int32} : ∀ s, s < 64 → s ≠ 12 → s ≠ 13 → xu I 13 0 0 z s = I s := fun s h1 h2 h3 => by funext x y; rw [xu_ns h3]
theorem IV.wh (hI : IV V N h mk T n q fa w nb b r I) : (if I 11 0 12 = nI 4 then I 11 0 14 else -1) = I 13 0 2 := by
  obtain ⟨⟨-, -, -, -, -, hq⟩, hC, hM⟩ := hI
  rw [hM.2.2.2.2.2, hC.2.2.1]
  by_cases z : q = 4
  · rw [if_pos z, if_pos (by rw [z]), hC.2.2.2.2 z]
  · rw [if_neg z, if_neg (fun y => z ((nI_eq (by omega) (by omega)).mp y))]
def qok (a : Int32 × Nat) : Prop := a.2 < 100 ∧ a.2 ≠ 4
theorem qk_0 {v : Int32} : ((v, 0) : Int32 × Nat).2 < 100 ∧ ((v, 0) : Int32 × Nat).2 ≠ 4 := ⟨show 0 < 100 by decide, show 0 ≠ 4 by decide⟩
theorem qk_1 {v : Int32} : ((v, 1) : Int32 × Nat).2 < 100 ∧ ((v, 1) : Int32 × Nat).2 ≠ 4 := ⟨show 1 < 100 by decide, show 1 ≠ 4 by decide⟩
theorem qk_2 {v : Int32} : ((v, 2) : Int32 × Nat).2 < 100 ∧ ((v, 2) : Int32 × Nat).2 ≠ 4 := ⟨show 2 < 100 by decide, show 2 ≠ 4 by decide⟩
theorem qk_3 {v : Int32} : ((v, 3) : Int32 × Nat).2 < 100 ∧ ((v, 3) : Int32 × Nat).2 ≠ 4 := ⟨show 3 < 100 by decide, show 3 ≠ 4 by decide⟩
theorem qk_5 {v : Int32} : ((v, 5) : Int32 × Nat).2 < 100 ∧ ((v, 5) : Int32 × Nat).2 ≠ 4 := ⟨show 5 < 100 by decide, show 5 ≠ 4 by decide⟩
theorem qk_6 {v : Int32} : ((v, 6) : Int32 × Nat).2 < 100 ∧ ((v, 6) : Int32 × Nat).2 ≠ 4 := ⟨show 6 < 100 by decide, show 6 ≠ 4 by decide⟩

theorem qo_smell {z1 z2 : Int32} : qok (a_smell V z1 z2) := by
  unfold qok a_smell
  split
  · exact qk_0
  · exact qk_1
theorem qo_place {z1 z2 : Int32} : qok (a_place V z1 z2) := by
  unfold qok a_place
  split
  · exact qk_0
  · exact qk_1
theorem qo_traveller {z1 z2 : Int32} : qok (a_traveller V N z1 z2) := by
  unfold qok a_traveller
  split
  · exact qk_0
  · exact qk_1
theorem qo_path {z1 z2 : Int32} : qok (a_path V z1 z2) := by
  unfold qok a_path
  split
  · exact qk_0
  · exact qk_1
theorem qo_strength {z1 z2 z3 : Int32} : qok (a_strength V N z1 z2 z3) := by
  unfold qok a_strength a_bh
  have hw : ∀ so, (wnb V z1 so z2 z3) < 100 ∧ wnb V z1 so z2 z3 ≠ 4 := fun so => by unfold wnb; (repeat' split) <;> exact ⟨by decide, by decide⟩
  split
  · exact qk_0
  · exact hw _
theorem qo_covered {z1 z2 z3 : Int32} : qok (a_covered V N z1 z2 z3) := by
  unfold qok a_covered a_bh
  have hw : ∀ so, (wnb V z1 so z2 z3) < 100 ∧ wnb V z1 so z2 z3 ≠ 4 := fun so => by unfold wnb; (repeat' split) <;> exact ⟨by decide, by decide⟩
  split
  · exact qk_0
  · exact hw _
theorem qo_smelt {z1 z2 z3 : Int32} : qok (a_smelt V N z1 z2 z3) := by
  unfold qok a_smelt a_bh
  have hw : ∀ so, (wnb V z1 so z2 z3) < 100 ∧ wnb V z1 so z2 z3 ≠ 4 := fun so => by unfold wnb; (repeat' split) <;> exact ⟨by decide, by decide⟩
  split
  · exact qk_0
  · exact hw _
theorem qo_duty {z1 z2 z3 : Int32} : qok (a_duty V N z1 z2 z3) := by
  unfold qok a_duty a_bh
  have hw : ∀ so, (wnb V z1 so z2 z3) < 100 ∧ wnb V z1 so z2 z3 ≠ 4 := fun so => by unfold wnb; (repeat' split) <;> exact ⟨by decide, by decide⟩
  split
  · exact qk_0
  · exact hw _
theorem qo_claim {z1 z2 : Int32} : qok (a_claim V N z1 z2) := by
  unfold qok a_claim
  (repeat' split) <;> (first | exact qk_0 | exact qk_1 | exact qk_2 | exact qk_3 | exact qk_5 | exact qk_6)
theorem qo_gone {z1 z2 : Int32} : qok (a_gone V N z1 z2) := by
  unfold qok a_gone
  (repeat' split) <;> (first | exact qk_0 | exact qk_1 | exact qk_2 | exact qk_3 | exact qk_5 | exact qk_6)
theorem qo_mustWait {z1 z2 : Int32} : qok (a_mustWait V N z1 z2) := by
  unfold qok a_mustWait
  (repeat' split) <;> (first | exact qk_0 | exact qk_1 | exact qk_2 | exact qk_3 | exact qk_5 | exact qk_6)
theorem qo_walked {z1 : Int32} : qok (a_walked V N z1) := by
  unfold qok a_walked
  (repeat' split) <;> (first | exact qk_0 | exact qk_1 | exact qk_2 | exact qk_3 | exact qk_5 | exact qk_6)
theorem qo_walkedAt {z1 z2 : Int32} : qok (a_walkedAt V N z1 z2) := by
  unfold qok a_walkedAt
  (repeat' split) <;> (first | exact qk_0 | exact qk_1 | exact qk_2 | exact qk_3 | exact qk_5 | exact qk_6)
theorem qo_judge : qok (a_judge V N) := by
  unfold qok a_judge
  (repeat' split) <;> (first | exact qk_0 | exact qk_1 | exact qk_2 | exact qk_3 | exact qk_5 | exact qk_6)
theorem qo_wrongly : qok (a_wrongly V N) := by
  unfold qok a_wrongly
  (repeat' split) <;> (first | exact qk_0 | exact qk_1 | exact qk_2 | exact qk_3 | exact qk_5 | exact qk_6)
theorem qo_way {z1 z2 : Int32} {k : Nat} : qok (a_way V N k z1 z2) := by
  unfold qok a_way
  split
  · exact qk_0
  · exact qk_1
theorem qo_wayAt {z1 z2 z3 z4 : Int32} : qok (a_wayAt V N z1 z2 z3 z4) := by
  unfold qok a_wayAt
  (repeat' split) <;> (first | exact qk_0 | exact qk_1 | exact qk_2 | exact qk_3 | exact qk_5 | exact qk_6)
theorem qo_rounds : qok (a_rounds V N) := by
  unfold qok a_rounds
  (repeat' split) <;> (first | exact qk_0 | exact qk_1 | exact qk_2 | exact qk_3 | exact qk_5 | exact qk_6)
theorem qo_cover {z1 z2 z3 : Int32} : qok (a_cover V N z1 z2 z3) := by
  unfold qok a_cover
  split
  · exact qk_0
  · exact qk_1
theorem qo_been : qok (a_been V) := by
  unfold qok a_been
  have hw : wnt V < 100 ∧ wnt V ≠ 4 := by unfold wnt; (repeat' split) <;> exact ⟨by decide, by decide⟩
  (repeat' split) <;> first | exact hw | exact qk_0 | exact qk_1
theorem qo_could : qok (a_could V) := by
  unfold qok a_could
  have hw : wnt V < 100 ∧ wnt V ≠ 4 := by unfold wnt; (repeat' split) <;> exact ⟨by decide, by decide⟩
  (repeat' split) <;> first | exact hw | exact qk_0 | exact qk_1
theorem qo_surely : qok (a_surely V) := by
  unfold qok a_surely
  have hw : wnt V < 100 ∧ wnt V ≠ 4 := by unfold wnt; (repeat' split) <;> exact ⟨by decide, by decide⟩
  split
  · exact qk_0
  · exact hw
theorem qo_beenAt {z1 : Int32} : qok (a_beenAt V z1) := by
  unfold qok a_beenAt
  have hw : wnt V < 100 ∧ wnt V ≠ 4 := by unfold wnt; (repeat' split) <;> exact ⟨by decide, by decide⟩
  (repeat' split) <;> first | exact hw | exact qk_0 | exact qk_1
theorem qo_posts : qok (a_posts V N) := by
  unfold qok a_posts
  (repeat' split) <;> (first | exact qk_0 | exact qk_1 | exact qk_2 | exact qk_3 | exact qk_5 | exact qk_6)
theorem qo_postOf {z1 : Int32} : qok (a_postOf V N z1) := by
  unfold qok a_postOf
  (repeat' split) <;> (first | exact qk_0 | exact qk_1 | exact qk_2 | exact qk_3 | exact qk_5 | exact qk_6)
theorem qo_rests {z1 z2 : Int32} : qok (a_rests V N z1 z2) := by
  unfold qok a_rests
  have hw : wng V N z1 z2 < 100 ∧ wng V N z1 z2 ≠ 4 := by unfold wng; (repeat' split) <;> exact ⟨by decide, by decide⟩
  split
  · exact qk_0
  · exact hw
theorem qo_rest {z1 z2 : Int32} : qok (a_rest V N z1 z2) := by
  unfold qok a_rest
  have hw : wng V N z1 z2 < 100 ∧ wng V N z1 z2 ≠ 4 := by unfold wng; (repeat' split) <;> exact ⟨by decide, by decide⟩
  split
  · exact qk_0
  · exact hw
theorem qo_winds {z1 z2 z3 : Int32} : qok (a_winds V N z1 z2 z3) := by
  unfold qok a_winds
  (repeat' split) <;> (first | exact qk_0 | exact qk_1 | exact qk_2 | exact qk_3 | exact qk_5 | exact qk_6)
theorem qo_windDuty {z1 z2 z3 z4 : Int32} : qok (a_windDuty V N z1 z2 z3 z4) := by
  unfold qok a_windDuty
  (repeat' split) <;> (first | exact qk_0 | exact qk_1 | exact qk_2 | exact qk_3 | exact qk_5 | exact qk_6)

/-- what an act leaves -/
def aok (V : sV) (h : sH) (mk : List sN) (a : (Int32 × Nat) × sN × sH × List sN) : Prop := SW V a.2.1 a.2.2.1 a.2.2.2 ∧ (V 0 7 0 = 0 → V 0 0 0 = 0 → h = [] ∧ mk = [] → a.2.2.1 = [] ∧ a.2.2.2 = []) ∧ qok a.1
theorem sw_up {t : Nat} {f : Nat → Nat} (hS : SW V N h mk) (ht : t < V 0 7 0) (h0 : f 0 < V 0 4 0) (hf : ∀ s, s < 6 → f (3 + s) ≤ 198) : SW V (upN N t f) (kp N h t) mk := by
  refine ⟨hS.1, fun u hu => ?_, fun q hq => ?_, hS.2.2.2⟩
  · unfold upN
    by_cases z : u = t
    · rw [if_pos z]; exact ⟨h0, hf⟩
    · rw [if_neg z]; exact hS.2.1 u hu
  · rcases List.mem_cons.mp (List.mem_of_mem_take hq) with rfl | hq
    · exact ⟨ht, hS.2.1 t ht⟩
    · exact hS.2.2.1 q hq
theorem in0 {z : Int32} {k : Nat} (hk : k = 0) : inr z k = false := by
  cases hz : inr z k with
  | false => rfl
  | true => obtain ⟨j, hj, -⟩ := inr_of hz (by omega); omega
theorem pas_le {f : Nat → Nat} {H s : Nat} (hf : f (3 + s) ≤ 198) : pas V f H (3 + s) ≤ 198 := by
  unfold pas
  rw [if_neg (by omega)]
  split <;> omega
theorem ao_waits {z1 z2 : Int32} (hS : SW V N h mk) : aok V h mk (t_waits V N h mk z1 z2) := by
  have v7 := hS.1.2.2.2.2.2.2.2.1
  unfold t_waits
  by_cases g : inr z1 (V 0 7 0) = true
  · rw [if_pos g]
    obtain ⟨t, ht, rfl⟩ := inr_of g (by omega)
    by_cases g2 : wth z2 1 99 = true
    · rw [if_pos g2, zN_nI (by omega)]
      exact ⟨sw_up hS ht (hS.2.1 t ht).1 (fun s hs => pas_le ((hS.2.1 t ht).2 s hs)), fun z => absurd ht (by omega), (by first | exact qk_0 | exact qk_1 | exact qk_2 | exact qk_3 | exact qk_5 | exact qk_6)⟩
    · rw [if_neg g2]; exact ⟨hS, fun _ _ z => z, (by first | exact qk_0 | exact qk_1 | exact qk_2 | exact qk_3 | exact qk_5 | exact qk_6)⟩
  · rw [if_neg g]; exact ⟨hS, fun _ _ z => z, (by first | exact qk_0 | exact qk_1 | exact qk_2 | exact qk_3 | exact qk_5 | exact qk_6)⟩
theorem ao_go {z1 z2 : Int32} (hS : SW V N h mk) : aok V h mk (t_go V N h mk z1 z2) := by
  have v7 := hS.1.2.2.2.2.2.2.2.1
  have v4 := hS.1.2.2.2.2.1
  unfold t_go
  by_cases g : (inr z1 (V 0 7 0) && inr z2 (V 0 4 0)) = true
  · rw [if_pos g]
    rw [Bool.and_eq_true] at g
    obtain ⟨t, ht, rfl⟩ := inr_of g.1 (by omega)
    obtain ⟨p, hp, rfl⟩ := inr_of g.2 (by omega)
    rw [zN_nI (by omega), zN_nI (by omega)]
    split
    · exact ⟨hS, fun _ _ z => z, (by first | exact qk_0 | exact qk_1 | exact qk_2 | exact qk_3 | exact qk_5 | exact qk_6)⟩
    · refine ⟨sw_up hS ht hp (fun s hs => ?_), fun z => absurd ht (by omega), (by first | exact qk_0 | exact qk_1 | exact qk_2 | exact qk_3 | exact qk_5 | exact qk_6)⟩
      show (if 3 + s = 1 then _ else if 3 + s = 0 then _ else _) ≤ 198
      rw [if_neg (by omega), if_neg (by omega)]
      exact pas_le ((hS.2.1 t ht).2 s hs)
  · rw [if_neg g]; exact ⟨hS, fun _ _ z => z, (by first | exact qk_0 | exact qk_1 | exact qk_2 | exact qk_3 | exact qk_5 | exact qk_6)⟩
theorem ao_spray {z1 z2 z3 : Int32} (hS : SW V N h mk) : aok V h mk (t_spray V N h mk z1 z2 z3) := by
  have v7 := hS.1.2.2.2.2.2.2.2.1
  have v2 := hS.1.2.2.1
  unfold t_spray
  by_cases g : (inr z1 (V 0 7 0) && inr z2 (V 0 2 0)) = true
  · rw [if_pos g]
    rw [Bool.and_eq_true] at g
    obtain ⟨t, ht, rfl⟩ := inr_of g.1 (by omega)
    obtain ⟨p, hp, rfl⟩ := inr_of g.2 (by omega)
    rw [zN_nI (by omega), zN_nI (by omega)]
    by_cases g3 : wth z3 0 99 = true
    · rw [if_pos g3]
      obtain ⟨c, -, hc, rfl⟩ := wth_of g3 (by omega) (by omega)
      rw [zN_nI (by omega)]
      split
      · exact ⟨hS, fun _ _ z => z, (by first | exact qk_0 | exact qk_1 | exact qk_2 | exact qk_3 | exact qk_5 | exact qk_6)⟩
      · refine ⟨sw_up hS ht ?_ (fun s hs => ?_), fun z => absurd ht (by omega), (by first | exact qk_0 | exact qk_1 | exact qk_2 | exact qk_3 | exact qk_5 | exact qk_6)⟩
        · show (if 0 = 3 + p then _ else _) < _
          rw [if_neg (by omega)]; exact (hS.2.1 t ht).1
        · show (if 3 + s = 3 + p then _ else _) ≤ 198
          split
          · omega
          · exact (hS.2.1 t ht).2 s hs
    · rw [if_neg g3]; exact ⟨hS, fun _ _ z => z, (by first | exact qk_0 | exact qk_1 | exact qk_2 | exact qk_3 | exact qk_5 | exact qk_6)⟩
  · rw [if_neg g]; exact ⟨hS, fun _ _ z => z, (by first | exact qk_0 | exact qk_1 | exact qk_2 | exact qk_3 | exact qk_5 | exact qk_6)⟩
theorem ao_wash {z1 : Int32} (hS : SW V N h mk) : aok V h mk (t_wash V N h mk z1) := by
  have v7 := hS.1.2.2.2.2.2.2.2.1
  unfold t_wash
  by_cases g : inr z1 (V 0 7 0) = true
  · rw [if_pos g]
    obtain ⟨t, ht, rfl⟩ := inr_of g (by omega)
    rw [zN_nI (by omega)]
    split
    · refine ⟨sw_up hS ht ?_ (fun s hs => ?_), fun z => absurd ht (by omega), (by first | exact qk_0 | exact qk_1 | exact qk_2 | exact qk_3 | exact qk_5 | exact qk_6)⟩
      · exact (hS.2.1 t ht).1
      · show (if 3 + s < 3 then _ else N t (3 + s) / 2) ≤ 198
        rw [if_neg (by omega)]
        have := (hS.2.1 t ht).2 s hs
        omega
    · exact ⟨hS, fun _ _ z => z, (by first | exact qk_0 | exact qk_1 | exact qk_2 | exact qk_3 | exact qk_5 | exact qk_6)⟩
  · rw [if_neg g]; exact ⟨hS, fun _ _ z => z, (by first | exact qk_0 | exact qk_1 | exact qk_2 | exact qk_3 | exact qk_5 | exact qk_6)⟩
theorem ao_undo (hS : SW V N h mk) : aok V h mk (t_undo N h mk) := by
  cases h with
  | nil => exact ⟨hS, fun _ _ z => z, (by first | exact qk_0 | exact qk_1 | exact qk_2 | exact qk_3 | exact qk_5 | exact qk_6)⟩
  | cons q h' =>
    have hq := hS.2.2.1 q List.mem_cons_self
    refine ⟨⟨hS.1, fun u hu => ?_, fun z hz => hS.2.2.1 z (List.mem_cons_of_mem _ hz), hS.2.2.2⟩, fun _ _ z => (by cases z.1), (by first | exact qk_0 | exact qk_1 | exact qk_2 | exact qk_3 | exact qk_5 | exact qk_6)⟩
    show upN N q.1 q.2 u 0 < _ ∧ ∀ s, s < 6 → upN N q.1 q.2 u (3 + s) ≤ 198
    unfold upN
    by_cases z : u = q.1
    · rw [if_pos z]; exact hq.2
    · rw [if_neg z]; exact hS.2.1 u hu
theorem ao_mark (hS : SW V N h mk) : aok V h mk (t_mark V N h mk) := by
  unfold t_mark
  by_cases g : 0 < V 0 0 0
  · rw [if_pos g]
    split
    · refine ⟨⟨hS.1, hS.2.1, hS.2.2.1, fun q hq => ?_⟩, fun _ z => absurd z (by omega), (by first | exact qk_0 | exact qk_1 | exact qk_2 | exact qk_3 | exact qk_5 | exact qk_6)⟩
      rcases List.mem_append.mp hq with hq | hq
      · exact hS.2.2.2 q hq
      · rw [List.mem_singleton.mp hq]; exact hS.2.1
    · exact ⟨hS, fun _ _ z => z, (by first | exact qk_0 | exact qk_1 | exact qk_2 | exact qk_3 | exact qk_5 | exact qk_6)⟩
  · rw [if_neg g]; exact ⟨hS, fun _ _ z => z, (by first | exact qk_0 | exact qk_1 | exact qk_2 | exact qk_3 | exact qk_5 | exact qk_6)⟩
theorem ao_back {z1 : Int32} (hS : SW V N h mk) (hmk : mk.length < 2 ^ 31) : aok V h mk (t_back N h mk z1) := by
  unfold t_back
  by_cases g : inr z1 mk.length = true
  · rw [if_pos g]
    obtain ⟨j, hj, rfl⟩ := inr_of g hmk
    rw [zN_nI (by omega)]
    refine ⟨⟨hS.1, ?_, fun q hq => (by cases hq), hS.2.2.2⟩, fun _ _ z => ⟨rfl, z.2⟩, (by first | exact qk_0 | exact qk_1 | exact qk_2 | exact qk_3 | exact qk_5 | exact qk_6)⟩
    refine hS.2.2.2 _ ?_
    show mk.getD j N ∈ mk
    rw [List.getD_eq_getElem?_getD, List.getElem?_eq_getElem hj]
    exact List.getElem_mem hj
  · rw [if_neg g]; exact ⟨hS, fun _ _ z => z, (by first | exact qk_0 | exact qk_1 | exact qk_2 | exact qk_3 | exact qk_5 | exact qk_6)⟩
theorem sw_n0 {s : pS} (h : PC s) : SW s.1 (N0 s.1) [] [] := by
  have hV := h.1.1
  have h11 := hV.2.2.2.2.2.2.2.2.2.2.2.2.2.2.2.2.2.2.1
  have h12 := hV.2.2.2.2.2.2.2.2.2.2.2.2.2.2.2.2.2.2.2.1
  refine ⟨hV, fun t ht => ⟨(h11 t ht).2.2, fun k _ => ?_⟩, fun q hq => (by cases hq), fun q hq => (by cases hq)⟩
  have := h12 t k
  show (if 3 + k = 0 then _ else if 3 + k < 3 then 0 else 2 * s.1 12 t (3 + k - 3)) ≤ 198
  rw [if_neg (by omega), if_neg (by omega), Nat.add_sub_cancel_left]; omega
theorem fed_lt {z1 z2 z3 z4 z5 : Int32} (hT : ∀ i, T i < 256) : ∀ i, fed T n z1 z2 z3 z4 z5 i < 256 := by
  have ly : ∀ (T : Nat → Nat) (n : Nat) (z : Int32), (∀ i, T i < 256) → ∀ i, lyT T n z i < 256 := fun T n z hT i => by
    unfold lyT
    split
    · exact byN_lt
    · exact hT i
  exact ly _ _ _ (ly _ _ _ (ly _ _ _ (ly _ _ _ (ly _ _ _ hT))))
/-! rows of the law -/
end M55
section M55b
variable {G : xG} {y : xY} {d : Nat} {b1 b2 : Nat} {B B' : Nat × Nat} {pc idx j : Nat} {ls : List (Nat × Option Value)} {st : List Value} {M : xM} {Q : xTg}
theorem x_bud (h1 : B'.1 ≤ B.1) (h2 : B'.2 ≤ B.2) (k : X G y d B' pc ls st M Q) : X G y d B pc ls st M Q := by
  intro p l e RM s m args below meth c H locs cells slots lsA hC hR hH hS hc hs hl
  exact k p l e RM s m args below meth c H locs cells slots lsA hC hR hH hS (Nat.le_trans (Nat.add_le_add_left h1 _) hc) (Nat.le_trans (Nat.add_le_add_left h2 _) hs) hl
theorem x_scrL {z : Int32} (hd : decode y.2.1 pc = .ok (.iaload, 1)) (hz : z = nI j) (hj : j < scN G ∧ scN G ≤ 3072) (kk : X G y d B (pc + 1) ls (.int (scX G j) :: st) M Q) : X G y d B pc ls (.int z :: .ref (scA G) :: st) M Q := by
  subst hz
  intro p l e RM s m args below meth c H locs cells slots lsA hC hR hH hS hc hs hl
  have hcl : (nI j).toNatClampNeg = j := nI_clamp (by omega)
  exact va_ti hC.1 hC.2.1 hC.2.2.2.2.2.2.2.2.2.1.2.2.2.2.2.2.2.2.2.2.2 hS (vp_in_nI hj.1 (Nat.lt_of_le_of_lt hj.2 (by decide))) (by rw [hcl]) hd (kk p l e RM s m args below meth c H locs cells slots lsA hC hR hH hS hc hs hl)
theorem x_sclen (hd : decode y.2.1 pc = .ok (.arraylength, 1)) (kk : X G y d B (pc + 1) ls (.int (nI (scN G)) :: st) M Q) : X G y d B pc ls (.ref (scA G) :: st) M Q := by
  intro p l e RM s m args below meth c H locs cells slots lsA hC hR hH hS hc hs hl
  exact va_tlen hC.1 hC.2.1 hC.2.2.2.2.2.2.2.2.2.1.2.2.2.2.2.2.2.2.2.2.2 hS rfl hd (kk p l e RM s m args below meth c H locs cells slots lsA hC hR hH hS hc hs hl)
theorem lw_gt {k L : Nat} (hk : k ≤ 3100) (hL : L ≤ 3072) (h0 : L < 6 → k = 0) : nI L - nI 6 < nI k ↔ L < k + 6 := by
  by_cases h : L < 6
  · have := h0 h
    subst this
    rcases (show L = 0 ∨ L = 1 ∨ L = 2 ∨ L = 3 ∨ L = 4 ∨ L = 5 by omega) with rfl | rfl | rfl | rfl | rfl | rfl <;> decide +kernel
  · have e : nI L - nI 6 = nI (L - 6) := by
      have h2 : nI L = nI (L - 6) + nI 6 := by rw [nI_add, Nat.sub_add_cancel (by omega)]
      rw [h2, Int32.add_sub_cancel]
    rw [e, nI_ltI (by omega) (by omega)]; omega
/-- the law's end -/
def QZ (G : xG) : xTg := fun below args s MC MS t => G.2.2.2.2.2 = s.heap.size → ∃ o, t.status = .running ∧ Ended t below o ∧ o = .returned (some (.int 1)) ∧ Framed s o t [] MC MS
theorem lw_retG {p : Program} {l : Launch} {e : Env} {R : Room} {s : State} {m : MethodId} {below : List Frame} {meth : Method} {c : Code} {args : Array Value} {locs : List Loc} {cells slots : Nat} (hx : p.tables.exec = Jvm.exec) (hb : c.code = code) (hr : meth.sig.returnType = some .boolean) (hlocks : meth.locks = false) {H : Heap} {ls : Array Slot} (hdg : decode code pc = .ok (.ireturn, 1)) : W p l e R s m args below meth c H locs cells slots (fun t => ∃ o, t.status = .running ∧ Ended t below o ∧ o = .returned (some (.int 1)) ∧ Framed s o t locs cells slots) (F0 m pc ls [.int 1]) := by
  intro T hT X
  obtain ⟨fs, hret, hrun, hended, hW, hframe⟩ := X.leave (v := some (.int 1)) (hlocks := hlocks) (fun h => by rw [hr] at h; cases h)
  have hmeth' : T.vm.method? m = some meth := X.method'
  refine ⟨T.setFrames fs, ?_, .returned (some (.int 1)), hrun, hended, rfl, ⟨_, rfl⟩, hW, hframe⟩
  jvm_step X.here [X.here.top, hx, hb, hdg, hmeth', hr, narrow_b1]
  (try refine ⟨rfl, ?_⟩); (try refine ⟨rfl, ?_⟩)
  first | (intro acts; rw [hret _ acts rfl rfl rfl]) | rw [hret _ _ rfl rfl rfl]
  exact Steps.refl _
theorem x_lawret (hd : decode cL_law pc = .ok (.ireturn, 1)) : X G vL_law d B pc ls [.int 1] M (QZ G) := by
  intro p l e RM s m args below meth c H locs cells slots lsA hC hR hH hS hc hs hl
  by_cases z : G.2.2.2.2.2 = s.heap.size
  · refine va_forget (fun q hq => by have := hS.2.2 q hq; rw [← z]; exact this) ?_
    intro T hT XS
    obtain ⟨t, a1, o, b1, b2, b3, b4⟩ := lw_retG (pc := pc) (ls := lsA) (H := H) hC.1 hC.2.1 hC.2.2.1 hC.2.2.2.2.2.2.1 hd T hT (stand_widen XS (Nat.le_trans (Nat.le_add_right _ _) hc) (Nat.le_trans (Nat.le_add_right _ _) hs))
    exact ⟨t, a1, fun _ => ⟨o, b1, b2, b3, b4⟩⟩
  · intro T hT XS
    obtain ⟨t, a1, -⟩ := lw_retG (pc := pc) (ls := lsA) (H := H) hC.1 hC.2.1 hC.2.2.1 hC.2.2.2.2.2.2.1 hd T hT XS
    exact ⟨t, a1, fun y => absurd y z⟩

end M55b
