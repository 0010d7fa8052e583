section M56
variable {G : xG} {ad : Nat → Nat → Nat} {nb : Nat} {b r : Option Nat} {L : Nat → Nat → Nat → Int64} {V : sV} {I : Nat → Nat → Nat → Int32} {d : Nat}

variable {N : sN} {h : sH} {mk : List sN} {T : Nat → Nat} {n q fa w f k : Nat}
/-- what comes behind a step -/
def LK (G : xG) (d f k a1 a2 a3 : Nat) : Prop := ∀ (V : sV) (N : sN) (h : sH) (mk : List sN) (T : Nat → Nat) (n q fa w : Nat) (ad : Nat → Nat → Nat) (nb : Nat) (b r : Option Nat) (I : Nat → Nat → Nat → Int32) (L : Nat → Nat → Nat → Int64), IV V N h mk T n q fa w nb b r I → (ad 11 0 = a1 ∧ ad 13 0 = a2 ∧ ad 103 0 = a3) → X G vL_law (d + 14) (22 * f, 400 * f) 1716 [(0, some (.ref (scA G))), (1, some (.ref a1)), (2, some (.ref a2)), (3, some (.ref a3)), (4, some (.int (nI k)))] [] (MM ad nb b r I L) (QZ G)
theorem lgc_self (a : Int64) : lg_cmp a a = 0 := by unfold lg_cmp; simp
theorem YO_z (hO : YO V nb b I) (hb : b = none) : V 0 7 0 = 0 ∧ V 0 0 0 = 0 := by
  rcases hO with ⟨-, hz⟩ | ⟨bi, h1, -⟩
  · exact ⟨hz 7 (by decide), hz 0 (by decide)⟩
  · rw [hb] at h1; cases h1
theorem Mt_feed {z1 z2 z3 z4 z5 : Int32} (hI : XT T n I) : Mt G vX11_feed (d + 1) (0, 0) [.ref (ad 11 0), .int z1, .int z2, .int z3, .int z4, .int z5] (MM ad nb b r I L) (qI (fun rr M' => rr = (if n + 20 ≤ 1100 then nI (n + 20) else -1) ∧ ∃ I', M' = MM ad nb b r I' L ∧ XT (if n + 20 ≤ 1100 then fed T n z1 z2 z3 z4 z5 else T) (if n + 20 ≤ 1100 then n + 20 else n) I' ∧ FT I I')) := by
  refine (x_feed_c hI).wk (fun v M' hv => ?_)
  obtain ⟨rr, rfl, hv⟩ := hv
  by_cases z : n + 20 ≤ 1100
  · have hv : if n + 20 ≤ 1100 then _ else _ := hv
    rw [if_pos z] at hv
    refine ⟨rr, rfl, ?_⟩
    show rr = ite _ _ _ ∧ _
    rw [if_pos z, if_pos z, if_pos z]
    exact hv
  · have hv : if n + 20 ≤ 1100 then _ else _ := hv
    rw [if_neg z] at hv
    refine ⟨rr, rfl, ?_⟩
    show rr = ite _ _ _ ∧ _
    rw [if_neg z, if_neg z, if_neg z]
    exact ⟨hv.1, I, hv.2, hI, fun _ _ _ => rfl, fun _ _ => rfl⟩
theorem Mt_mfeed {z1 z2 z3 z4 z5 : Int32} (hI : YT T n I) : Mt G vX13_feed d (0, 0) [.ref (ad 13 0), .int z1, .int z2, .int z3, .int z4, .int z5] (MM ad nb b r I L) (qI (fun rr M' => rr = (if n + 20 ≤ 1100 then nI (n + 20) else -1) ∧ ∃ I', M' = MM ad nb b r I' L ∧ YT (if n + 20 ≤ 1100 then fed T n z1 z2 z3 z4 z5 else T) (if n + 20 ≤ 1100 then n + 20 else n) I' ∧ FZ (xu I 13 0 0 (nI 0)) I')) := by
  refine (m_feed hI).wk (fun v M' hv => ?_)
  obtain ⟨rr, rfl, hv⟩ := hv
  by_cases z : n + 20 ≤ 1100
  · have hv : if n + 20 ≤ 1100 then _ else _ := hv
    rw [if_pos z] at hv
    refine ⟨rr, rfl, ?_⟩
    show rr = ite _ _ _ ∧ _
    rw [if_pos z, if_pos z, if_pos z]
    exact hv
  · have hv : if n + 20 ≤ 1100 then _ else _ := hv
    rw [if_neg z] at hv
    refine ⟨rr, rfl, ?_⟩
    show rr = ite _ _ _ ∧ _
    rw [if_neg z, if_neg z, if_neg z]
    exact ⟨hv.1, _, hv.2, hI.sm (xu_nk (by decide)) (by funext x y; rw [xu_ns (by decide)]), fun _ _ _ => rfl, fun _ _ => rfl⟩

set_option maxRecDepth 100000 in
set_option maxHeartbeats 600000 in
theorem lc_236 (hL : scN G ≤ 3072) (hk : k + 6 ≤ scN G) (hI : IV V N h mk T n q fa w nb b r I) (K : LK G d f k (ad 11 0) (ad 13 0) (ad 103 0)) : X G vL_law (d + 14) (22 * f + 22, 400 * f + 400) 236 [(0, some (.ref (scA G))), (1, some (.ref (ad 11 0))), (2, some (.ref (ad 13 0))), (3, some (.ref (ad 103 0))), (4, some (.int (nI k)))] [] (MM ad nb b r I L) (QZ G) := by
  obtain ⟨⟨hS, hz0, hT2, hn0, hrb, hq9⟩, hC, hM⟩ := id hI
  refine x_bud (B' := (22 * f, 400 * f)) (Nat.le_add_right _ _) (Nat.le_add_right _ _) ?_
  refine x_aload_n dL_law_236 rfl ?_
  refine x_aload_n dL_law_237 rfl ?_
  refine x_iload dL_law_238 rfl ?_
  refine x_iconst dL_law_240 li_1 ?_
  refine x_iaddN dL_law_241 ?_
  refine x_scrL dL_law_242 rfl (by first | exact Nat.le_of_ble_eq_true rfl | assumption | omega) ?_
  refine x_aload_n dL_law_243 rfl ?_
  refine x_iload dL_law_244 rfl ?_
  refine x_iconst dL_law_246 li_2 ?_
  refine x_iaddN dL_law_247 ?_
  refine x_scrL dL_law_248 rfl (by first | exact Nat.le_of_ble_eq_true rfl | assumption | omega) ?_
  refine x_aload_n dL_law_249 rfl ?_
  refine x_iload dL_law_250 rfl ?_
  refine x_iconst dL_law_252 li_3 ?_
  refine x_iaddN dL_law_253 ?_
  refine x_scrL dL_law_254 rfl (by first | exact Nat.le_of_ble_eq_true rfl | assumption | omega) ?_
  refine x_aload_n dL_law_255 rfl ?_
  refine x_iload dL_law_256 rfl ?_
  refine x_iconst dL_law_258 li_4 ?_
  refine x_iaddN dL_law_259 ?_
  refine x_scrL dL_law_260 rfl (by first | exact Nat.le_of_ble_eq_true rfl | assumption | omega) ?_
  refine x_aload_n dL_law_261 rfl ?_
  refine x_iload dL_law_262 rfl ?_
  refine x_iconst dL_law_264 li_5 ?_
  refine x_iaddN dL_law_265 ?_
  refine x_scrL dL_law_266 rfl (by first | exact Nat.le_of_ble_eq_true rfl | assumption | omega) ?_
  refine x_cvi (Mt_feed (d := d + 12) hC.2.1) kL_19 dL_law_267 rfl (Nat.le_of_ble_eq_true rfl) rfl rfl (Nat.le_of_ble_eq_true rfl) (fun ru Mu hq => ?_)
  obtain ⟨hru, I1, rfl, hT1, hf1⟩ := hq
  subst hru
  have m1 := hM.fr (I' := I1) (fun s hs => hf1.1 s (by omega) (by omega))
  refine x_aload_n dL_law_270 rfl ?_
  refine x_aload_n dL_law_271 rfl ?_
  refine x_iload dL_law_272 rfl ?_
  refine x_iconst dL_law_274 li_1 ?_
  refine x_iaddN dL_law_275 ?_
  refine x_scrL dL_law_276 rfl (by first | exact Nat.le_of_ble_eq_true rfl | assumption | omega) ?_
  refine x_aload_n dL_law_277 rfl ?_
  refine x_iload dL_law_278 rfl ?_
  refine x_iconst dL_law_280 li_2 ?_
  refine x_iaddN dL_law_281 ?_
  refine x_scrL dL_law_282 rfl (by first | exact Nat.le_of_ble_eq_true rfl | assumption | omega) ?_
  refine x_aload_n dL_law_283 rfl ?_
  refine x_iload dL_law_284 rfl ?_
  refine x_iconst dL_law_286 li_3 ?_
  refine x_iaddN dL_law_287 ?_
  refine x_scrL dL_law_288 rfl (by first | exact Nat.le_of_ble_eq_true rfl | assumption | omega) ?_
  refine x_aload_n dL_law_289 rfl ?_
  refine x_iload dL_law_290 rfl ?_
  refine x_iconst dL_law_292 li_4 ?_
  refine x_iaddN dL_law_293 ?_
  refine x_scrL dL_law_294 rfl (by first | exact Nat.le_of_ble_eq_true rfl | assumption | omega) ?_
  refine x_aload_n dL_law_295 rfl ?_
  refine x_iload dL_law_296 rfl ?_
  refine x_iconst dL_law_298 li_5 ?_
  refine x_iaddN dL_law_299 ?_
  refine x_scrL dL_law_300 rfl (by first | exact Nat.le_of_ble_eq_true rfl | assumption | omega) ?_
  refine x_cvi (Mt_mfeed (d := d + 13) m1.2.2.1) kL_23 dL_law_301 rfl (Nat.le_of_ble_eq_true rfl) rfl rfl (Nat.le_of_ble_eq_true rfl) (fun ru Mu hq => ?_)
  obtain ⟨hru, I2, rfl, hY2, hf2⟩ := hq
  subst hru
  have e13 : ∀ k, k ≠ 6 → k ≠ 0 → I2 13 0 k = I1 13 0 k := fun k h1 h2 => by rw [hf2.2 k h1, xu_nk h2]
  have es : ∀ s, s ≠ 84 → s ≠ 13 → I2 s = I1 s := fun s h1 h2 => by rw [hf2.1 s h1 h2]; funext x y; rw [xu_ns h2]
  refine x_ic_eq 1716 dL_law_304 (by decide) (fun h304 => ?_) (fun h304 => absurd rfl h304)
  refine x_ls ?_ (K V N h mk (if n + 20 ≤ 1100 then fed T n (scX G (k + 1)) (scX G (k + 2)) (scX G (k + 3)) (scX G (k + 4)) (scX G (k + 5)) else T) (if n + 20 ≤ 1100 then n + 20 else n) q fa w ad nb b r I2 L ⟨⟨hS, hz0, ?_, hn0, hrb, hq9⟩, ⟨(hC.1.sm (fun s hs => hf1.1 s (by omega) (by omega))).sm (fun s hs => es s (by omega) (by omega)), hT1.sm (by rw [es 11 (by decide) (by decide)]) (es 14 (by decide) (by decide)), ?_, ?_, fun z => ?_⟩, ⟨m1.1.sm (fun s hs => es s (by omega) (by omega)), ⟨m1.2.1.1.sm (es 85 (by decide) (by decide)), m1.2.1.2.1.sm (es 86 (by decide) (by decide)) (e13 19 (by decide) (by decide)), m1.2.1.2.2.sm (es 87 (by decide) (by decide)) (e13 20 (by decide) (by decide))⟩, hY2, (e13 1 (by decide) (by decide)).trans m1.2.2.2.1, (e13 13 (by decide) (by decide)).trans m1.2.2.2.2.1, (e13 2 (by decide) (by decide)).trans m1.2.2.2.2.2⟩⟩ ⟨rfl, rfl, rfl⟩)
  · exact ⟨rfl, rfl, rfl, rfl, rfl, trivial⟩
  · split
    · exact fed_lt hT2
    · exact hT2
  · rw [es 11 (by decide) (by decide), hf1.2 12 (by decide)]; exact hC.2.2.1
  · rw [es 11 (by decide) (by decide), hf1.2 13 (by decide)]; exact hC.2.2.2.1
  · rw [es 11 (by decide) (by decide), hf1.2 14 (by decide)]; exact hC.2.2.2.2 z
set_option maxRecDepth 100000 in
set_option maxHeartbeats 600000 in
theorem lc_334 (hL : scN G ≤ 3072) (hk : k + 6 ≤ scN G) (hI : IV V N h mk T n q fa w nb b r I) (K : LK G d f k (ad 11 0) (ad 13 0) (ad 103 0)) : X G vL_law (d + 14) (22 * f + 22, 400 * f + 400) 334 [(0, some (.ref (scA G))), (1, some (.ref (ad 11 0))), (2, some (.ref (ad 13 0))), (3, some (.ref (ad 103 0))), (4, some (.int (nI k)))] [] (MM ad nb b r I L) (QZ G) := by
  obtain ⟨⟨hS, hz0, hT2, hn0, hrb, hq9⟩, hC, hM⟩ := id hI
  refine x_bud (B' := (22 * f, 400 * f)) (Nat.le_add_right _ _) (Nat.le_add_right _ _) ?_
  refine x_aload_n dL_law_334 rfl ?_
  refine x_cvi (x_fault_c (d := d + 13)) kL_28 dL_law_335 rfl (Nat.le_of_ble_eq_true rfl) rfl rfl (Nat.le_of_ble_eq_true rfl) (fun ru Mu hq => ?_)
  obtain ⟨rfl, rfl⟩ := hq
  refine x_aload_n dL_law_338 rfl ?_
  refine x_cvi (m_fault (d := d + 13)) kL_32 dL_law_339 rfl (Nat.le_of_ble_eq_true rfl) rfl rfl (Nat.le_of_ble_eq_true rfl) (fun ru Mu hq => ?_)
  obtain ⟨rfl, rfl⟩ := hq
  refine x_ic_eq 1716 dL_law_342 (by decide) (fun h342 => ?_) (fun h342 => absurd (hC.2.2.2.1.trans hM.2.2.2.2.1.symm) h342)
  refine x_ls ?_ (K V N h mk T n q fa w ad nb b r (xu I 13 0 0 (nI 0)) _ ⟨⟨hS, hz0, hT2, hn0, hrb, hq9⟩, hC.fr t0_c, hM.t0⟩ ⟨rfl, rfl, rfl⟩)
  exact ⟨rfl, rfl, rfl, rfl, rfl, trivial⟩
set_option maxRecDepth 100000 in
set_option maxHeartbeats 600000 in
theorem lc_347 (hL : scN G ≤ 3072) (hk : k + 6 ≤ scN G) (hI : IV V N h mk T n q fa w nb b r I) (K : LK G d f k (ad 11 0) (ad 13 0) (ad 103 0)) : X G vL_law (d + 14) (22 * f + 22, 400 * f + 400) 347 [(0, some (.ref (scA G))), (1, some (.ref (ad 11 0))), (2, some (.ref (ad 13 0))), (3, some (.ref (ad 103 0))), (4, some (.int (nI k)))] [] (MM ad nb b r I L) (QZ G) := by
  obtain ⟨⟨hS, hz0, hT2, hn0, hrb, hq9⟩, hC, hM⟩ := id hI
  refine x_bud (B' := (22 * f, 400 * f)) (Nat.le_add_right _ _) (Nat.le_add_right _ _) ?_
  refine x_aload_n dL_law_347 rfl ?_
  refine x_cvi (x_where_c (d := d + 13)) kL_33 dL_law_348 rfl (Nat.le_of_ble_eq_true rfl) rfl rfl (Nat.le_of_ble_eq_true rfl) (fun ru Mu hq => ?_)
  obtain ⟨rfl, rfl⟩ := hq
  refine x_aload_n dL_law_351 rfl ?_
  refine x_cvi (m_where (d := d + 13)) kL_36 dL_law_352 rfl (Nat.le_of_ble_eq_true rfl) rfl rfl (Nat.le_of_ble_eq_true rfl) (fun ru Mu hq => ?_)
  obtain ⟨rfl, rfl⟩ := hq
  refine x_ic_eq 1716 dL_law_355 (by decide) (fun h355 => ?_) (fun h355 => absurd hI.wh h355)
  refine x_ls ?_ (K V N h mk T n q fa w ad nb b r (xu I 13 0 0 (nI 0)) _ ⟨⟨hS, hz0, hT2, hn0, hrb, hq9⟩, hC.fr t0_c, hM.t0⟩ ⟨rfl, rfl, rfl⟩)
  exact ⟨rfl, rfl, rfl, rfl, rfl, trivial⟩
set_option maxRecDepth 100000 in
set_option maxHeartbeats 600000 in
theorem lc_360 (hL : scN G ≤ 3072) (hk : k + 6 ≤ scN G) (hI : IV V N h mk T n q fa w nb b r I) (K : LK G d f k (ad 11 0) (ad 13 0) (ad 103 0)) : X G vL_law (d + 14) (22 * f + 22, 400 * f + 400) 360 [(0, some (.ref (scA G))), (1, some (.ref (ad 11 0))), (2, some (.ref (ad 13 0))), (3, some (.ref (ad 103 0))), (4, some (.int (nI k)))] [] (MM ad nb b r I L) (QZ G) := by
  obtain ⟨⟨hS, hz0, hT2, hn0, hrb, hq9⟩, hC, hM⟩ := id hI
  refine x_bud (B' := (22 * f, 400 * f)) (Nat.le_add_right _ _) (Nat.le_add_right _ _) ?_
  refine x_aload_n dL_law_360 rfl ?_
  refine x_aload_n dL_law_361 rfl ?_
  refine x_iload dL_law_362 rfl ?_
  refine x_iconst dL_law_364 li_1 ?_
  refine x_iaddN dL_law_365 ?_
  refine x_scrL dL_law_366 rfl (by first | exact Nat.le_of_ble_eq_true rfl | assumption | omega) ?_
  refine x_aload_n dL_law_367 rfl ?_
  refine x_iload dL_law_368 rfl ?_
  refine x_iconst dL_law_370 li_2 ?_
  refine x_iaddN dL_law_371 ?_
  refine x_scrL dL_law_372 rfl (by first | exact Nat.le_of_ble_eq_true rfl | assumption | omega) ?_
  refine x_cvi (x_smell_c (d := d + 11) hS hC.1) kL_37 dL_law_373 rfl (Nat.le_of_ble_eq_true rfl) rfl rfl (Nat.le_of_ble_eq_true rfl) (fun ru Mu hq => ?_)
  obtain ⟨hru, I1, rfl, hk1⟩ := hq
  subst hru
  have q4 := qo_smell (V := V) (z1 := scX G (k + 1)) (z2 := scX G (k + 2))
  have c1 := hC.kx hk1 q4.2
  have m1 := hM.fr (kx_m hk1)
  refine x_aload_n dL_law_376 rfl ?_
  refine x_aload_n dL_law_377 rfl ?_
  refine x_iload dL_law_378 rfl ?_
  refine x_iconst dL_law_380 li_1 ?_
  refine x_iaddN dL_law_381 ?_
  refine x_scrL dL_law_382 rfl (by first | exact Nat.le_of_ble_eq_true rfl | assumption | omega) ?_
  refine x_aload_n dL_law_383 rfl ?_
  refine x_iload dL_law_384 rfl ?_
  refine x_iconst dL_law_386 li_2 ?_
  refine x_iaddN dL_law_387 ?_
  refine x_scrL dL_law_388 rfl (by first | exact Nat.le_of_ble_eq_true rfl | assumption | omega) ?_
  refine x_cvi (m_smell (d := d + 12) hS.1 m1.1) kL_41 dL_law_389 rfl (Nat.le_of_ble_eq_true rfl) rfl rfl (Nat.le_of_ble_eq_true rfl) (fun ru Mu hq => ?_)
  obtain ⟨hru, I2, rfl, hk2⟩ := hq
  subst hru
  have m2 := m1.km hk2 q4.2
  have c2 := c1.fr (km_c hk2)
  refine x_ic_eq 1716 dL_law_392 (by decide) (fun h392 => ?_) (fun h392 => absurd rfl h392)
  refine x_ls ?_ (K V N h mk T n _ fa w ad nb b r I2 _ ⟨⟨hS, hz0, hT2, hn0, hrb, q4.1⟩, c2, m2⟩ ⟨rfl, rfl, rfl⟩)
  exact ⟨rfl, rfl, rfl, rfl, rfl, trivial⟩
set_option maxRecDepth 100000 in
set_option maxHeartbeats 600000 in
theorem lc_397 (hL : scN G ≤ 3072) (hk : k + 6 ≤ scN G) (hI : IV V N h mk T n q fa w nb b r I) (K : LK G d f k (ad 11 0) (ad 13 0) (ad 103 0)) : X G vL_law (d + 14) (22 * f + 22, 400 * f + 400) 397 [(0, some (.ref (scA G))), (1, some (.ref (ad 11 0))), (2, some (.ref (ad 13 0))), (3, some (.ref (ad 103 0))), (4, some (.int (nI k)))] [] (MM ad nb b r I L) (QZ G) := by
  obtain ⟨⟨hS, hz0, hT2, hn0, hrb, hq9⟩, hC, hM⟩ := id hI
  refine x_bud (B' := (22 * f, 400 * f)) (Nat.le_add_right _ _) (Nat.le_add_right _ _) ?_
  refine x_aload_n dL_law_397 rfl ?_
  refine x_aload_n dL_law_398 rfl ?_
  refine x_iload dL_law_399 rfl ?_
  refine x_iconst dL_law_401 li_1 ?_
  refine x_iaddN dL_law_402 ?_
  refine x_scrL dL_law_403 rfl (by first | exact Nat.le_of_ble_eq_true rfl | assumption | omega) ?_
  refine x_aload_n dL_law_404 rfl ?_
  refine x_iload dL_law_405 rfl ?_
  refine x_iconst dL_law_407 li_2 ?_
  refine x_iaddN dL_law_408 ?_
  refine x_scrL dL_law_409 rfl (by first | exact Nat.le_of_ble_eq_true rfl | assumption | omega) ?_
  refine x_cvi (x_place_c (d := d + 11) hS hC.1) kL_42 dL_law_410 rfl (Nat.le_of_ble_eq_true rfl) rfl rfl (Nat.le_of_ble_eq_true rfl) (fun ru Mu hq => ?_)
  obtain ⟨hru, I1, rfl, hk1⟩ := hq
  subst hru
  have q4 := qo_place (V := V) (z1 := scX G (k + 1)) (z2 := scX G (k + 2))
  have c1 := hC.kx hk1 q4.2
  have m1 := hM.fr (kx_m hk1)
  refine x_aload_n dL_law_413 rfl ?_
  refine x_aload_n dL_law_414 rfl ?_
  refine x_iload dL_law_415 rfl ?_
  refine x_iconst dL_law_417 li_1 ?_
  refine x_iaddN dL_law_418 ?_
  refine x_scrL dL_law_419 rfl (by first | exact Nat.le_of_ble_eq_true rfl | assumption | omega) ?_
  refine x_aload_n dL_law_420 rfl ?_
  refine x_iload dL_law_421 rfl ?_
  refine x_iconst dL_law_423 li_2 ?_
  refine x_iaddN dL_law_424 ?_
  refine x_scrL dL_law_425 rfl (by first | exact Nat.le_of_ble_eq_true rfl | assumption | omega) ?_
  refine x_cvi (m_place (d := d + 12) hS.1 m1.1) kL_45 dL_law_426 rfl (Nat.le_of_ble_eq_true rfl) rfl rfl (Nat.le_of_ble_eq_true rfl) (fun ru Mu hq => ?_)
  obtain ⟨hru, I2, rfl, hk2⟩ := hq
  subst hru
  have m2 := m1.km hk2 q4.2
  have c2 := c1.fr (km_c hk2)
  refine x_ic_eq 1716 dL_law_429 (by decide) (fun h429 => ?_) (fun h429 => absurd rfl h429)
  refine x_ls ?_ (K V N h mk T n _ fa w ad nb b r I2 _ ⟨⟨hS, hz0, hT2, hn0, hrb, q4.1⟩, c2, m2⟩ ⟨rfl, rfl, rfl⟩)
  exact ⟨rfl, rfl, rfl, rfl, rfl, trivial⟩
set_option maxRecDepth 100000 in
set_option maxHeartbeats 600000 in
theorem lc_434 (hL : scN G ≤ 3072) (hk : k + 6 ≤ scN G) (hI : IV V N h mk T n q fa w nb b r I) (K : LK G d f k (ad 11 0) (ad 13 0) (ad 103 0)) : X G vL_law (d + 14) (22 * f + 22, 400 * f + 400) 434 [(0, some (.ref (scA G))), (1, some (.ref (ad 11 0))), (2, some (.ref (ad 13 0))), (3, some (.ref (ad 103 0))), (4, some (.int (nI k)))] [] (MM ad nb b r I L) (QZ G) := by
  obtain ⟨⟨hS, hz0, hT2, hn0, hrb, hq9⟩, hC, hM⟩ := id hI
  refine x_bud (B' := (22 * f, 400 * f)) (Nat.le_add_right _ _) (Nat.le_add_right _ _) ?_
  refine x_aload_n dL_law_434 rfl ?_
  refine x_aload_n dL_law_435 rfl ?_
  refine x_iload dL_law_436 rfl ?_
  refine x_iconst dL_law_438 li_1 ?_
  refine x_iaddN dL_law_439 ?_
  refine x_scrL dL_law_440 rfl (by first | exact Nat.le_of_ble_eq_true rfl | assumption | omega) ?_
  refine x_aload_n dL_law_441 rfl ?_
  refine x_iload dL_law_442 rfl ?_
  refine x_iconst dL_law_444 li_2 ?_
  refine x_iaddN dL_law_445 ?_
  refine x_scrL dL_law_446 rfl (by first | exact Nat.le_of_ble_eq_true rfl | assumption | omega) ?_
  refine x_cvi (x_traveller_c (d := d + 11) hS hC.1) kL_46 dL_law_447 rfl (Nat.le_of_ble_eq_true rfl) rfl rfl (Nat.le_of_ble_eq_true rfl) (fun ru Mu hq => ?_)
  obtain ⟨hru, I1, rfl, hk1⟩ := hq
  subst hru
  have q4 := qo_traveller (V := V) (N := N) (z1 := scX G (k + 1)) (z2 := scX G (k + 2))
  have c1 := hC.kx hk1 q4.2
  have m1 := hM.fr (kx_m hk1)
  refine x_aload_n dL_law_450 rfl ?_
  refine x_aload_n dL_law_451 rfl ?_
  refine x_iload dL_law_452 rfl ?_
  refine x_iconst dL_law_454 li_1 ?_
  refine x_iaddN dL_law_455 ?_
  refine x_scrL dL_law_456 rfl (by first | exact Nat.le_of_ble_eq_true rfl | assumption | omega) ?_
  refine x_aload_n dL_law_457 rfl ?_
  refine x_iload dL_law_458 rfl ?_
  refine x_iconst dL_law_460 li_2 ?_
  refine x_iaddN dL_law_461 ?_
  refine x_scrL dL_law_462 rfl (by first | exact Nat.le_of_ble_eq_true rfl | assumption | omega) ?_
  refine x_cvi (m_traveller (d := d + 12) hS.1 m1.1 hS.2.1 m1.2.1.1) kL_49 dL_law_463 rfl (Nat.le_of_ble_eq_true rfl) rfl rfl (Nat.le_of_ble_eq_true rfl) (fun ru Mu hq => ?_)
  obtain ⟨hru, I2, rfl, hk2⟩ := hq
  subst hru
  have m2 := m1.km hk2 q4.2
  have c2 := c1.fr (km_c hk2)
  refine x_ic_eq 1716 dL_law_466 (by decide) (fun h466 => ?_) (fun h466 => absurd rfl h466)
  refine x_ls ?_ (K V N h mk T n _ fa w ad nb b r I2 _ ⟨⟨hS, hz0, hT2, hn0, hrb, q4.1⟩, c2, m2⟩ ⟨rfl, rfl, rfl⟩)
  exact ⟨rfl, rfl, rfl, rfl, rfl, trivial⟩
set_option maxRecDepth 100000 in
set_option maxHeartbeats 600000 in
theorem lc_471 (hL : scN G ≤ 3072) (hk : k + 6 ≤ scN G) (hI : IV V N h mk T n q fa w nb b r I) (K : LK G d f k (ad 11 0) (ad 13 0) (ad 103 0)) : X G vL_law (d + 14) (22 * f + 22, 400 * f + 400) 471 [(0, some (.ref (scA G))), (1, some (.ref (ad 11 0))), (2, some (.ref (ad 13 0))), (3, some (.ref (ad 103 0))), (4, some (.int (nI k)))] [] (MM ad nb b r I L) (QZ G) := by
  obtain ⟨⟨hS, hz0, hT2, hn0, hrb, hq9⟩, hC, hM⟩ := id hI
  refine x_bud (B' := (22 * f, 400 * f)) (Nat.le_add_right _ _) (Nat.le_add_right _ _) ?_
  refine x_aload_n dL_law_471 rfl ?_
  refine x_aload_n dL_law_472 rfl ?_
  refine x_iload dL_law_473 rfl ?_
  refine x_iconst dL_law_475 li_1 ?_
  refine x_iaddN dL_law_476 ?_
  refine x_scrL dL_law_477 rfl (by first | exact Nat.le_of_ble_eq_true rfl | assumption | omega) ?_
  refine x_aload_n dL_law_478 rfl ?_
  refine x_iload dL_law_479 rfl ?_
  refine x_iconst dL_law_481 li_2 ?_
  refine x_iaddN dL_law_482 ?_
  refine x_scrL dL_law_483 rfl (by first | exact Nat.le_of_ble_eq_true rfl | assumption | omega) ?_
  refine x_cvi (x_path_c (d := d + 11) hS hC.1) kL_50 dL_law_484 rfl (Nat.le_of_ble_eq_true rfl) rfl rfl (Nat.le_of_ble_eq_true rfl) (fun ru Mu hq => ?_)
  obtain ⟨hru, I1, rfl, hk1⟩ := hq
  subst hru
  have q4 := qo_path (V := V) (z1 := scX G (k + 1)) (z2 := scX G (k + 2))
  have c1 := hC.kx hk1 q4.2
  have m1 := hM.fr (kx_m hk1)
  refine x_aload_n dL_law_487 rfl ?_
  refine x_aload_n dL_law_488 rfl ?_
  refine x_iload dL_law_489 rfl ?_
  refine x_iconst dL_law_491 li_1 ?_
  refine x_iaddN dL_law_492 ?_
  refine x_scrL dL_law_493 rfl (by first | exact Nat.le_of_ble_eq_true rfl | assumption | omega) ?_
  refine x_aload_n dL_law_494 rfl ?_
  refine x_iload dL_law_495 rfl ?_
  refine x_iconst dL_law_497 li_2 ?_
  refine x_iaddN dL_law_498 ?_
  refine x_scrL dL_law_499 rfl (by first | exact Nat.le_of_ble_eq_true rfl | assumption | omega) ?_
  refine x_cvi (m_path (d := d + 12) hS.1 m1.1) kL_53 dL_law_500 rfl (Nat.le_of_ble_eq_true rfl) rfl rfl (Nat.le_of_ble_eq_true rfl) (fun ru Mu hq => ?_)
  obtain ⟨hru, I2, rfl, hk2⟩ := hq
  subst hru
  have m2 := m1.km hk2 q4.2
  have c2 := c1.fr (km_c hk2)
  refine x_ic_eq 1716 dL_law_503 (by decide) (fun h503 => ?_) (fun h503 => absurd rfl h503)
  refine x_ls ?_ (K V N h mk T n _ fa w ad nb b r I2 _ ⟨⟨hS, hz0, hT2, hn0, hrb, q4.1⟩, c2, m2⟩ ⟨rfl, rfl, rfl⟩)
  exact ⟨rfl, rfl, rfl, rfl, rfl, trivial⟩
set_option maxRecDepth 100000 in
set_option maxHeartbeats 600000 in
theorem lc_508 (hL : scN G ≤ 3072) (hk : k + 6 ≤ scN G) (hI : IV V N h mk T n q fa w nb b r I) (K : LK G d f k (ad 11 0) (ad 13 0) (ad 103 0)) : X G vL_law (d + 14) (22 * f + 22, 400 * f + 400) 508 [(0, some (.ref (scA G))), (1, some (.ref (ad 11 0))), (2, some (.ref (ad 13 0))), (3, some (.ref (ad 103 0))), (4, some (.int (nI k)))] [] (MM ad nb b r I L) (QZ G) := by
  obtain ⟨⟨hS, hz0, hT2, hn0, hrb, hq9⟩, hC, hM⟩ := id hI
  refine x_bud (B' := (22 * f, 400 * f)) (Nat.le_add_right _ _) (Nat.le_add_right _ _) ?_
  refine x_aload_n dL_law_508 rfl ?_
  refine x_aload_n dL_law_509 rfl ?_
  refine x_iload dL_law_510 rfl ?_
  refine x_iconst dL_law_512 li_1 ?_
  refine x_iaddN dL_law_513 ?_
  refine x_scrL dL_law_514 rfl (by first | exact Nat.le_of_ble_eq_true rfl | assumption | omega) ?_
  refine x_aload_n dL_law_515 rfl ?_
  refine x_iload dL_law_516 rfl ?_
  refine x_iconst dL_law_518 li_2 ?_
  refine x_iaddN dL_law_519 ?_
  refine x_scrL dL_law_520 rfl (by first | exact Nat.le_of_ble_eq_true rfl | assumption | omega) ?_
  refine x_aload_n dL_law_521 rfl ?_
  refine x_iload dL_law_522 rfl ?_
  refine x_iconst dL_law_524 li_3 ?_
  refine x_iaddN dL_law_525 ?_
  refine x_scrL dL_law_526 rfl (by first | exact Nat.le_of_ble_eq_true rfl | assumption | omega) ?_
  refine x_cvi (x_strength_c (d := d + 9) hS hC.1) kL_54 dL_law_527 rfl (Nat.le_of_ble_eq_true rfl) rfl rfl (Nat.le_of_ble_eq_true rfl) (fun ru Mu hq => ?_)
  obtain ⟨hru, I1, rfl, hk1⟩ := hq
  subst hru
  have q4 := qo_strength (V := V) (N := N) (z1 := scX G (k + 1)) (z2 := scX G (k + 2)) (z3 := scX G (k + 3))
  have c1 := hC.kx hk1 q4.2
  have m1 := hM.fr (kx_m hk1)
  refine x_aload_n dL_law_530 rfl ?_
  refine x_aload_n dL_law_531 rfl ?_
  refine x_iload dL_law_532 rfl ?_
  refine x_iconst dL_law_534 li_1 ?_
  refine x_iaddN dL_law_535 ?_
  refine x_scrL dL_law_536 rfl (by first | exact Nat.le_of_ble_eq_true rfl | assumption | omega) ?_
  refine x_aload_n dL_law_537 rfl ?_
  refine x_iload dL_law_538 rfl ?_
  refine x_iconst dL_law_540 li_2 ?_
  refine x_iaddN dL_law_541 ?_
  refine x_scrL dL_law_542 rfl (by first | exact Nat.le_of_ble_eq_true rfl | assumption | omega) ?_
  refine x_aload_n dL_law_543 rfl ?_
  refine x_iload dL_law_544 rfl ?_
  refine x_iconst dL_law_546 li_3 ?_
  refine x_iaddN dL_law_547 ?_
  refine x_scrL dL_law_548 rfl (by first | exact Nat.le_of_ble_eq_true rfl | assumption | omega) ?_
  refine x_cvi (m_strength (d := d + 10) hS.1 m1.1 hS.2.1 m1.2.1.1) kL_58 dL_law_549 rfl (Nat.le_of_ble_eq_true rfl) rfl rfl (Nat.le_of_ble_eq_true rfl) (fun ru Mu hq => ?_)
  obtain ⟨hru, I2, rfl, hk2⟩ := hq
  subst hru
  have m2 := m1.km hk2 q4.2
  have c2 := c1.fr (km_c hk2)
  refine x_ic_eq 1716 dL_law_552 (by decide) (fun h552 => ?_) (fun h552 => absurd rfl h552)
  refine x_ls ?_ (K V N h mk T n _ fa w ad nb b r I2 _ ⟨⟨hS, hz0, hT2, hn0, hrb, q4.1⟩, c2, m2⟩ ⟨rfl, rfl, rfl⟩)
  exact ⟨rfl, rfl, rfl, rfl, rfl, trivial⟩
set_option maxRecDepth 100000 in
set_option maxHeartbeats 600000 in
theorem lc_557 (hL : scN G ≤ 3072) (hk : k + 6 ≤ scN G) (hI : IV V N h mk T n q fa w nb b r I) (K : LK G d f k (ad 11 0) (ad 13 0) (ad 103 0)) : X G vL_law (d + 14) (22 * f + 22, 400 * f + 400) 557 [(0, some (.ref (scA G))), (1, some (.ref (ad 11 0))), (2, some (.ref (ad 13 0))), (3, some (.ref (ad 103 0))), (4, some (.int (nI k)))] [] (MM ad nb b r I L) (QZ G) := by
  obtain ⟨⟨hS, hz0, hT2, hn0, hrb, hq9⟩, hC, hM⟩ := id hI
  refine x_bud (B' := (22 * f, 400 * f)) (Nat.le_add_right _ _) (Nat.le_add_right _ _) ?_
  refine x_aload_n dL_law_557 rfl ?_
  refine x_aload_n dL_law_558 rfl ?_
  refine x_iload dL_law_559 rfl ?_
  refine x_iconst dL_law_561 li_1 ?_
  refine x_iaddN dL_law_562 ?_
  refine x_scrL dL_law_563 rfl (by first | exact Nat.le_of_ble_eq_true rfl | assumption | omega) ?_
  refine x_aload_n dL_law_564 rfl ?_
  refine x_iload dL_law_565 rfl ?_
  refine x_iconst dL_law_567 li_2 ?_
  refine x_iaddN dL_law_568 ?_
  refine x_scrL dL_law_569 rfl (by first | exact Nat.le_of_ble_eq_true rfl | assumption | omega) ?_
  refine x_aload_n dL_law_570 rfl ?_
  refine x_iload dL_law_571 rfl ?_
  refine x_iconst dL_law_573 li_3 ?_
  refine x_iaddN dL_law_574 ?_
  refine x_scrL dL_law_575 rfl (by first | exact Nat.le_of_ble_eq_true rfl | assumption | omega) ?_
  refine x_cvi (x_covered_c (d := d + 9) hS hC.1) kL_59 dL_law_576 rfl (Nat.le_of_ble_eq_true rfl) rfl rfl (Nat.le_of_ble_eq_true rfl) (fun ru Mu hq => ?_)
  obtain ⟨hru, I1, rfl, hk1⟩ := hq
  subst hru
  have q4 := qo_covered (V := V) (N := N) (z1 := scX G (k + 1)) (z2 := scX G (k + 2)) (z3 := scX G (k + 3))
  have c1 := hC.kx hk1 q4.2
  have m1 := hM.fr (kx_m hk1)
  refine x_aload_n dL_law_579 rfl ?_
  refine x_aload_n dL_law_580 rfl ?_
  refine x_iload dL_law_581 rfl ?_
  refine x_iconst dL_law_583 li_1 ?_
  refine x_iaddN dL_law_584 ?_
  refine x_scrL dL_law_585 rfl (by first | exact Nat.le_of_ble_eq_true rfl | assumption | omega) ?_
  refine x_aload_n dL_law_586 rfl ?_
  refine x_iload dL_law_587 rfl ?_
  refine x_iconst dL_law_589 li_2 ?_
  refine x_iaddN dL_law_590 ?_
  refine x_scrL dL_law_591 rfl (by first | exact Nat.le_of_ble_eq_true rfl | assumption | omega) ?_
  refine x_aload_n dL_law_592 rfl ?_
  refine x_iload dL_law_593 rfl ?_
  refine x_iconst dL_law_595 li_3 ?_
  refine x_iaddN dL_law_596 ?_
  refine x_scrL dL_law_597 rfl (by first | exact Nat.le_of_ble_eq_true rfl | assumption | omega) ?_
  refine x_cvi (m_covered (d := d + 10) hS.1 m1.1 hS.2.1 m1.2.1.1) kL_62 dL_law_598 rfl (Nat.le_of_ble_eq_true rfl) rfl rfl (Nat.le_of_ble_eq_true rfl) (fun ru Mu hq => ?_)
  obtain ⟨hru, I2, rfl, hk2⟩ := hq
  subst hru
  have m2 := m1.km hk2 q4.2
  have c2 := c1.fr (km_c hk2)
  refine x_ic_eq 1716 dL_law_601 (by decide) (fun h601 => ?_) (fun h601 => absurd rfl h601)
  refine x_ls ?_ (K V N h mk T n _ fa w ad nb b r I2 _ ⟨⟨hS, hz0, hT2, hn0, hrb, q4.1⟩, c2, m2⟩ ⟨rfl, rfl, rfl⟩)
  exact ⟨rfl, rfl, rfl, rfl, rfl, trivial⟩
set_option maxRecDepth 100000 in
set_option maxHeartbeats 600000 in
theorem lc_606 (hL : scN G ≤ 3072) (hk : k + 6 ≤ scN G) (hI : IV V N h mk T n q fa w nb b r I) (K : LK G d f k (ad 11 0) (ad 13 0) (ad 103 0)) : X G vL_law (d + 14) (22 * f + 22, 400 * f + 400) 606 [(0, some (.ref (scA G))), (1, some (.ref (ad 11 0))), (2, some (.ref (ad 13 0))), (3, some (.ref (ad 103 0))), (4, some (.int (nI k)))] [] (MM ad nb b r I L) (QZ G) := by
  obtain ⟨⟨hS, hz0, hT2, hn0, hrb, hq9⟩, hC, hM⟩ := id hI
  refine x_bud (B' := (22 * f, 400 * f)) (Nat.le_add_right _ _) (Nat.le_add_right _ _) ?_
  refine x_aload_n dL_law_606 rfl ?_
  refine x_aload_n dL_law_607 rfl ?_
  refine x_iload dL_law_608 rfl ?_
  refine x_iconst dL_law_610 li_1 ?_
  refine x_iaddN dL_law_611 ?_
  refine x_scrL dL_law_612 rfl (by first | exact Nat.le_of_ble_eq_true rfl | assumption | omega) ?_
  refine x_aload_n dL_law_613 rfl ?_
  refine x_iload dL_law_614 rfl ?_
  refine x_iconst dL_law_616 li_2 ?_
  refine x_iaddN dL_law_617 ?_
  refine x_scrL dL_law_618 rfl (by first | exact Nat.le_of_ble_eq_true rfl | assumption | omega) ?_
  refine x_aload_n dL_law_619 rfl ?_
  refine x_iload dL_law_620 rfl ?_
  refine x_iconst dL_law_622 li_3 ?_
  refine x_iaddN dL_law_623 ?_
  refine x_scrL dL_law_624 rfl (by first | exact Nat.le_of_ble_eq_true rfl | assumption | omega) ?_
  refine x_cvi (x_smelt_c (d := d + 9) hS hC.1) kL_63 dL_law_625 rfl (Nat.le_of_ble_eq_true rfl) rfl rfl (Nat.le_of_ble_eq_true rfl) (fun ru Mu hq => ?_)
  obtain ⟨hru, I1, rfl, hk1⟩ := hq
  subst hru
  have q4 := qo_smelt (V := V) (N := N) (z1 := scX G (k + 1)) (z2 := scX G (k + 2)) (z3 := scX G (k + 3))
  have c1 := hC.kx hk1 q4.2
  have m1 := hM.fr (kx_m hk1)
  refine x_aload_n dL_law_628 rfl ?_
  refine x_aload_n dL_law_629 rfl ?_
  refine x_iload dL_law_630 rfl ?_
  refine x_iconst dL_law_632 li_1 ?_
  refine x_iaddN dL_law_633 ?_
  refine x_scrL dL_law_634 rfl (by first | exact Nat.le_of_ble_eq_true rfl | assumption | omega) ?_
  refine x_aload_n dL_law_635 rfl ?_
  refine x_iload dL_law_636 rfl ?_
  refine x_iconst dL_law_638 li_2 ?_
  refine x_iaddN dL_law_639 ?_
  refine x_scrL dL_law_640 rfl (by first | exact Nat.le_of_ble_eq_true rfl | assumption | omega) ?_
  refine x_aload_n dL_law_641 rfl ?_
  refine x_iload dL_law_642 rfl ?_
  refine x_iconst dL_law_644 li_3 ?_
  refine x_iaddN dL_law_645 ?_
  refine x_scrL dL_law_646 rfl (by first | exact Nat.le_of_ble_eq_true rfl | assumption | omega) ?_
  refine x_cvi (m_smelt (d := d + 10) hS.1 m1.1 hS.2.1 m1.2.1.1) kL_66 dL_law_647 rfl (Nat.le_of_ble_eq_true rfl) rfl rfl (Nat.le_of_ble_eq_true rfl) (fun ru Mu hq => ?_)
  obtain ⟨hru, I2, rfl, hk2⟩ := hq
  subst hru
  have m2 := m1.km hk2 q4.2
  have c2 := c1.fr (km_c hk2)
  refine x_ic_eq 1716 dL_law_650 (by decide) (fun h650 => ?_) (fun h650 => absurd rfl h650)
  refine x_ls ?_ (K V N h mk T n _ fa w ad nb b r I2 _ ⟨⟨hS, hz0, hT2, hn0, hrb, q4.1⟩, c2, m2⟩ ⟨rfl, rfl, rfl⟩)
  exact ⟨rfl, rfl, rfl, rfl, rfl, trivial⟩
set_option maxRecDepth 100000 in
set_option maxHeartbeats 600000 in
theorem lc_655 (hL : scN G ≤ 3072) (hk : k + 6 ≤ scN G) (hI : IV V N h mk T n q fa w nb b r I) (K : LK G d f k (ad 11 0) (ad 13 0) (ad 103 0)) : X G vL_law (d + 14) (22 * f + 22, 400 * f + 400) 655 [(0, some (.ref (scA G))), (1, some (.ref (ad 11 0))), (2, some (.ref (ad 13 0))), (3, some (.ref (ad 103 0))), (4, some (.int (nI k)))] [] (MM ad nb b r I L) (QZ G) := by
  obtain ⟨⟨hS, hz0, hT2, hn0, hrb, hq9⟩, hC, hM⟩ := id hI
  refine x_bud (B' := (22 * f, 400 * f)) (Nat.le_add_right _ _) (Nat.le_add_right _ _) ?_
  refine x_aload_n dL_law_655 rfl ?_
  refine x_aload_n dL_law_656 rfl ?_
  refine x_iload dL_law_657 rfl ?_
  refine x_iconst dL_law_659 li_1 ?_
  refine x_iaddN dL_law_660 ?_
  refine x_scrL dL_law_661 rfl (by first | exact Nat.le_of_ble_eq_true rfl | assumption | omega) ?_
  refine x_aload_n dL_law_662 rfl ?_
  refine x_iload dL_law_663 rfl ?_
  refine x_iconst dL_law_665 li_2 ?_
  refine x_iaddN dL_law_666 ?_
  refine x_scrL dL_law_667 rfl (by first | exact Nat.le_of_ble_eq_true rfl | assumption | omega) ?_
  refine x_aload_n dL_law_668 rfl ?_
  refine x_iload dL_law_669 rfl ?_
  refine x_iconst dL_law_671 li_3 ?_
  refine x_iaddN dL_law_672 ?_
  refine x_scrL dL_law_673 rfl (by first | exact Nat.le_of_ble_eq_true rfl | assumption | omega) ?_
  refine x_cvi (x_duty_c (d := d + 9) hS hC.1) kL_67 dL_law_674 rfl (Nat.le_of_ble_eq_true rfl) rfl rfl (Nat.le_of_ble_eq_true rfl) (fun ru Mu hq => ?_)
  obtain ⟨hru, I1, rfl, hk1⟩ := hq
  subst hru
  have q4 := qo_duty (V := V) (N := N) (z1 := scX G (k + 1)) (z2 := scX G (k + 2)) (z3 := scX G (k + 3))
  have c1 := hC.kx hk1 q4.2
  have m1 := hM.fr (kx_m hk1)
  refine x_aload_n dL_law_677 rfl ?_
  refine x_aload_n dL_law_678 rfl ?_
  refine x_iload dL_law_679 rfl ?_
  refine x_iconst dL_law_681 li_1 ?_
  refine x_iaddN dL_law_682 ?_
  refine x_scrL dL_law_683 rfl (by first | exact Nat.le_of_ble_eq_true rfl | assumption | omega) ?_
  refine x_aload_n dL_law_684 rfl ?_
  refine x_iload dL_law_685 rfl ?_
  refine x_iconst dL_law_687 li_2 ?_
  refine x_iaddN dL_law_688 ?_
  refine x_scrL dL_law_689 rfl (by first | exact Nat.le_of_ble_eq_true rfl | assumption | omega) ?_
  refine x_aload_n dL_law_690 rfl ?_
  refine x_iload dL_law_691 rfl ?_
  refine x_iconst dL_law_693 li_3 ?_
  refine x_iaddN dL_law_694 ?_
  refine x_scrL dL_law_695 rfl (by first | exact Nat.le_of_ble_eq_true rfl | assumption | omega) ?_
  refine x_cvi (m_duty (d := d + 9) hS.1 m1.1 hS.2.1 m1.2.1.1) kL_70 dL_law_696 rfl (Nat.le_of_ble_eq_true rfl) rfl rfl (Nat.le_of_ble_eq_true rfl) (fun ru Mu hq => ?_)
  obtain ⟨hru, I2, rfl, hk2⟩ := hq
  subst hru
  have m2 := m1.km hk2 q4.2
  have c2 := c1.fr (km_c hk2)
  refine x_ic_eq 1716 dL_law_699 (by decide) (fun h699 => ?_) (fun h699 => absurd rfl h699)
  refine x_ls ?_ (K V N h mk T n _ fa w ad nb b r I2 _ ⟨⟨hS, hz0, hT2, hn0, hrb, q4.1⟩, c2, m2⟩ ⟨rfl, rfl, rfl⟩)
  exact ⟨rfl, rfl, rfl, rfl, rfl, trivial⟩
set_option maxRecDepth 100000 in
set_option maxHeartbeats 600000 in
theorem lc_704 (hL : scN G ≤ 3072) (hk : k + 6 ≤ scN G) (hI : IV V N h mk T n q fa w nb b r I) (K : LK G d f k (ad 11 0) (ad 13 0) (ad 103 0)) : X G vL_law (d + 14) (22 * f + 22, 400 * f + 400) 704 [(0, some (.ref (scA G))), (1, some (.ref (ad 11 0))), (2, some (.ref (ad 13 0))), (3, some (.ref (ad 103 0))), (4, some (.int (nI k)))] [] (MM ad nb b r I L) (QZ G) := by
  obtain ⟨⟨hS, hz0, hT2, hn0, hrb, hq9⟩, hC, hM⟩ := id hI
  refine x_bud (B' := (22 * f, 400 * f)) (Nat.le_add_right _ _) (Nat.le_add_right _ _) ?_
  refine x_aload_n dL_law_704 rfl ?_
  refine x_aload_n dL_law_705 rfl ?_
  refine x_iload dL_law_706 rfl ?_
  refine x_iconst dL_law_708 li_1 ?_
  refine x_iaddN dL_law_709 ?_
  refine x_scrL dL_law_710 rfl (by first | exact Nat.le_of_ble_eq_true rfl | assumption | omega) ?_
  refine x_aload_n dL_law_711 rfl ?_
  refine x_iload dL_law_712 rfl ?_
  refine x_iconst dL_law_714 li_2 ?_
  refine x_iaddN dL_law_715 ?_
  refine x_scrL dL_law_716 rfl (by first | exact Nat.le_of_ble_eq_true rfl | assumption | omega) ?_
  refine x_cvi (x_claim_c (d := d + 10) hS hC.1) kL_71 dL_law_717 rfl (Nat.le_of_ble_eq_true rfl) rfl rfl (Nat.le_of_ble_eq_true rfl) (fun ru Mu hq => ?_)
  obtain ⟨hru, I1, rfl, hk1⟩ := hq
  subst hru
  have q4 := qo_claim (V := V) (N := N) (z1 := scX G (k + 1)) (z2 := scX G (k + 2))
  have c1 := hC.kx hk1 q4.2
  have m1 := hM.fr (kx_m hk1)
  refine x_aload_n dL_law_720 rfl ?_
  refine x_aload_n dL_law_721 rfl ?_
  refine x_iload dL_law_722 rfl ?_
  refine x_iconst dL_law_724 li_1 ?_
  refine x_iaddN dL_law_725 ?_
  refine x_scrL dL_law_726 rfl (by first | exact Nat.le_of_ble_eq_true rfl | assumption | omega) ?_
  refine x_aload_n dL_law_727 rfl ?_
  refine x_iload dL_law_728 rfl ?_
  refine x_iconst dL_law_730 li_2 ?_
  refine x_iaddN dL_law_731 ?_
  refine x_scrL dL_law_732 rfl (by first | exact Nat.le_of_ble_eq_true rfl | assumption | omega) ?_
  refine x_cvi (m_claim (d := d + 10) hS.1 m1.1 hS.2.1 m1.2.1.1) kL_74 dL_law_733 rfl (Nat.le_of_ble_eq_true rfl) rfl rfl (Nat.le_of_ble_eq_true rfl) (fun ru Mu hq => ?_)
  obtain ⟨hru, I2, rfl, hk2⟩ := hq
  subst hru
  have m2 := m1.km hk2 q4.2
  have c2 := c1.fr (km_c hk2)
  refine x_ic_eq 1716 dL_law_736 (by decide) (fun h736 => ?_) (fun h736 => absurd rfl h736)
  refine x_ls ?_ (K V N h mk T n _ fa w ad nb b r I2 _ ⟨⟨hS, hz0, hT2, hn0, hrb, q4.1⟩, c2, m2⟩ ⟨rfl, rfl, rfl⟩)
  exact ⟨rfl, rfl, rfl, rfl, rfl, trivial⟩
set_option maxRecDepth 100000 in
set_option maxHeartbeats 600000 in
theorem lc_741 (hL : scN G ≤ 3072) (hk : k + 6 ≤ scN G) (hI : IV V N h mk T n q fa w nb b r I) (K : LK G d f k (ad 11 0) (ad 13 0) (ad 103 0)) : X G vL_law (d + 14) (22 * f + 22, 400 * f + 400) 741 [(0, some (.ref (scA G))), (1, some (.ref (ad 11 0))), (2, some (.ref (ad 13 0))), (3, some (.ref (ad 103 0))), (4, some (.int (nI k)))] [] (MM ad nb b r I L) (QZ G) := by
  obtain ⟨⟨hS, hz0, hT2, hn0, hrb, hq9⟩, hC, hM⟩ := id hI
  refine x_bud (B' := (22 * f, 400 * f)) (Nat.le_add_right _ _) (Nat.le_add_right _ _) ?_
  refine x_aload_n dL_law_741 rfl ?_
  refine x_aload_n dL_law_742 rfl ?_
  refine x_iload dL_law_743 rfl ?_
  refine x_iconst dL_law_745 li_1 ?_
  refine x_iaddN dL_law_746 ?_
  refine x_scrL dL_law_747 rfl (by first | exact Nat.le_of_ble_eq_true rfl | assumption | omega) ?_
  refine x_aload_n dL_law_748 rfl ?_
  refine x_iload dL_law_749 rfl ?_
  refine x_iconst dL_law_751 li_2 ?_
  refine x_iaddN dL_law_752 ?_
  refine x_scrL dL_law_753 rfl (by first | exact Nat.le_of_ble_eq_true rfl | assumption | omega) ?_
  refine x_cvi (x_gone_c (d := d + 10) hS hC.1) kL_75 dL_law_754 rfl (Nat.le_of_ble_eq_true rfl) rfl rfl (Nat.le_of_ble_eq_true rfl) (fun ru Mu hq => ?_)
  obtain ⟨hru, I1, rfl, hk1⟩ := hq
  subst hru
  have q4 := qo_gone (V := V) (N := N) (z1 := scX G (k + 1)) (z2 := scX G (k + 2))
  have c1 := hC.kx hk1 q4.2
  have m1 := hM.fr (kx_m hk1)
  refine x_aload_n dL_law_757 rfl ?_
  refine x_aload_n dL_law_758 rfl ?_
  refine x_iload dL_law_759 rfl ?_
  refine x_iconst dL_law_761 li_1 ?_
  refine x_iaddN dL_law_762 ?_
  refine x_scrL dL_law_763 rfl (by first | exact Nat.le_of_ble_eq_true rfl | assumption | omega) ?_
  refine x_aload_n dL_law_764 rfl ?_
  refine x_iload dL_law_765 rfl ?_
  refine x_iconst dL_law_767 li_2 ?_
  refine x_iaddN dL_law_768 ?_
  refine x_scrL dL_law_769 rfl (by first | exact Nat.le_of_ble_eq_true rfl | assumption | omega) ?_
  refine x_cvi (m_gone (d := d + 11) hS.1 m1.1 hS.2.1 m1.2.1.1) kL_78 dL_law_770 rfl (Nat.le_of_ble_eq_true rfl) rfl rfl (Nat.le_of_ble_eq_true rfl) (fun ru Mu hq => ?_)
  obtain ⟨hru, I2, rfl, hk2⟩ := hq
  subst hru
  have m2 := m1.km hk2 q4.2
  have c2 := c1.fr (km_c hk2)
  refine x_ic_eq 1716 dL_law_773 (by decide) (fun h773 => ?_) (fun h773 => absurd rfl h773)
  refine x_ls ?_ (K V N h mk T n _ fa w ad nb b r I2 _ ⟨⟨hS, hz0, hT2, hn0, hrb, q4.1⟩, c2, m2⟩ ⟨rfl, rfl, rfl⟩)
  exact ⟨rfl, rfl, rfl, rfl, rfl, trivial⟩
set_option maxRecDepth 100000 in
set_option maxHeartbeats 600000 in
theorem lc_778 (hL : scN G ≤ 3072) (hk : k + 6 ≤ scN G) (hI : IV V N h mk T n q fa w nb b r I) (K : LK G d f k (ad 11 0) (ad 13 0) (ad 103 0)) : X G vL_law (d + 14) (22 * f + 22, 400 * f + 400) 778 [(0, some (.ref (scA G))), (1, some (.ref (ad 11 0))), (2, some (.ref (ad 13 0))), (3, some (.ref (ad 103 0))), (4, some (.int (nI k)))] [] (MM ad nb b r I L) (QZ G) := by
  obtain ⟨⟨hS, hz0, hT2, hn0, hrb, hq9⟩, hC, hM⟩ := id hI
  refine x_bud (B' := (22 * f, 400 * f)) (Nat.le_add_right _ _) (Nat.le_add_right _ _) ?_
  refine x_aload_n dL_law_778 rfl ?_
  refine x_aload_n dL_law_779 rfl ?_
  refine x_iload dL_law_780 rfl ?_
  refine x_iconst dL_law_782 li_1 ?_
  refine x_iaddN dL_law_783 ?_
  refine x_scrL dL_law_784 rfl (by first | exact Nat.le_of_ble_eq_true rfl | assumption | omega) ?_
  refine x_aload_n dL_law_785 rfl ?_
  refine x_iload dL_law_786 rfl ?_
  refine x_iconst dL_law_788 li_2 ?_
  refine x_iaddN dL_law_789 ?_
  refine x_scrL dL_law_790 rfl (by first | exact Nat.le_of_ble_eq_true rfl | assumption | omega) ?_
  refine x_cvi (x_mustWait_c (d := d + 9) hS hC.1) kL_79 dL_law_791 rfl (Nat.le_of_ble_eq_true rfl) rfl rfl (Nat.le_of_ble_eq_true rfl) (fun ru Mu hq => ?_)
  obtain ⟨hru, I1, rfl, hk1⟩ := hq
  subst hru
  have q4 := qo_mustWait (V := V) (N := N) (z1 := scX G (k + 1)) (z2 := scX G (k + 2))
  have c1 := hC.kx hk1 q4.2
  have m1 := hM.fr (kx_m hk1)
  refine x_aload_n dL_law_794 rfl ?_
  refine x_aload_n dL_law_795 rfl ?_
  refine x_iload dL_law_796 rfl ?_
  refine x_iconst dL_law_798 li_1 ?_
  refine x_iaddN dL_law_799 ?_
  refine x_scrL dL_law_800 rfl (by first | exact Nat.le_of_ble_eq_true rfl | assumption | omega) ?_
  refine x_aload_n dL_law_801 rfl ?_
  refine x_iload dL_law_802 rfl ?_
  refine x_iconst dL_law_804 li_2 ?_
  refine x_iaddN dL_law_805 ?_
  refine x_scrL dL_law_806 rfl (by first | exact Nat.le_of_ble_eq_true rfl | assumption | omega) ?_
  refine x_cvi (m_mustWait (d := d + 9) hS.1 m1.1 hS.2.1 m1.2.1.1) kL_82 dL_law_807 rfl (Nat.le_of_ble_eq_true rfl) rfl rfl (Nat.le_of_ble_eq_true rfl) (fun ru Mu hq => ?_)
  obtain ⟨hru, I2, rfl, hk2⟩ := hq
  subst hru
  have m2 := m1.km hk2 q4.2
  have c2 := c1.fr (km_c hk2)
  refine x_ic_eq 1716 dL_law_810 (by decide) (fun h810 => ?_) (fun h810 => absurd rfl h810)
  refine x_ls ?_ (K V N h mk T n _ fa w ad nb b r I2 _ ⟨⟨hS, hz0, hT2, hn0, hrb, q4.1⟩, c2, m2⟩ ⟨rfl, rfl, rfl⟩)
  exact ⟨rfl, rfl, rfl, rfl, rfl, trivial⟩
set_option maxRecDepth 100000 in
set_option maxHeartbeats 600000 in
theorem lc_815 (hL : scN G ≤ 3072) (hk : k + 6 ≤ scN G) (hI : IV V N h mk T n q fa w nb b r I) (K : LK G d f k (ad 11 0) (ad 13 0) (ad 103 0)) : X G vL_law (d + 14) (22 * f + 22, 400 * f + 400) 815 [(0, some (.ref (scA G))), (1, some (.ref (ad 11 0))), (2, some (.ref (ad 13 0))), (3, some (.ref (ad 103 0))), (4, some (.int (nI k)))] [] (MM ad nb b r I L) (QZ G) := by
  obtain ⟨⟨hS, hz0, hT2, hn0, hrb, hq9⟩, hC, hM⟩ := id hI
  refine x_bud (B' := (22 * f, 400 * f)) (Nat.le_add_right _ _) (Nat.le_add_right _ _) ?_
  refine x_aload_n dL_law_815 rfl ?_
  refine x_aload_n dL_law_816 rfl ?_
  refine x_iload dL_law_817 rfl ?_
  refine x_iconst dL_law_819 li_1 ?_
  refine x_iaddN dL_law_820 ?_
  refine x_scrL dL_law_821 rfl (by first | exact Nat.le_of_ble_eq_true rfl | assumption | omega) ?_
  refine x_cvi (x_walked_c (d := d + 9) hS hC.1) kL_83 dL_law_822 rfl (Nat.le_of_ble_eq_true rfl) rfl rfl (Nat.le_of_ble_eq_true rfl) (fun ru Mu hq => ?_)
  obtain ⟨hru, I1, rfl, hk1⟩ := hq
  subst hru
  have q4 := qo_walked (V := V) (N := N) (z1 := scX G (k + 1))
  have c1 := hC.kx hk1 q4.2
  have m1 := hM.fr (kx_m hk1)
  refine x_aload_n dL_law_825 rfl ?_
  refine x_aload_n dL_law_826 rfl ?_
  refine x_iload dL_law_827 rfl ?_
  refine x_iconst dL_law_829 li_1 ?_
  refine x_iaddN dL_law_830 ?_
  refine x_scrL dL_law_831 rfl (by first | exact Nat.le_of_ble_eq_true rfl | assumption | omega) ?_
  refine x_cvi (m_walked (d := d + 8) hS.1 m1.1 hS.2.1 m1.2.1.1) kL_86 dL_law_832 rfl (Nat.le_of_ble_eq_true rfl) rfl rfl (Nat.le_of_ble_eq_true rfl) (fun ru Mu hq => ?_)
  obtain ⟨hru, I2, rfl, hk2⟩ := hq
  subst hru
  have m2 := m1.km hk2 q4.2
  have c2 := c1.fr (km_c hk2)
  refine x_ic_eq 1716 dL_law_835 (by decide) (fun h835 => ?_) (fun h835 => absurd rfl h835)
  refine x_ls ?_ (K V N h mk T n _ fa w ad nb b r I2 _ ⟨⟨hS, hz0, hT2, hn0, hrb, q4.1⟩, c2, m2⟩ ⟨rfl, rfl, rfl⟩)
  exact ⟨rfl, rfl, rfl, rfl, rfl, trivial⟩
set_option maxRecDepth 100000 in
set_option maxHeartbeats 600000 in
theorem lc_840 (hL : scN G ≤ 3072) (hk : k + 6 ≤ scN G) (hI : IV V N h mk T n q fa w nb b r I) (K : LK G d f k (ad 11 0) (ad 13 0) (ad 103 0)) : X G vL_law (d + 14) (22 * f + 22, 400 * f + 400) 840 [(0, some (.ref (scA G))), (1, some (.ref (ad 11 0))), (2, some (.ref (ad 13 0))), (3, some (.ref (ad 103 0))), (4, some (.int (nI k)))] [] (MM ad nb b r I L) (QZ G) := by
  obtain ⟨⟨hS, hz0, hT2, hn0, hrb, hq9⟩, hC, hM⟩ := id hI
  refine x_bud (B' := (22 * f, 400 * f)) (Nat.le_add_right _ _) (Nat.le_add_right _ _) ?_
  refine x_aload_n dL_law_840 rfl ?_
  refine x_aload_n dL_law_841 rfl ?_
  refine x_iload dL_law_842 rfl ?_
  refine x_iconst dL_law_844 li_1 ?_
  refine x_iaddN dL_law_845 ?_
  refine x_scrL dL_law_846 rfl (by first | exact Nat.le_of_ble_eq_true rfl | assumption | omega) ?_
  refine x_aload_n dL_law_847 rfl ?_
  refine x_iload dL_law_848 rfl ?_
  refine x_iconst dL_law_850 li_2 ?_
  refine x_iaddN dL_law_851 ?_
  refine x_scrL dL_law_852 rfl (by first | exact Nat.le_of_ble_eq_true rfl | assumption | omega) ?_
  refine x_cvi (x_walkedAt_c (d := d + 9) hS hC.1) kL_87 dL_law_853 rfl (Nat.le_of_ble_eq_true rfl) rfl rfl (Nat.le_of_ble_eq_true rfl) (fun ru Mu hq => ?_)
  obtain ⟨hru, I1, rfl, hk1⟩ := hq
  subst hru
  have q4 := qo_walkedAt (V := V) (N := N) (z1 := scX G (k + 1)) (z2 := scX G (k + 2))
  have c1 := hC.kx hk1 q4.2
  have m1 := hM.fr (kx_m hk1)
  refine x_aload_n dL_law_856 rfl ?_
  refine x_aload_n dL_law_857 rfl ?_
  refine x_iload dL_law_858 rfl ?_
  refine x_iconst dL_law_860 li_1 ?_
  refine x_iaddN dL_law_861 ?_
  refine x_scrL dL_law_862 rfl (by first | exact Nat.le_of_ble_eq_true rfl | assumption | omega) ?_
  refine x_aload_n dL_law_863 rfl ?_
  refine x_iload dL_law_864 rfl ?_
  refine x_iconst dL_law_866 li_2 ?_
  refine x_iaddN dL_law_867 ?_
  refine x_scrL dL_law_868 rfl (by first | exact Nat.le_of_ble_eq_true rfl | assumption | omega) ?_
  refine x_cvi (m_walkedAt (d := d + 8) hS.1 m1.1 hS.2.1 m1.2.1.1) kL_90 dL_law_869 rfl (Nat.le_of_ble_eq_true rfl) rfl rfl (Nat.le_of_ble_eq_true rfl) (fun ru Mu hq => ?_)
  obtain ⟨hru, I2, rfl, hk2⟩ := hq
  subst hru
  have m2 := m1.km hk2 q4.2
  have c2 := c1.fr (km_c hk2)
  refine x_ic_eq 1716 dL_law_872 (by decide) (fun h872 => ?_) (fun h872 => absurd rfl h872)
  refine x_ls ?_ (K V N h mk T n _ fa w ad nb b r I2 _ ⟨⟨hS, hz0, hT2, hn0, hrb, q4.1⟩, c2, m2⟩ ⟨rfl, rfl, rfl⟩)
  exact ⟨rfl, rfl, rfl, rfl, rfl, trivial⟩
set_option maxRecDepth 100000 in
set_option maxHeartbeats 600000 in
theorem lc_877 (hL : scN G ≤ 3072) (hk : k + 6 ≤ scN G) (hI : IV V N h mk T n q fa w nb b r I) (K : LK G d f k (ad 11 0) (ad 13 0) (ad 103 0)) : X G vL_law (d + 14) (22 * f + 22, 400 * f + 400) 877 [(0, some (.ref (scA G))), (1, some (.ref (ad 11 0))), (2, some (.ref (ad 13 0))), (3, some (.ref (ad 103 0))), (4, some (.int (nI k)))] [] (MM ad nb b r I L) (QZ G) := by
  obtain ⟨⟨hS, hz0, hT2, hn0, hrb, hq9⟩, hC, hM⟩ := id hI
  refine x_bud (B' := (22 * f, 400 * f)) (Nat.le_add_right _ _) (Nat.le_add_right _ _) ?_
  refine x_aload_n dL_law_877 rfl ?_
  refine x_cvi (x_judge_c (d := d + 9) hS hC.1) kL_91 dL_law_878 rfl (Nat.le_of_ble_eq_true rfl) rfl rfl (Nat.le_of_ble_eq_true rfl) (fun ru Mu hq => ?_)
  obtain ⟨hru, I1, rfl, hk1⟩ := hq
  subst hru
  have q4 := qo_judge (V := V) (N := N) 
  have c1 := hC.kx hk1 q4.2
  have m1 := hM.fr (kx_m hk1)
  refine x_aload_n dL_law_881 rfl ?_
  refine x_cvi (m_judge (d := d + 12) hS.1 m1.1 hS.2.1 m1.2.1.1) kL_94 dL_law_882 rfl (Nat.le_of_ble_eq_true rfl) rfl rfl (Nat.le_of_ble_eq_true rfl) (fun ru Mu hq => ?_)
  obtain ⟨hru, I2, rfl, hk2⟩ := hq
  subst hru
  have m2 := m1.km hk2 q4.2
  have c2 := c1.fr (km_c hk2)
  refine x_ic_eq 1716 dL_law_885 (by decide) (fun h885 => ?_) (fun h885 => absurd rfl h885)
  refine x_ls ?_ (K V N h mk T n _ fa w ad nb b r I2 _ ⟨⟨hS, hz0, hT2, hn0, hrb, q4.1⟩, c2, m2⟩ ⟨rfl, rfl, rfl⟩)
  exact ⟨rfl, rfl, rfl, rfl, rfl, trivial⟩
set_option maxRecDepth 100000 in
set_option maxHeartbeats 600000 in
theorem lc_890 (hL : scN G ≤ 3072) (hk : k + 6 ≤ scN G) (hI : IV V N h mk T n q fa w nb b r I) (K : LK G d f k (ad 11 0) (ad 13 0) (ad 103 0)) : X G vL_law (d + 14) (22 * f + 22, 400 * f + 400) 890 [(0, some (.ref (scA G))), (1, some (.ref (ad 11 0))), (2, some (.ref (ad 13 0))), (3, some (.ref (ad 103 0))), (4, some (.int (nI k)))] [] (MM ad nb b r I L) (QZ G) := by
  obtain ⟨⟨hS, hz0, hT2, hn0, hrb, hq9⟩, hC, hM⟩ := id hI
  refine x_bud (B' := (22 * f, 400 * f)) (Nat.le_add_right _ _) (Nat.le_add_right _ _) ?_
  refine x_aload_n dL_law_890 rfl ?_
  refine x_cvi (x_wrongly_c (d := d + 9) hS hC.1) kL_95 dL_law_891 rfl (Nat.le_of_ble_eq_true rfl) rfl rfl (Nat.le_of_ble_eq_true rfl) (fun ru Mu hq => ?_)
  obtain ⟨hru, I1, rfl, hk1⟩ := hq
  subst hru
  have q4 := qo_wrongly (V := V) (N := N) 
  have c1 := hC.kx hk1 q4.2
  have m1 := hM.fr (kx_m hk1)
  refine x_aload_n dL_law_894 rfl ?_
  refine x_cvi (m_wrongly (d := d + 8) hS.1 m1.1 hS.2.1 m1.2.1.1) kL_98 dL_law_895 rfl (Nat.le_of_ble_eq_true rfl) rfl rfl (Nat.le_of_ble_eq_true rfl) (fun ru Mu hq => ?_)
  obtain ⟨hru, I2, rfl, hk2⟩ := hq
  subst hru
  have m2 := m1.km hk2 q4.2
  have c2 := c1.fr (km_c hk2)
  refine x_ic_eq 1716 dL_law_898 (by decide) (fun h898 => ?_) (fun h898 => absurd rfl h898)
  refine x_ls ?_ (K V N h mk T n _ fa w ad nb b r I2 _ ⟨⟨hS, hz0, hT2, hn0, hrb, q4.1⟩, c2, m2⟩ ⟨rfl, rfl, rfl⟩)
  exact ⟨rfl, rfl, rfl, rfl, rfl, trivial⟩
set_option maxRecDepth 100000 in
set_option maxHeartbeats 600000 in
theorem lc_903 (hL : scN G ≤ 3072) (hk : k + 6 ≤ scN G) (hI : IV V N h mk T n q fa w nb b r I) (K : LK G d f k (ad 11 0) (ad 13 0) (ad 103 0)) : X G vL_law (d + 14) (22 * f + 22, 400 * f + 400) 903 [(0, some (.ref (scA G))), (1, some (.ref (ad 11 0))), (2, some (.ref (ad 13 0))), (3, some (.ref (ad 103 0))), (4, some (.int (nI k)))] [] (MM ad nb b r I L) (QZ G) := by
  obtain ⟨⟨hS, hz0, hT2, hn0, hrb, hq9⟩, hC, hM⟩ := id hI
  refine x_bud (B' := (22 * f, 400 * f)) (Nat.le_add_right _ _) (Nat.le_add_right _ _) ?_
  refine x_aload_n dL_law_903 rfl ?_
  refine x_aload_n dL_law_904 rfl ?_
  refine x_iload dL_law_905 rfl ?_
  refine x_iconst dL_law_907 li_1 ?_
  refine x_iaddN dL_law_908 ?_
  refine x_scrL dL_law_909 rfl (by first | exact Nat.le_of_ble_eq_true rfl | assumption | omega) ?_
  refine x_aload_n dL_law_910 rfl ?_
  refine x_iload dL_law_911 rfl ?_
  refine x_iconst dL_law_913 li_2 ?_
  refine x_iaddN dL_law_914 ?_
  refine x_scrL dL_law_915 rfl (by first | exact Nat.le_of_ble_eq_true rfl | assumption | omega) ?_
  refine x_cvi (x_quickest_c (d := d + 2) hS hC.1) kL_99 dL_law_916 rfl (Nat.le_of_ble_eq_true rfl) rfl rfl (Nat.le_of_ble_eq_true rfl) (fun ru Mu hq => ?_)
  obtain ⟨hru, I1, rfl, hk1⟩ := hq
  subst hru
  have q4 := qo_way (V := V) (N := N) (z1 := scX G (k + 1)) (z2 := scX G (k + 2)) (k := 0)
  have c1 := hC.kx hk1 q4.2
  have m1 := hM.fr (kx_m hk1)
  refine x_aload_n dL_law_919 rfl ?_
  refine x_aload_n dL_law_920 rfl ?_
  refine x_iload dL_law_921 rfl ?_
  refine x_iconst dL_law_923 li_1 ?_
  refine x_iaddN dL_law_924 ?_
  refine x_scrL dL_law_925 rfl (by first | exact Nat.le_of_ble_eq_true rfl | assumption | omega) ?_
  refine x_aload_n dL_law_926 rfl ?_
  refine x_iload dL_law_927 rfl ?_
  refine x_iconst dL_law_929 li_2 ?_
  refine x_iaddN dL_law_930 ?_
  refine x_scrL dL_law_931 rfl (by first | exact Nat.le_of_ble_eq_true rfl | assumption | omega) ?_
  refine x_cvi (m_quickest (d := d + 6) hS.1 m1.1 hS.2.1 m1.2.1.1) kL_102 dL_law_932 rfl (Nat.le_of_ble_eq_true rfl) rfl rfl (Nat.le_of_ble_eq_true rfl) (fun ru Mu hq => ?_)
  obtain ⟨hru, I2, rfl, hk2⟩ := hq
  subst hru
  have m2 := m1.km hk2 q4.2
  have c2 := c1.fr (km_c hk2)
  refine x_ic_eq 1716 dL_law_935 (by decide) (fun h935 => ?_) (fun h935 => absurd rfl h935)
  refine x_ls ?_ (K V N h mk T n _ fa w ad nb b r I2 _ ⟨⟨hS, hz0, hT2, hn0, hrb, q4.1⟩, c2, m2⟩ ⟨rfl, rfl, rfl⟩)
  exact ⟨rfl, rfl, rfl, rfl, rfl, trivial⟩
set_option maxRecDepth 100000 in
set_option maxHeartbeats 600000 in
theorem lc_940 (hL : scN G ≤ 3072) (hk : k + 6 ≤ scN G) (hI : IV V N h mk T n q fa w nb b r I) (K : LK G d f k (ad 11 0) (ad 13 0) (ad 103 0)) : X G vL_law (d + 14) (22 * f + 22, 400 * f + 400) 940 [(0, some (.ref (scA G))), (1, some (.ref (ad 11 0))), (2, some (.ref (ad 13 0))), (3, some (.ref (ad 103 0))), (4, some (.int (nI k)))] [] (MM ad nb b r I L) (QZ G) := by
  obtain ⟨⟨hS, hz0, hT2, hn0, hrb, hq9⟩, hC, hM⟩ := id hI
  refine x_bud (B' := (22 * f, 400 * f)) (Nat.le_add_right _ _) (Nat.le_add_right _ _) ?_
  refine x_aload_n dL_law_940 rfl ?_
  refine x_aload_n dL_law_941 rfl ?_
  refine x_iload dL_law_942 rfl ?_
  refine x_iconst dL_law_944 li_1 ?_
  refine x_iaddN dL_law_945 ?_
  refine x_scrL dL_law_946 rfl (by first | exact Nat.le_of_ble_eq_true rfl | assumption | omega) ?_
  refine x_aload_n dL_law_947 rfl ?_
  refine x_iload dL_law_948 rfl ?_
  refine x_iconst dL_law_950 li_2 ?_
  refine x_iaddN dL_law_951 ?_
  refine x_scrL dL_law_952 rfl (by first | exact Nat.le_of_ble_eq_true rfl | assumption | omega) ?_
  refine x_cvi (x_cheapest_c (d := d + 2) hS hC.1) kL_103 dL_law_953 rfl (Nat.le_of_ble_eq_true rfl) rfl rfl (Nat.le_of_ble_eq_true rfl) (fun ru Mu hq => ?_)
  obtain ⟨hru, I1, rfl, hk1⟩ := hq
  subst hru
  have q4 := qo_way (V := V) (N := N) (z1 := scX G (k + 1)) (z2 := scX G (k + 2)) (k := 1)
  have c1 := hC.kx hk1 q4.2
  have m1 := hM.fr (kx_m hk1)
  refine x_aload_n dL_law_956 rfl ?_
  refine x_aload_n dL_law_957 rfl ?_
  refine x_iload dL_law_958 rfl ?_
  refine x_iconst dL_law_960 li_1 ?_
  refine x_iaddN dL_law_961 ?_
  refine x_scrL dL_law_962 rfl (by first | exact Nat.le_of_ble_eq_true rfl | assumption | omega) ?_
  refine x_aload_n dL_law_963 rfl ?_
  refine x_iload dL_law_964 rfl ?_
  refine x_iconst dL_law_966 li_2 ?_
  refine x_iaddN dL_law_967 ?_
  refine x_scrL dL_law_968 rfl (by first | exact Nat.le_of_ble_eq_true rfl | assumption | omega) ?_
  refine x_cvi (m_cheapest (d := d + 6) hS.1 m1.1 hS.2.1 m1.2.1.1) kL_106 dL_law_969 rfl (Nat.le_of_ble_eq_true rfl) rfl rfl (Nat.le_of_ble_eq_true rfl) (fun ru Mu hq => ?_)
  obtain ⟨hru, I2, rfl, hk2⟩ := hq
  subst hru
  have m2 := m1.km hk2 q4.2
  have c2 := c1.fr (km_c hk2)
  refine x_ic_eq 1716 dL_law_972 (by decide) (fun h972 => ?_) (fun h972 => absurd rfl h972)
  refine x_ls ?_ (K V N h mk T n _ fa w ad nb b r I2 _ ⟨⟨hS, hz0, hT2, hn0, hrb, q4.1⟩, c2, m2⟩ ⟨rfl, rfl, rfl⟩)
  exact ⟨rfl, rfl, rfl, rfl, rfl, trivial⟩
set_option maxRecDepth 100000 in
set_option maxHeartbeats 600000 in
theorem lc_977 (hL : scN G ≤ 3072) (hk : k + 6 ≤ scN G) (hI : IV V N h mk T n q fa w nb b r I) (K : LK G d f k (ad 11 0) (ad 13 0) (ad 103 0)) : X G vL_law (d + 14) (22 * f + 22, 400 * f + 400) 977 [(0, some (.ref (scA G))), (1, some (.ref (ad 11 0))), (2, some (.ref (ad 13 0))), (3, some (.ref (ad 103 0))), (4, some (.int (nI k)))] [] (MM ad nb b r I L) (QZ G) := by
  obtain ⟨⟨hS, hz0, hT2, hn0, hrb, hq9⟩, hC, hM⟩ := id hI
  refine x_bud (B' := (22 * f, 400 * f)) (Nat.le_add_right _ _) (Nat.le_add_right _ _) ?_
  refine x_aload_n dL_law_977 rfl ?_
  refine x_aload_n dL_law_978 rfl ?_
  refine x_iload dL_law_979 rfl ?_
  refine x_iconst dL_law_981 li_1 ?_
  refine x_iaddN dL_law_982 ?_
  refine x_scrL dL_law_983 rfl (by first | exact Nat.le_of_ble_eq_true rfl | assumption | omega) ?_
  refine x_aload_n dL_law_984 rfl ?_
  refine x_iload dL_law_985 rfl ?_
  refine x_iconst dL_law_987 li_2 ?_
  refine x_iaddN dL_law_988 ?_
  refine x_scrL dL_law_989 rfl (by first | exact Nat.le_of_ble_eq_true rfl | assumption | omega) ?_
  refine x_cvi (x_secret_c (d := d + 2) hS hC.1) kL_107 dL_law_990 rfl (Nat.le_of_ble_eq_true rfl) rfl rfl (Nat.le_of_ble_eq_true rfl) (fun ru Mu hq => ?_)
  obtain ⟨hru, I1, rfl, hk1⟩ := hq
  subst hru
  have q4 := qo_way (V := V) (N := N) (z1 := scX G (k + 1)) (z2 := scX G (k + 2)) (k := 2)
  have c1 := hC.kx hk1 q4.2
  have m1 := hM.fr (kx_m hk1)
  refine x_aload_n dL_law_993 rfl ?_
  refine x_aload_n dL_law_994 rfl ?_
  refine x_iload dL_law_995 rfl ?_
  refine x_iconst dL_law_997 li_1 ?_
  refine x_iaddN dL_law_998 ?_
  refine x_scrL dL_law_999 rfl (by first | exact Nat.le_of_ble_eq_true rfl | assumption | omega) ?_
  refine x_aload_n dL_law_1000 rfl ?_
  refine x_iload dL_law_1001 rfl ?_
  refine x_iconst dL_law_1003 li_2 ?_
  refine x_iaddN dL_law_1004 ?_
  refine x_scrL dL_law_1005 rfl (by first | exact Nat.le_of_ble_eq_true rfl | assumption | omega) ?_
  refine x_cvi (m_secret (d := d + 6) hS.1 m1.1 hS.2.1 m1.2.1.1) kL_110 dL_law_1006 rfl (Nat.le_of_ble_eq_true rfl) rfl rfl (Nat.le_of_ble_eq_true rfl) (fun ru Mu hq => ?_)
  obtain ⟨hru, I2, rfl, hk2⟩ := hq
  subst hru
  have m2 := m1.km hk2 q4.2
  have c2 := c1.fr (km_c hk2)
  refine x_ic_eq 1716 dL_law_1009 (by decide) (fun h1009 => ?_) (fun h1009 => absurd rfl h1009)
  refine x_ls ?_ (K V N h mk T n _ fa w ad nb b r I2 _ ⟨⟨hS, hz0, hT2, hn0, hrb, q4.1⟩, c2, m2⟩ ⟨rfl, rfl, rfl⟩)
  exact ⟨rfl, rfl, rfl, rfl, rfl, trivial⟩
set_option maxRecDepth 100000 in
set_option maxHeartbeats 600000 in
theorem lc_1014 (hL : scN G ≤ 3072) (hk : k + 6 ≤ scN G) (hI : IV V N h mk T n q fa w nb b r I) (K : LK G d f k (ad 11 0) (ad 13 0) (ad 103 0)) : X G vL_law (d + 14) (22 * f + 22, 400 * f + 400) 1014 [(0, some (.ref (scA G))), (1, some (.ref (ad 11 0))), (2, some (.ref (ad 13 0))), (3, some (.ref (ad 103 0))), (4, some (.int (nI k)))] [] (MM ad nb b r I L) (QZ G) := by
  obtain ⟨⟨hS, hz0, hT2, hn0, hrb, hq9⟩, hC, hM⟩ := id hI
  refine x_bud (B' := (22 * f, 400 * f)) (Nat.le_add_right _ _) (Nat.le_add_right _ _) ?_
  refine x_aload_n dL_law_1014 rfl ?_
  refine x_aload_n dL_law_1015 rfl ?_
  refine x_iload dL_law_1016 rfl ?_
  refine x_iconst dL_law_1018 li_1 ?_
  refine x_iaddN dL_law_1019 ?_
  refine x_scrL dL_law_1020 rfl (by first | exact Nat.le_of_ble_eq_true rfl | assumption | omega) ?_
  refine x_aload_n dL_law_1021 rfl ?_
  refine x_iload dL_law_1022 rfl ?_
  refine x_iconst dL_law_1024 li_2 ?_
  refine x_iaddN dL_law_1025 ?_
  refine x_scrL dL_law_1026 rfl (by first | exact Nat.le_of_ble_eq_true rfl | assumption | omega) ?_
  refine x_aload_n dL_law_1027 rfl ?_
  refine x_iload dL_law_1028 rfl ?_
  refine x_iconst dL_law_1030 li_3 ?_
  refine x_iaddN dL_law_1031 ?_
  refine x_scrL dL_law_1032 rfl (by first | exact Nat.le_of_ble_eq_true rfl | assumption | omega) ?_
  refine x_aload_n dL_law_1033 rfl ?_
  refine x_iload dL_law_1034 rfl ?_
  refine x_iconst dL_law_1036 li_4 ?_
  refine x_iaddN dL_law_1037 ?_
  refine x_scrL dL_law_1038 rfl (by first | exact Nat.le_of_ble_eq_true rfl | assumption | omega) ?_
  refine x_cvi (x_wayAt_c (d := d + 2) hS hC.1) kL_111 dL_law_1039 rfl (Nat.le_of_ble_eq_true rfl) rfl rfl (Nat.le_of_ble_eq_true rfl) (fun ru Mu hq => ?_)
  obtain ⟨hru, I1, rfl, hk1⟩ := hq
  subst hru
  have q4 := qo_wayAt (V := V) (N := N) (z1 := scX G (k + 1)) (z2 := scX G (k + 2)) (z3 := scX G (k + 3)) (z4 := scX G (k + 4))
  have c1 := hC.kx hk1 q4.2
  have m1 := hM.fr (kx_m hk1)
  refine x_aload_n dL_law_1042 rfl ?_
  refine x_aload_n dL_law_1043 rfl ?_
  refine x_iload dL_law_1044 rfl ?_
  refine x_iconst dL_law_1046 li_1 ?_
  refine x_iaddN dL_law_1047 ?_
  refine x_scrL dL_law_1048 rfl (by first | exact Nat.le_of_ble_eq_true rfl | assumption | omega) ?_
  refine x_aload_n dL_law_1049 rfl ?_
  refine x_iload dL_law_1050 rfl ?_
  refine x_iconst dL_law_1052 li_2 ?_
  refine x_iaddN dL_law_1053 ?_
  refine x_scrL dL_law_1054 rfl (by first | exact Nat.le_of_ble_eq_true rfl | assumption | omega) ?_
  refine x_aload_n dL_law_1055 rfl ?_
  refine x_iload dL_law_1056 rfl ?_
  refine x_iconst dL_law_1058 li_3 ?_
  refine x_iaddN dL_law_1059 ?_
  refine x_scrL dL_law_1060 rfl (by first | exact Nat.le_of_ble_eq_true rfl | assumption | omega) ?_
  refine x_aload_n dL_law_1061 rfl ?_
  refine x_iload dL_law_1062 rfl ?_
  refine x_iconst dL_law_1064 li_4 ?_
  refine x_iaddN dL_law_1065 ?_
  refine x_scrL dL_law_1066 rfl (by first | exact Nat.le_of_ble_eq_true rfl | assumption | omega) ?_
  refine x_cvi (m_wayAt (d := d + 6) hS.1 m1.1 hS.2.1 m1.2.1.1) kL_115 dL_law_1067 rfl (Nat.le_of_ble_eq_true rfl) rfl rfl (Nat.le_of_ble_eq_true rfl) (fun ru Mu hq => ?_)
  obtain ⟨hru, I2, rfl, hk2⟩ := hq
  subst hru
  have m2 := m1.km hk2 q4.2
  have c2 := c1.fr (km_c hk2)
  refine x_ic_eq 1716 dL_law_1070 (by decide) (fun h1070 => ?_) (fun h1070 => absurd rfl h1070)
  refine x_ls ?_ (K V N h mk T n _ fa w ad nb b r I2 _ ⟨⟨hS, hz0, hT2, hn0, hrb, q4.1⟩, c2, m2⟩ ⟨rfl, rfl, rfl⟩)
  exact ⟨rfl, rfl, rfl, rfl, rfl, trivial⟩
set_option maxRecDepth 100000 in
set_option maxHeartbeats 600000 in
theorem lc_1075 (hL : scN G ≤ 3072) (hk : k + 6 ≤ scN G) (hI : IV V N h mk T n q fa w nb b r I) (K : LK G d f k (ad 11 0) (ad 13 0) (ad 103 0)) : X G vL_law (d + 14) (22 * f + 22, 400 * f + 400) 1075 [(0, some (.ref (scA G))), (1, some (.ref (ad 11 0))), (2, some (.ref (ad 13 0))), (3, some (.ref (ad 103 0))), (4, some (.int (nI k)))] [] (MM ad nb b r I L) (QZ G) := by
  obtain ⟨⟨hS, hz0, hT2, hn0, hrb, hq9⟩, hC, hM⟩ := id hI
  refine x_bud (B' := (22 * f, 400 * f)) (Nat.le_add_right _ _) (Nat.le_add_right _ _) ?_
  refine x_aload_n dL_law_1075 rfl ?_
  refine x_cvi (x_rounds_c (d := d + 2) hS hC.1) kL_116 dL_law_1076 rfl (Nat.le_of_ble_eq_true rfl) rfl rfl (Nat.le_of_ble_eq_true rfl) (fun ru Mu hq => ?_)
  obtain ⟨hru, I1, rfl, hk1⟩ := hq
  subst hru
  have q4 := qo_rounds (V := V) (N := N) 
  have c1 := hC.kx hk1 q4.2
  have m1 := hM.fr (kx_m hk1)
  refine x_aload_n dL_law_1079 rfl ?_
  refine x_cvi (m_rounds (d := d + 6) hS.1 m1.1 hS.2.1 m1.2.1.1) kL_119 dL_law_1080 rfl (Nat.le_of_ble_eq_true rfl) rfl rfl (Nat.le_of_ble_eq_true rfl) (fun ru Mu hq => ?_)
  obtain ⟨hru, I2, rfl, hk2⟩ := hq
  subst hru
  have m2 := m1.km hk2 q4.2
  have c2 := c1.fr (km_c hk2)
  refine x_ic_eq 1716 dL_law_1083 (by decide) (fun h1083 => ?_) (fun h1083 => absurd rfl h1083)
  refine x_ls ?_ (K V N h mk T n _ fa w ad nb b r I2 _ ⟨⟨hS, hz0, hT2, hn0, hrb, q4.1⟩, c2, m2⟩ ⟨rfl, rfl, rfl⟩)
  exact ⟨rfl, rfl, rfl, rfl, rfl, trivial⟩
set_option maxRecDepth 100000 in
set_option maxHeartbeats 600000 in
theorem lc_1088 (hL : scN G ≤ 3072) (hk : k + 6 ≤ scN G) (hI : IV V N h mk T n q fa w nb b r I) (K : LK G d f k (ad 11 0) (ad 13 0) (ad 103 0)) : X G vL_law (d + 14) (22 * f + 22, 400 * f + 400) 1088 [(0, some (.ref (scA G))), (1, some (.ref (ad 11 0))), (2, some (.ref (ad 13 0))), (3, some (.ref (ad 103 0))), (4, some (.int (nI k)))] [] (MM ad nb b r I L) (QZ G) := by
  obtain ⟨⟨hS, hz0, hT2, hn0, hrb, hq9⟩, hC, hM⟩ := id hI
  refine x_bud (B' := (22 * f, 400 * f)) (Nat.le_add_right _ _) (Nat.le_add_right _ _) ?_
  refine x_aload_n dL_law_1088 rfl ?_
  refine x_aload_n dL_law_1089 rfl ?_
  refine x_iload dL_law_1090 rfl ?_
  refine x_iconst dL_law_1092 li_1 ?_
  refine x_iaddN dL_law_1093 ?_
  refine x_scrL dL_law_1094 rfl (by first | exact Nat.le_of_ble_eq_true rfl | assumption | omega) ?_
  refine x_aload_n dL_law_1095 rfl ?_
  refine x_iload dL_law_1096 rfl ?_
  refine x_iconst dL_law_1098 li_2 ?_
  refine x_iaddN dL_law_1099 ?_
  refine x_scrL dL_law_1100 rfl (by first | exact Nat.le_of_ble_eq_true rfl | assumption | omega) ?_
  refine x_aload_n dL_law_1101 rfl ?_
  refine x_iload dL_law_1102 rfl ?_
  refine x_iconst dL_law_1104 li_3 ?_
  refine x_iaddN dL_law_1105 ?_
  refine x_scrL dL_law_1106 rfl (by first | exact Nat.le_of_ble_eq_true rfl | assumption | omega) ?_
  refine x_cvi (x_cover_c (d := d + 2) hS hC.1) kL_120 dL_law_1107 rfl (Nat.le_of_ble_eq_true rfl) rfl rfl (Nat.le_of_ble_eq_true rfl) (fun ru Mu hq => ?_)
  obtain ⟨hru, I1, rfl, hk1⟩ := hq
  subst hru
  have q4 := qo_cover (V := V) (N := N) (z1 := scX G (k + 1)) (z2 := scX G (k + 2)) (z3 := scX G (k + 3))
  have c1 := hC.kx hk1 q4.2
  have m1 := hM.fr (kx_m hk1)
  refine x_aload_n dL_law_1110 rfl ?_
  refine x_aload_n dL_law_1111 rfl ?_
  refine x_iload dL_law_1112 rfl ?_
  refine x_iconst dL_law_1114 li_1 ?_
  refine x_iaddN dL_law_1115 ?_
  refine x_scrL dL_law_1116 rfl (by first | exact Nat.le_of_ble_eq_true rfl | assumption | omega) ?_
  refine x_aload_n dL_law_1117 rfl ?_
  refine x_iload dL_law_1118 rfl ?_
  refine x_iconst dL_law_1120 li_2 ?_
  refine x_iaddN dL_law_1121 ?_
  refine x_scrL dL_law_1122 rfl (by first | exact Nat.le_of_ble_eq_true rfl | assumption | omega) ?_
  refine x_aload_n dL_law_1123 rfl ?_
  refine x_iload dL_law_1124 rfl ?_
  refine x_iconst dL_law_1126 li_3 ?_
  refine x_iaddN dL_law_1127 ?_
  refine x_scrL dL_law_1128 rfl (by first | exact Nat.le_of_ble_eq_true rfl | assumption | omega) ?_
  refine x_cvi (m_cover (d := d + 6) hS.1 m1.1 hS.2.1 m1.2.1.1) kL_123 dL_law_1129 rfl (Nat.le_of_ble_eq_true rfl) rfl rfl (Nat.le_of_ble_eq_true rfl) (fun ru Mu hq => ?_)
  obtain ⟨hru, I2, rfl, hk2⟩ := hq
  subst hru
  have m2 := m1.km hk2 q4.2
  have c2 := c1.fr (km_c hk2)
  refine x_ic_eq 1716 dL_law_1132 (by decide) (fun h1132 => ?_) (fun h1132 => absurd rfl h1132)
  refine x_ls ?_ (K V N h mk T n _ fa w ad nb b r I2 _ ⟨⟨hS, hz0, hT2, hn0, hrb, q4.1⟩, c2, m2⟩ ⟨rfl, rfl, rfl⟩)
  exact ⟨rfl, rfl, rfl, rfl, rfl, trivial⟩
set_option maxRecDepth 100000 in
set_option maxHeartbeats 600000 in
theorem lc_1137 (hL : scN G ≤ 3072) (hk : k + 6 ≤ scN G) (hI : IV V N h mk T n q fa w nb b r I) (K : LK G d f k (ad 11 0) (ad 13 0) (ad 103 0)) : X G vL_law (d + 14) (22 * f + 22, 400 * f + 400) 1137 [(0, some (.ref (scA G))), (1, some (.ref (ad 11 0))), (2, some (.ref (ad 13 0))), (3, some (.ref (ad 103 0))), (4, some (.int (nI k)))] [] (MM ad nb b r I L) (QZ G) := by
  obtain ⟨⟨hS, hz0, hT2, hn0, hrb, hq9⟩, hC, hM⟩ := id hI
  refine x_bud (B' := (22 * f, 400 * f)) (Nat.le_add_right _ _) (Nat.le_add_right _ _) ?_
  refine x_aload_n dL_law_1137 rfl ?_
  refine x_cvi (x_been_c (d := d + 5) hS hC.1) kL_124 dL_law_1138 rfl (Nat.le_of_ble_eq_true rfl) rfl rfl (Nat.le_of_ble_eq_true rfl) (fun ru Mu hq => ?_)
  obtain ⟨hru, I1, rfl, hk1⟩ := hq
  subst hru
  have q4 := qo_been (V := V) 
  have c1 := hC.kx hk1 q4.2
  have m1 := hM.fr (kx_m hk1)
  refine x_aload_n dL_law_1141 rfl ?_
  refine x_cvi (m_been (d := d + 7) hS.1 m1.1) kL_127 dL_law_1142 rfl (Nat.le_of_ble_eq_true rfl) rfl rfl (Nat.le_of_ble_eq_true rfl) (fun ru Mu hq => ?_)
  obtain ⟨hru, I2, rfl, hk2⟩ := hq
  subst hru
  have m2 := m1.km hk2 q4.2
  have c2 := c1.fr (km_c hk2)
  refine x_ic_eq 1716 dL_law_1145 (by decide) (fun h1145 => ?_) (fun h1145 => absurd rfl h1145)
  refine x_ls ?_ (K V N h mk T n _ fa w ad nb b r I2 _ ⟨⟨hS, hz0, hT2, hn0, hrb, q4.1⟩, c2, m2⟩ ⟨rfl, rfl, rfl⟩)
  exact ⟨rfl, rfl, rfl, rfl, rfl, trivial⟩
set_option maxRecDepth 100000 in
set_option maxHeartbeats 600000 in
theorem lc_1150 (hL : scN G ≤ 3072) (hk : k + 6 ≤ scN G) (hI : IV V N h mk T n q fa w nb b r I) (K : LK G d f k (ad 11 0) (ad 13 0) (ad 103 0)) : X G vL_law (d + 14) (22 * f + 22, 400 * f + 400) 1150 [(0, some (.ref (scA G))), (1, some (.ref (ad 11 0))), (2, some (.ref (ad 13 0))), (3, some (.ref (ad 103 0))), (4, some (.int (nI k)))] [] (MM ad nb b r I L) (QZ G) := by
  obtain ⟨⟨hS, hz0, hT2, hn0, hrb, hq9⟩, hC, hM⟩ := id hI
  refine x_bud (B' := (22 * f, 400 * f)) (Nat.le_add_right _ _) (Nat.le_add_right _ _) ?_
  refine x_aload_n dL_law_1150 rfl ?_
  refine x_cvi (x_could_c (d := d + 5) hS hC.1) kL_128 dL_law_1151 rfl (Nat.le_of_ble_eq_true rfl) rfl rfl (Nat.le_of_ble_eq_true rfl) (fun ru Mu hq => ?_)
  obtain ⟨hru, I1, rfl, hk1⟩ := hq
  subst hru
  have q4 := qo_could (V := V) 
  have c1 := hC.kx hk1 q4.2
  have m1 := hM.fr (kx_m hk1)
  refine x_aload_n dL_law_1154 rfl ?_
  refine x_cvi (m_could (d := d + 7) hS.1 m1.1) kL_131 dL_law_1155 rfl (Nat.le_of_ble_eq_true rfl) rfl rfl (Nat.le_of_ble_eq_true rfl) (fun ru Mu hq => ?_)
  obtain ⟨hru, I2, rfl, hk2⟩ := hq
  subst hru
  have m2 := m1.km hk2 q4.2
  have c2 := c1.fr (km_c hk2)
  refine x_ic_eq 1716 dL_law_1158 (by decide) (fun h1158 => ?_) (fun h1158 => absurd rfl h1158)
  refine x_ls ?_ (K V N h mk T n _ fa w ad nb b r I2 _ ⟨⟨hS, hz0, hT2, hn0, hrb, q4.1⟩, c2, m2⟩ ⟨rfl, rfl, rfl⟩)
  exact ⟨rfl, rfl, rfl, rfl, rfl, trivial⟩
set_option maxRecDepth 100000 in
set_option maxHeartbeats 600000 in
theorem lc_1163 (hL : scN G ≤ 3072) (hk : k + 6 ≤ scN G) (hI : IV V N h mk T n q fa w nb b r I) (K : LK G d f k (ad 11 0) (ad 13 0) (ad 103 0)) : X G vL_law (d + 14) (22 * f + 22, 400 * f + 400) 1163 [(0, some (.ref (scA G))), (1, some (.ref (ad 11 0))), (2, some (.ref (ad 13 0))), (3, some (.ref (ad 103 0))), (4, some (.int (nI k)))] [] (MM ad nb b r I L) (QZ G) := by
  obtain ⟨⟨hS, hz0, hT2, hn0, hrb, hq9⟩, hC, hM⟩ := id hI
  refine x_bud (B' := (22 * f, 400 * f)) (Nat.le_add_right _ _) (Nat.le_add_right _ _) ?_
  refine x_aload_n dL_law_1163 rfl ?_
  refine x_cvi (x_surely_c (d := d + 5) hS hC.1) kL_132 dL_law_1164 rfl (Nat.le_of_ble_eq_true rfl) rfl rfl (Nat.le_of_ble_eq_true rfl) (fun ru Mu hq => ?_)
  obtain ⟨hru, I1, rfl, hk1⟩ := hq
  subst hru
  have q4 := qo_surely (V := V) 
  have c1 := hC.kx hk1 q4.2
  have m1 := hM.fr (kx_m hk1)
  refine x_aload_n dL_law_1167 rfl ?_
  refine x_cvi (m_surely (d := d + 7) hS.1 m1.1) kL_135 dL_law_1168 rfl (Nat.le_of_ble_eq_true rfl) rfl rfl (Nat.le_of_ble_eq_true rfl) (fun ru Mu hq => ?_)
  obtain ⟨hru, I2, rfl, hk2⟩ := hq
  subst hru
  have m2 := m1.km hk2 q4.2
  have c2 := c1.fr (km_c hk2)
  refine x_ic_eq 1716 dL_law_1171 (by decide) (fun h1171 => ?_) (fun h1171 => absurd rfl h1171)
  refine x_ls ?_ (K V N h mk T n _ fa w ad nb b r I2 _ ⟨⟨hS, hz0, hT2, hn0, hrb, q4.1⟩, c2, m2⟩ ⟨rfl, rfl, rfl⟩)
  exact ⟨rfl, rfl, rfl, rfl, rfl, trivial⟩
set_option maxRecDepth 100000 in
set_option maxHeartbeats 600000 in
theorem lc_1176 (hL : scN G ≤ 3072) (hk : k + 6 ≤ scN G) (hI : IV V N h mk T n q fa w nb b r I) (K : LK G d f k (ad 11 0) (ad 13 0) (ad 103 0)) : X G vL_law (d + 14) (22 * f + 22, 400 * f + 400) 1176 [(0, some (.ref (scA G))), (1, some (.ref (ad 11 0))), (2, some (.ref (ad 13 0))), (3, some (.ref (ad 103 0))), (4, some (.int (nI k)))] [] (MM ad nb b r I L) (QZ G) := by
  obtain ⟨⟨hS, hz0, hT2, hn0, hrb, hq9⟩, hC, hM⟩ := id hI
  refine x_bud (B' := (22 * f, 400 * f)) (Nat.le_add_right _ _) (Nat.le_add_right _ _) ?_
  refine x_aload_n dL_law_1176 rfl ?_
  refine x_aload_n dL_law_1177 rfl ?_
  refine x_iload dL_law_1178 rfl ?_
  refine x_iconst dL_law_1180 li_1 ?_
  refine x_iaddN dL_law_1181 ?_
  refine x_scrL dL_law_1182 rfl (by first | exact Nat.le_of_ble_eq_true rfl | assumption | omega) ?_
  refine x_cvi (x_beenAt_c (d := d + 5) hS hC.1) kL_136 dL_law_1183 rfl (Nat.le_of_ble_eq_true rfl) rfl rfl (Nat.le_of_ble_eq_true rfl) (fun ru Mu hq => ?_)
  obtain ⟨hru, I1, rfl, hk1⟩ := hq
  subst hru
  have q4 := qo_beenAt (V := V) (z1 := scX G (k + 1))
  have c1 := hC.kx hk1 q4.2
  have m1 := hM.fr (kx_m hk1)
  refine x_aload_n dL_law_1186 rfl ?_
  refine x_aload_n dL_law_1187 rfl ?_
  refine x_iload dL_law_1188 rfl ?_
  refine x_iconst dL_law_1190 li_1 ?_
  refine x_iaddN dL_law_1191 ?_
  refine x_scrL dL_law_1192 rfl (by first | exact Nat.le_of_ble_eq_true rfl | assumption | omega) ?_
  refine x_cvi (m_beenAt (d := d + 7) hS.1 m1.1) kL_139 dL_law_1193 rfl (Nat.le_of_ble_eq_true rfl) rfl rfl (Nat.le_of_ble_eq_true rfl) (fun ru Mu hq => ?_)
  obtain ⟨hru, I2, rfl, hk2⟩ := hq
  subst hru
  have m2 := m1.km hk2 q4.2
  have c2 := c1.fr (km_c hk2)
  refine x_ic_eq 1716 dL_law_1196 (by decide) (fun h1196 => ?_) (fun h1196 => absurd rfl h1196)
  refine x_ls ?_ (K V N h mk T n _ fa w ad nb b r I2 _ ⟨⟨hS, hz0, hT2, hn0, hrb, q4.1⟩, c2, m2⟩ ⟨rfl, rfl, rfl⟩)
  exact ⟨rfl, rfl, rfl, rfl, rfl, trivial⟩
set_option maxRecDepth 100000 in
set_option maxHeartbeats 600000 in
theorem lc_1201 (hL : scN G ≤ 3072) (hk : k + 6 ≤ scN G) (hI : IV V N h mk T n q fa w nb b r I) (K : LK G d f k (ad 11 0) (ad 13 0) (ad 103 0)) : X G vL_law (d + 14) (22 * f + 22, 400 * f + 400) 1201 [(0, some (.ref (scA G))), (1, some (.ref (ad 11 0))), (2, some (.ref (ad 13 0))), (3, some (.ref (ad 103 0))), (4, some (.int (nI k)))] [] (MM ad nb b r I L) (QZ G) := by
  obtain ⟨⟨hS, hz0, hT2, hn0, hrb, hq9⟩, hC, hM⟩ := id hI
  refine x_bud (B' := (22 * f, 400 * f)) (Nat.le_add_right _ _) (Nat.le_add_right _ _) ?_
  refine x_aload_n dL_law_1201 rfl ?_
  refine x_cvi (x_posts_c (d := d + 0) hS hC.1) kL_140 dL_law_1202 rfl (Nat.le_of_ble_eq_true rfl) rfl rfl (Nat.le_of_ble_eq_true rfl) (fun ru Mu hq => ?_)
  obtain ⟨hru, I1, rfl, hk1⟩ := hq
  subst hru
  have q4 := qo_posts (V := V) (N := N) 
  have c1 := hC.kx hk1 q4.2
  have m1 := hM.fr (kx_m hk1)
  refine x_aload_n dL_law_1205 rfl ?_
  refine x_cvi (m_posts (d := d + 6) hS.1 m1.1 hS.2.1 m1.2.1.1) kL_143 dL_law_1206 rfl (Nat.le_of_ble_eq_true rfl) rfl rfl (Nat.le_of_ble_eq_true rfl) (fun ru Mu hq => ?_)
  obtain ⟨hru, I2, rfl, hk2⟩ := hq
  subst hru
  have m2 := m1.km hk2 q4.2
  have c2 := c1.fr (km_c hk2)
  refine x_ic_eq 1716 dL_law_1209 (by decide) (fun h1209 => ?_) (fun h1209 => absurd rfl h1209)
  refine x_ls ?_ (K V N h mk T n _ fa w ad nb b r I2 _ ⟨⟨hS, hz0, hT2, hn0, hrb, q4.1⟩, c2, m2⟩ ⟨rfl, rfl, rfl⟩)
  exact ⟨rfl, rfl, rfl, rfl, rfl, trivial⟩
set_option maxRecDepth 100000 in
set_option maxHeartbeats 600000 in
theorem lc_1214 (hL : scN G ≤ 3072) (hk : k + 6 ≤ scN G) (hI : IV V N h mk T n q fa w nb b r I) (K : LK G d f k (ad 11 0) (ad 13 0) (ad 103 0)) : X G vL_law (d + 14) (22 * f + 22, 400 * f + 400) 1214 [(0, some (.ref (scA G))), (1, some (.ref (ad 11 0))), (2, some (.ref (ad 13 0))), (3, some (.ref (ad 103 0))), (4, some (.int (nI k)))] [] (MM ad nb b r I L) (QZ G) := by
  obtain ⟨⟨hS, hz0, hT2, hn0, hrb, hq9⟩, hC, hM⟩ := id hI
  refine x_bud (B' := (22 * f, 400 * f)) (Nat.le_add_right _ _) (Nat.le_add_right _ _) ?_
  refine x_aload_n dL_law_1214 rfl ?_
  refine x_aload_n dL_law_1215 rfl ?_
  refine x_iload dL_law_1216 rfl ?_
  refine x_iconst dL_law_1218 li_1 ?_
  refine x_iaddN dL_law_1219 ?_
  refine x_scrL dL_law_1220 rfl (by first | exact Nat.le_of_ble_eq_true rfl | assumption | omega) ?_
  refine x_cvi (x_postOf_c (d := d + 0) hS hC.1) kL_144 dL_law_1221 rfl (Nat.le_of_ble_eq_true rfl) rfl rfl (Nat.le_of_ble_eq_true rfl) (fun ru Mu hq => ?_)
  obtain ⟨hru, I1, rfl, hk1⟩ := hq
  subst hru
  have q4 := qo_postOf (V := V) (N := N) (z1 := scX G (k + 1))
  have c1 := hC.kx hk1 q4.2
  have m1 := hM.fr (kx_m hk1)
  refine x_aload_n dL_law_1224 rfl ?_
  refine x_aload_n dL_law_1225 rfl ?_
  refine x_iload dL_law_1226 rfl ?_
  refine x_iconst dL_law_1228 li_1 ?_
  refine x_iaddN dL_law_1229 ?_
  refine x_scrL dL_law_1230 rfl (by first | exact Nat.le_of_ble_eq_true rfl | assumption | omega) ?_
  refine x_cvi (m_postOf (d := d + 6) hS.1 m1.1 hS.2.1 m1.2.1.1) kL_147 dL_law_1231 rfl (Nat.le_of_ble_eq_true rfl) rfl rfl (Nat.le_of_ble_eq_true rfl) (fun ru Mu hq => ?_)
  obtain ⟨hru, I2, rfl, hk2⟩ := hq
  subst hru
  have m2 := m1.km hk2 q4.2
  have c2 := c1.fr (km_c hk2)
  refine x_ic_eq 1716 dL_law_1234 (by decide) (fun h1234 => ?_) (fun h1234 => absurd rfl h1234)
  refine x_ls ?_ (K V N h mk T n _ fa w ad nb b r I2 _ ⟨⟨hS, hz0, hT2, hn0, hrb, q4.1⟩, c2, m2⟩ ⟨rfl, rfl, rfl⟩)
  exact ⟨rfl, rfl, rfl, rfl, rfl, trivial⟩
set_option maxRecDepth 100000 in
set_option maxHeartbeats 600000 in
theorem lc_1239 (hL : scN G ≤ 3072) (hk : k + 6 ≤ scN G) (hI : IV V N h mk T n q fa w nb b r I) (K : LK G d f k (ad 11 0) (ad 13 0) (ad 103 0)) : X G vL_law (d + 14) (22 * f + 22, 400 * f + 400) 1239 [(0, some (.ref (scA G))), (1, some (.ref (ad 11 0))), (2, some (.ref (ad 13 0))), (3, some (.ref (ad 103 0))), (4, some (.int (nI k)))] [] (MM ad nb b r I L) (QZ G) := by
  obtain ⟨⟨hS, hz0, hT2, hn0, hrb, hq9⟩, hC, hM⟩ := id hI
  refine x_bud (B' := (22 * f, 400 * f)) (Nat.le_add_right _ _) (Nat.le_add_right _ _) ?_
  refine x_aload_n dL_law_1239 rfl ?_
  refine x_aload_n dL_law_1240 rfl ?_
  refine x_iload dL_law_1241 rfl ?_
  refine x_iconst dL_law_1243 li_1 ?_
  refine x_iaddN dL_law_1244 ?_
  refine x_scrL dL_law_1245 rfl (by first | exact Nat.le_of_ble_eq_true rfl | assumption | omega) ?_
  refine x_aload_n dL_law_1246 rfl ?_
  refine x_iload dL_law_1247 rfl ?_
  refine x_iconst dL_law_1249 li_2 ?_
  refine x_iaddN dL_law_1250 ?_
  refine x_scrL dL_law_1251 rfl (by first | exact Nat.le_of_ble_eq_true rfl | assumption | omega) ?_
  refine x_cvi (x_rests_c (d := d + 1) hS hC.1) kL_148 dL_law_1252 rfl (Nat.le_of_ble_eq_true rfl) rfl rfl (Nat.le_of_ble_eq_true rfl) (fun ru Mu hq => ?_)
  obtain ⟨hru, I1, rfl, hk1⟩ := hq
  subst hru
  have q4 := qo_rests (V := V) (N := N) (z1 := scX G (k + 1)) (z2 := scX G (k + 2))
  have c1 := hC.kx hk1 q4.2
  have m1 := hM.fr (kx_m hk1)
  refine x_aload_n dL_law_1255 rfl ?_
  refine x_aload_n dL_law_1256 rfl ?_
  refine x_iload dL_law_1257 rfl ?_
  refine x_iconst dL_law_1259 li_1 ?_
  refine x_iaddN dL_law_1260 ?_
  refine x_scrL dL_law_1261 rfl (by first | exact Nat.le_of_ble_eq_true rfl | assumption | omega) ?_
  refine x_aload_n dL_law_1262 rfl ?_
  refine x_iload dL_law_1263 rfl ?_
  refine x_iconst dL_law_1265 li_2 ?_
  refine x_iaddN dL_law_1266 ?_
  refine x_scrL dL_law_1267 rfl (by first | exact Nat.le_of_ble_eq_true rfl | assumption | omega) ?_
  refine x_cvi (m_rests (d := d + 5) hS.1 m1.1 hS.2.1 m1.2.1.1) kL_151 dL_law_1268 rfl (Nat.le_of_ble_eq_true rfl) rfl rfl (Nat.le_of_ble_eq_true rfl) (fun ru Mu hq => ?_)
  obtain ⟨hru, I2, rfl, hk2⟩ := hq
  subst hru
  have m2 := m1.km hk2 q4.2
  have c2 := c1.fr (km_c hk2)
  refine x_ic_eq 1716 dL_law_1271 (by decide) (fun h1271 => ?_) (fun h1271 => absurd rfl h1271)
  refine x_ls ?_ (K V N h mk T n _ fa w ad nb b r I2 _ ⟨⟨hS, hz0, hT2, hn0, hrb, q4.1⟩, c2, m2⟩ ⟨rfl, rfl, rfl⟩)
  exact ⟨rfl, rfl, rfl, rfl, rfl, trivial⟩
set_option maxRecDepth 100000 in
set_option maxHeartbeats 600000 in
theorem lc_1276 (hL : scN G ≤ 3072) (hk : k + 6 ≤ scN G) (hI : IV V N h mk T n q fa w nb b r I) (K : LK G d f k (ad 11 0) (ad 13 0) (ad 103 0)) : X G vL_law (d + 14) (22 * f + 22, 400 * f + 400) 1276 [(0, some (.ref (scA G))), (1, some (.ref (ad 11 0))), (2, some (.ref (ad 13 0))), (3, some (.ref (ad 103 0))), (4, some (.int (nI k)))] [] (MM ad nb b r I L) (QZ G) := by
  obtain ⟨⟨hS, hz0, hT2, hn0, hrb, hq9⟩, hC, hM⟩ := id hI
  refine x_bud (B' := (22 * f, 400 * f)) (Nat.le_add_right _ _) (Nat.le_add_right _ _) ?_
  refine x_aload_n dL_law_1276 rfl ?_
  refine x_aload_n dL_law_1277 rfl ?_
  refine x_iload dL_law_1278 rfl ?_
  refine x_iconst dL_law_1280 li_1 ?_
  refine x_iaddN dL_law_1281 ?_
  refine x_scrL dL_law_1282 rfl (by first | exact Nat.le_of_ble_eq_true rfl | assumption | omega) ?_
  refine x_aload_n dL_law_1283 rfl ?_
  refine x_iload dL_law_1284 rfl ?_
  refine x_iconst dL_law_1286 li_2 ?_
  refine x_iaddN dL_law_1287 ?_
  refine x_scrL dL_law_1288 rfl (by first | exact Nat.le_of_ble_eq_true rfl | assumption | omega) ?_
  refine x_cvi (x_rest_c (d := d + 1) hS hC.1) kL_152 dL_law_1289 rfl (Nat.le_of_ble_eq_true rfl) rfl rfl (Nat.le_of_ble_eq_true rfl) (fun ru Mu hq => ?_)
  obtain ⟨hru, I1, rfl, hk1⟩ := hq
  subst hru
  have q4 := qo_rest (V := V) (N := N) (z1 := scX G (k + 1)) (z2 := scX G (k + 2))
  have c1 := hC.kx hk1 q4.2
  have m1 := hM.fr (kx_m hk1)
  refine x_aload_n dL_law_1292 rfl ?_
  refine x_aload_n dL_law_1293 rfl ?_
  refine x_iload dL_law_1294 rfl ?_
  refine x_iconst dL_law_1296 li_1 ?_
  refine x_iaddN dL_law_1297 ?_
  refine x_scrL dL_law_1298 rfl (by first | exact Nat.le_of_ble_eq_true rfl | assumption | omega) ?_
  refine x_aload_n dL_law_1299 rfl ?_
  refine x_iload dL_law_1300 rfl ?_
  refine x_iconst dL_law_1302 li_2 ?_
  refine x_iaddN dL_law_1303 ?_
  refine x_scrL dL_law_1304 rfl (by first | exact Nat.le_of_ble_eq_true rfl | assumption | omega) ?_
  refine x_cvi (m_rest (d := d + 5) hS.1 m1.1 hS.2.1 m1.2.1.1) kL_155 dL_law_1305 rfl (Nat.le_of_ble_eq_true rfl) rfl rfl (Nat.le_of_ble_eq_true rfl) (fun ru Mu hq => ?_)
  obtain ⟨hru, I2, rfl, hk2⟩ := hq
  subst hru
  have m2 := m1.km hk2 q4.2
  have c2 := c1.fr (km_c hk2)
  refine x_ic_eq 1716 dL_law_1308 (by decide) (fun h1308 => ?_) (fun h1308 => absurd rfl h1308)
  refine x_ls ?_ (K V N h mk T n _ fa w ad nb b r I2 _ ⟨⟨hS, hz0, hT2, hn0, hrb, q4.1⟩, c2, m2⟩ ⟨rfl, rfl, rfl⟩)
  exact ⟨rfl, rfl, rfl, rfl, rfl, trivial⟩
set_option maxRecDepth 100000 in
set_option maxHeartbeats 600000 in
theorem lc_1313 (hL : scN G ≤ 3072) (hk : k + 6 ≤ scN G) (hI : IV V N h mk T n q fa w nb b r I) (K : LK G d f k (ad 11 0) (ad 13 0) (ad 103 0)) : X G vL_law (d + 14) (22 * f + 22, 400 * f + 400) 1313 [(0, some (.ref (scA G))), (1, some (.ref (ad 11 0))), (2, some (.ref (ad 13 0))), (3, some (.ref (ad 103 0))), (4, some (.int (nI k)))] [] (MM ad nb b r I L) (QZ G) := by
  obtain ⟨⟨hS, hz0, hT2, hn0, hrb, hq9⟩, hC, hM⟩ := id hI
  refine x_bud (B' := (22 * f, 400 * f)) (Nat.le_add_right _ _) (Nat.le_add_right _ _) ?_
  refine x_aload_n dL_law_1313 rfl ?_
  refine x_aload_n dL_law_1314 rfl ?_
  refine x_iload dL_law_1315 rfl ?_
  refine x_iconst dL_law_1317 li_1 ?_
  refine x_iaddN dL_law_1318 ?_
  refine x_scrL dL_law_1319 rfl (by first | exact Nat.le_of_ble_eq_true rfl | assumption | omega) ?_
  refine x_aload_n dL_law_1320 rfl ?_
  refine x_iload dL_law_1321 rfl ?_
  refine x_iconst dL_law_1323 li_2 ?_
  refine x_iaddN dL_law_1324 ?_
  refine x_scrL dL_law_1325 rfl (by first | exact Nat.le_of_ble_eq_true rfl | assumption | omega) ?_
  refine x_aload_n dL_law_1326 rfl ?_
  refine x_iload dL_law_1327 rfl ?_
  refine x_iconst dL_law_1329 li_3 ?_
  refine x_iaddN dL_law_1330 ?_
  refine x_scrL dL_law_1331 rfl (by first | exact Nat.le_of_ble_eq_true rfl | assumption | omega) ?_
  refine x_cvi (x_winds_c (d := d + 11) hS hC.1 hz0) kL_156 dL_law_1332 rfl (Nat.le_of_ble_eq_true rfl) rfl rfl (Nat.le_of_ble_eq_true rfl) (fun ru Mu hq => ?_)
  obtain ⟨hru, I1, rfl, hk1⟩ := hq
  subst hru
  have q4 := qo_winds (V := V) (N := N) (z1 := scX G (k + 1)) (z2 := scX G (k + 2)) (z3 := scX G (k + 3))
  have c1 := hC.kx hk1 q4.2
  have m1 := hM.fr (kx_m hk1)
  refine x_aload_n dL_law_1335 rfl ?_
  refine x_aload_n dL_law_1336 rfl ?_
  refine x_iload dL_law_1337 rfl ?_
  refine x_iconst dL_law_1339 li_1 ?_
  refine x_iaddN dL_law_1340 ?_
  refine x_scrL dL_law_1341 rfl (by first | exact Nat.le_of_ble_eq_true rfl | assumption | omega) ?_
  refine x_aload_n dL_law_1342 rfl ?_
  refine x_iload dL_law_1343 rfl ?_
  refine x_iconst dL_law_1345 li_2 ?_
  refine x_iaddN dL_law_1346 ?_
  refine x_scrL dL_law_1347 rfl (by first | exact Nat.le_of_ble_eq_true rfl | assumption | omega) ?_
  refine x_aload_n dL_law_1348 rfl ?_
  refine x_iload dL_law_1349 rfl ?_
  refine x_iconst dL_law_1351 li_3 ?_
  refine x_iaddN dL_law_1352 ?_
  refine x_scrL dL_law_1353 rfl (by first | exact Nat.le_of_ble_eq_true rfl | assumption | omega) ?_
  refine x_cvi (m_winds (d := d + 10) hS.1 m1.1 hS.2.1 m1.2.1.1) kL_159 dL_law_1354 rfl (Nat.le_of_ble_eq_true rfl) rfl rfl (Nat.le_of_ble_eq_true rfl) (fun ru Mu hq => ?_)
  obtain ⟨hru, I2, rfl, hk2⟩ := hq
  subst hru
  have m2 := m1.km hk2 q4.2
  have c2 := c1.fr (km_c hk2)
  refine x_ic_eq 1716 dL_law_1357 (by decide) (fun h1357 => ?_) (fun h1357 => absurd rfl h1357)
  refine x_ls ?_ (K V N h mk T n _ fa w ad nb b r I2 _ ⟨⟨hS, hz0, hT2, hn0, hrb, q4.1⟩, c2, m2⟩ ⟨rfl, rfl, rfl⟩)
  exact ⟨rfl, rfl, rfl, rfl, rfl, trivial⟩
set_option maxRecDepth 100000 in
set_option maxHeartbeats 600000 in
theorem lc_1362 (hL : scN G ≤ 3072) (hk : k + 6 ≤ scN G) (hI : IV V N h mk T n q fa w nb b r I) (K : LK G d f k (ad 11 0) (ad 13 0) (ad 103 0)) : X G vL_law (d + 14) (22 * f + 22, 400 * f + 400) 1362 [(0, some (.ref (scA G))), (1, some (.ref (ad 11 0))), (2, some (.ref (ad 13 0))), (3, some (.ref (ad 103 0))), (4, some (.int (nI k)))] [] (MM ad nb b r I L) (QZ G) := by
  obtain ⟨⟨hS, hz0, hT2, hn0, hrb, hq9⟩, hC, hM⟩ := id hI
  refine x_bud (B' := (22 * f, 400 * f)) (Nat.le_add_right _ _) (Nat.le_add_right _ _) ?_
  refine x_aload_n dL_law_1362 rfl ?_
  refine x_aload_n dL_law_1363 rfl ?_
  refine x_iload dL_law_1364 rfl ?_
  refine x_iconst dL_law_1366 li_1 ?_
  refine x_iaddN dL_law_1367 ?_
  refine x_scrL dL_law_1368 rfl (by first | exact Nat.le_of_ble_eq_true rfl | assumption | omega) ?_
  refine x_aload_n dL_law_1369 rfl ?_
  refine x_iload dL_law_1370 rfl ?_
  refine x_iconst dL_law_1372 li_2 ?_
  refine x_iaddN dL_law_1373 ?_
  refine x_scrL dL_law_1374 rfl (by first | exact Nat.le_of_ble_eq_true rfl | assumption | omega) ?_
  refine x_aload_n dL_law_1375 rfl ?_
  refine x_iload dL_law_1376 rfl ?_
  refine x_iconst dL_law_1378 li_3 ?_
  refine x_iaddN dL_law_1379 ?_
  refine x_scrL dL_law_1380 rfl (by first | exact Nat.le_of_ble_eq_true rfl | assumption | omega) ?_
  refine x_aload_n dL_law_1381 rfl ?_
  refine x_iload dL_law_1382 rfl ?_
  refine x_iconst dL_law_1384 li_4 ?_
  refine x_iaddN dL_law_1385 ?_
  refine x_scrL dL_law_1386 rfl (by first | exact Nat.le_of_ble_eq_true rfl | assumption | omega) ?_
  refine x_cvi (x_windDuty_c (d := d + 11) hS hC.1 hz0) kL_160 dL_law_1387 rfl (Nat.le_of_ble_eq_true rfl) rfl rfl (Nat.le_of_ble_eq_true rfl) (fun ru Mu hq => ?_)
  obtain ⟨hru, I1, rfl, hk1⟩ := hq
  subst hru
  have q4 := qo_windDuty (V := V) (N := N) (z1 := scX G (k + 1)) (z2 := scX G (k + 2)) (z3 := scX G (k + 3)) (z4 := scX G (k + 4))
  have c1 := hC.kx hk1 q4.2
  have m1 := hM.fr (kx_m hk1)
  refine x_aload_n dL_law_1390 rfl ?_
  refine x_aload_n dL_law_1391 rfl ?_
  refine x_iload dL_law_1392 rfl ?_
  refine x_iconst dL_law_1394 li_1 ?_
  refine x_iaddN dL_law_1395 ?_
  refine x_scrL dL_law_1396 rfl (by first | exact Nat.le_of_ble_eq_true rfl | assumption | omega) ?_
  refine x_aload_n dL_law_1397 rfl ?_
  refine x_iload dL_law_1398 rfl ?_
  refine x_iconst dL_law_1400 li_2 ?_
  refine x_iaddN dL_law_1401 ?_
  refine x_scrL dL_law_1402 rfl (by first | exact Nat.le_of_ble_eq_true rfl | assumption | omega) ?_
  refine x_aload_n dL_law_1403 rfl ?_
  refine x_iload dL_law_1404 rfl ?_
  refine x_iconst dL_law_1406 li_3 ?_
  refine x_iaddN dL_law_1407 ?_
  refine x_scrL dL_law_1408 rfl (by first | exact Nat.le_of_ble_eq_true rfl | assumption | omega) ?_
  refine x_aload_n dL_law_1409 rfl ?_
  refine x_iload dL_law_1410 rfl ?_
  refine x_iconst dL_law_1412 li_4 ?_
  refine x_iaddN dL_law_1413 ?_
  refine x_scrL dL_law_1414 rfl (by first | exact Nat.le_of_ble_eq_true rfl | assumption | omega) ?_
  refine x_cvi (m_windDuty (d := d + 9) hS.1 m1.1 hS.2.1 m1.2.1.1) kL_163 dL_law_1415 rfl (Nat.le_of_ble_eq_true rfl) rfl rfl (Nat.le_of_ble_eq_true rfl) (fun ru Mu hq => ?_)
  obtain ⟨hru, I2, rfl, hk2⟩ := hq
  subst hru
  have m2 := m1.km hk2 q4.2
  have c2 := c1.fr (km_c hk2)
  refine x_ic_eq 1716 dL_law_1418 (by decide) (fun h1418 => ?_) (fun h1418 => absurd rfl h1418)
  refine x_ls ?_ (K V N h mk T n _ fa w ad nb b r I2 _ ⟨⟨hS, hz0, hT2, hn0, hrb, q4.1⟩, c2, m2⟩ ⟨rfl, rfl, rfl⟩)
  exact ⟨rfl, rfl, rfl, rfl, rfl, trivial⟩
set_option maxRecDepth 100000 in
set_option maxHeartbeats 600000 in
theorem lc_1423 (hL : scN G ≤ 3072) (hk : k + 6 ≤ scN G) (hI : IV V N h mk T n q fa w nb b r I) (K : LK G d f k (ad 11 0) (ad 13 0) (ad 103 0)) : X G vL_law (d + 14) (22 * f + 22, 400 * f + 400) 1423 [(0, some (.ref (scA G))), (1, some (.ref (ad 11 0))), (2, some (.ref (ad 13 0))), (3, some (.ref (ad 103 0))), (4, some (.int (nI k)))] [] (MM ad nb b r I L) (QZ G) := by
  obtain ⟨⟨hS, hz0, hT2, hn0, hrb, hq9⟩, hC, hM⟩ := id hI
  refine x_bud (B' := (22 * f, 400 * f)) (Nat.le_add_right _ _) (Nat.le_add_right _ _) ?_
  refine x_aload_n dL_law_1423 rfl ?_
  refine x_aload_n dL_law_1424 rfl ?_
  refine x_iload dL_law_1425 rfl ?_
  refine x_iconst dL_law_1427 li_1 ?_
  refine x_iaddN dL_law_1428 ?_
  refine x_scrL dL_law_1429 rfl (by first | exact Nat.le_of_ble_eq_true rfl | assumption | omega) ?_
  refine x_aload_n dL_law_1430 rfl ?_
  refine x_iload dL_law_1431 rfl ?_
  refine x_iconst dL_law_1433 li_2 ?_
  refine x_iaddN dL_law_1434 ?_
  refine x_scrL dL_law_1435 rfl (by first | exact Nat.le_of_ble_eq_true rfl | assumption | omega) ?_
  refine x_cvi (x_waits_c (d := d + 10) hS hC.1) kL_164 dL_law_1436 rfl (Nat.le_of_ble_eq_true rfl) rfl rfl (Nat.le_of_ble_eq_true rfl) (fun ru Mu hq => ?_)
  obtain ⟨hru, I1, rfl, hX1, hk1⟩ := hq
  subst hru
  have ao := ao_waits (z1 := scX G (k + 1)) (z2 := scX G (k + 2)) hS
  have c1 := hC.ky hX1 hk1 ao.2.2.2
  have m1 := hM.fr (ky_m hk1)
  refine x_aload_n dL_law_1439 rfl ?_
  refine x_aload_n dL_law_1440 rfl ?_
  refine x_iload dL_law_1441 rfl ?_
  refine x_iconst dL_law_1443 li_1 ?_
  refine x_iaddN dL_law_1444 ?_
  refine x_scrL dL_law_1445 rfl (by first | exact Nat.le_of_ble_eq_true rfl | assumption | omega) ?_
  refine x_aload_n dL_law_1446 rfl ?_
  refine x_iload dL_law_1447 rfl ?_
  refine x_iconst dL_law_1449 li_2 ?_
  refine x_iaddN dL_law_1450 ?_
  refine x_scrL dL_law_1451 rfl (by first | exact Nat.le_of_ble_eq_true rfl | assumption | omega) ?_
  refine x_cvi (m_waits (d := d + 10) hS.1 m1.1 hS.2.1 m1.2.1) kL_167 dL_law_1452 rfl (Nat.le_of_ble_eq_true rfl) rfl rfl (Nat.le_of_ble_eq_true rfl) (fun ru Mu hq => ?_)
  obtain ⟨hru, I2, rfl, hY2, hk2⟩ := hq
  subst hru
  have m2 := m1.kz hY2 hk2 ao.2.2.2
  have c2 := c1.fr (kz_c hk2)
  refine x_ic_eq 1716 dL_law_1455 (by decide) (fun h1455 => ?_) (fun h1455 => absurd rfl h1455)
  refine x_ls ?_ (K V _ _ _ T n _ fa w ad nb b r I2 L ⟨⟨ao.1, hz0, hT2, fun hb => ao.2.1 (YO_z hM.1 hb).1 (YO_z hM.1 hb).2 (hn0 hb), hrb, ao.2.2.1⟩, c2, m2⟩ ⟨rfl, rfl, rfl⟩)
  exact ⟨rfl, rfl, rfl, rfl, rfl, trivial⟩
set_option maxRecDepth 100000 in
set_option maxHeartbeats 600000 in
theorem lc_1460 (hL : scN G ≤ 3072) (hk : k + 6 ≤ scN G) (hI : IV V N h mk T n q fa w nb b r I) (K : LK G d f k (ad 11 0) (ad 13 0) (ad 103 0)) : X G vL_law (d + 14) (22 * f + 22, 400 * f + 400) 1460 [(0, some (.ref (scA G))), (1, some (.ref (ad 11 0))), (2, some (.ref (ad 13 0))), (3, some (.ref (ad 103 0))), (4, some (.int (nI k)))] [] (MM ad nb b r I L) (QZ G) := by
  obtain ⟨⟨hS, hz0, hT2, hn0, hrb, hq9⟩, hC, hM⟩ := id hI
  refine x_bud (B' := (22 * f, 400 * f)) (Nat.le_add_right _ _) (Nat.le_add_right _ _) ?_
  refine x_aload_n dL_law_1460 rfl ?_
  refine x_aload_n dL_law_1461 rfl ?_
  refine x_iload dL_law_1462 rfl ?_
  refine x_iconst dL_law_1464 li_1 ?_
  refine x_iaddN dL_law_1465 ?_
  refine x_scrL dL_law_1466 rfl (by first | exact Nat.le_of_ble_eq_true rfl | assumption | omega) ?_
  refine x_aload_n dL_law_1467 rfl ?_
  refine x_iload dL_law_1468 rfl ?_
  refine x_iconst dL_law_1470 li_2 ?_
  refine x_iaddN dL_law_1471 ?_
  refine x_scrL dL_law_1472 rfl (by first | exact Nat.le_of_ble_eq_true rfl | assumption | omega) ?_
  refine x_cvi (x_go_c (d := d + 9) hS hC.1) kL_168 dL_law_1473 rfl (Nat.le_of_ble_eq_true rfl) rfl rfl (Nat.le_of_ble_eq_true rfl) (fun ru Mu hq => ?_)
  obtain ⟨hru, I1, rfl, hX1, hk1⟩ := hq
  subst hru
  have ao := ao_go (z1 := scX G (k + 1)) (z2 := scX G (k + 2)) hS
  have c1 := hC.ky hX1 hk1 ao.2.2.2
  have m1 := hM.fr (ky_m hk1)
  refine x_aload_n dL_law_1476 rfl ?_
  refine x_aload_n dL_law_1477 rfl ?_
  refine x_iload dL_law_1478 rfl ?_
  refine x_iconst dL_law_1480 li_1 ?_
  refine x_iaddN dL_law_1481 ?_
  refine x_scrL dL_law_1482 rfl (by first | exact Nat.le_of_ble_eq_true rfl | assumption | omega) ?_
  refine x_aload_n dL_law_1483 rfl ?_
  refine x_iload dL_law_1484 rfl ?_
  refine x_iconst dL_law_1486 li_2 ?_
  refine x_iaddN dL_law_1487 ?_
  refine x_scrL dL_law_1488 rfl (by first | exact Nat.le_of_ble_eq_true rfl | assumption | omega) ?_
  refine x_cvi (m_go (d := d + 9) hS.1 m1.1 hS.2.1 m1.2.1) kL_171 dL_law_1489 rfl (Nat.le_of_ble_eq_true rfl) rfl rfl (Nat.le_of_ble_eq_true rfl) (fun ru Mu hq => ?_)
  obtain ⟨hru, I2, rfl, hY2, hk2⟩ := hq
  subst hru
  have m2 := m1.kz hY2 hk2 ao.2.2.2
  have c2 := c1.fr (kz_c hk2)
  refine x_ic_eq 1716 dL_law_1492 (by decide) (fun h1492 => ?_) (fun h1492 => absurd rfl h1492)
  refine x_ls ?_ (K V _ _ _ T n _ fa w ad nb b r I2 L ⟨⟨ao.1, hz0, hT2, fun hb => ao.2.1 (YO_z hM.1 hb).1 (YO_z hM.1 hb).2 (hn0 hb), hrb, ao.2.2.1⟩, c2, m2⟩ ⟨rfl, rfl, rfl⟩)
  exact ⟨rfl, rfl, rfl, rfl, rfl, trivial⟩
set_option maxRecDepth 100000 in
set_option maxHeartbeats 600000 in
theorem lc_1497 (hL : scN G ≤ 3072) (hk : k + 6 ≤ scN G) (hI : IV V N h mk T n q fa w nb b r I) (K : LK G d f k (ad 11 0) (ad 13 0) (ad 103 0)) : X G vL_law (d + 14) (22 * f + 22, 400 * f + 400) 1497 [(0, some (.ref (scA G))), (1, some (.ref (ad 11 0))), (2, some (.ref (ad 13 0))), (3, some (.ref (ad 103 0))), (4, some (.int (nI k)))] [] (MM ad nb b r I L) (QZ G) := by
  obtain ⟨⟨hS, hz0, hT2, hn0, hrb, hq9⟩, hC, hM⟩ := id hI
  refine x_bud (B' := (22 * f, 400 * f)) (Nat.le_add_right _ _) (Nat.le_add_right _ _) ?_
  refine x_aload_n dL_law_1497 rfl ?_
  refine x_aload_n dL_law_1498 rfl ?_
  refine x_iload dL_law_1499 rfl ?_
  refine x_iconst dL_law_1501 li_1 ?_
  refine x_iaddN dL_law_1502 ?_
  refine x_scrL dL_law_1503 rfl (by first | exact Nat.le_of_ble_eq_true rfl | assumption | omega) ?_
  refine x_aload_n dL_law_1504 rfl ?_
  refine x_iload dL_law_1505 rfl ?_
  refine x_iconst dL_law_1507 li_2 ?_
  refine x_iaddN dL_law_1508 ?_
  refine x_scrL dL_law_1509 rfl (by first | exact Nat.le_of_ble_eq_true rfl | assumption | omega) ?_
  refine x_aload_n dL_law_1510 rfl ?_
  refine x_iload dL_law_1511 rfl ?_
  refine x_iconst dL_law_1513 li_3 ?_
  refine x_iaddN dL_law_1514 ?_
  refine x_scrL dL_law_1515 rfl (by first | exact Nat.le_of_ble_eq_true rfl | assumption | omega) ?_
  refine x_cvi (x_spray_c (d := d + 10) hS hC.1) kL_172 dL_law_1516 rfl (Nat.le_of_ble_eq_true rfl) rfl rfl (Nat.le_of_ble_eq_true rfl) (fun ru Mu hq => ?_)
  obtain ⟨hru, I1, rfl, hX1, hk1⟩ := hq
  subst hru
  have ao := ao_spray (z1 := scX G (k + 1)) (z2 := scX G (k + 2)) (z3 := scX G (k + 3)) hS
  have c1 := hC.ky hX1 hk1 ao.2.2.2
  have m1 := hM.fr (ky_m hk1)
  refine x_aload_n dL_law_1519 rfl ?_
  refine x_aload_n dL_law_1520 rfl ?_
  refine x_iload dL_law_1521 rfl ?_
  refine x_iconst dL_law_1523 li_1 ?_
  refine x_iaddN dL_law_1524 ?_
  refine x_scrL dL_law_1525 rfl (by first | exact Nat.le_of_ble_eq_true rfl | assumption | omega) ?_
  refine x_aload_n dL_law_1526 rfl ?_
  refine x_iload dL_law_1527 rfl ?_
  refine x_iconst dL_law_1529 li_2 ?_
  refine x_iaddN dL_law_1530 ?_
  refine x_scrL dL_law_1531 rfl (by first | exact Nat.le_of_ble_eq_true rfl | assumption | omega) ?_
  refine x_aload_n dL_law_1532 rfl ?_
  refine x_iload dL_law_1533 rfl ?_
  refine x_iconst dL_law_1535 li_3 ?_
  refine x_iaddN dL_law_1536 ?_
  refine x_scrL dL_law_1537 rfl (by first | exact Nat.le_of_ble_eq_true rfl | assumption | omega) ?_
  refine x_cvi (m_spray (d := d + 11) hS.1 m1.1 hS.2.1 m1.2.1) kL_176 dL_law_1538 rfl (Nat.le_of_ble_eq_true rfl) rfl rfl (Nat.le_of_ble_eq_true rfl) (fun ru Mu hq => ?_)
  obtain ⟨hru, I2, rfl, hY2, hk2⟩ := hq
  subst hru
  have m2 := m1.kz hY2 hk2 ao.2.2.2
  have c2 := c1.fr (kz_c hk2)
  refine x_ic_eq 1716 dL_law_1541 (by decide) (fun h1541 => ?_) (fun h1541 => absurd rfl h1541)
  refine x_ls ?_ (K V _ _ _ T n _ fa w ad nb b r I2 L ⟨⟨ao.1, hz0, hT2, fun hb => ao.2.1 (YO_z hM.1 hb).1 (YO_z hM.1 hb).2 (hn0 hb), hrb, ao.2.2.1⟩, c2, m2⟩ ⟨rfl, rfl, rfl⟩)
  exact ⟨rfl, rfl, rfl, rfl, rfl, trivial⟩
set_option maxRecDepth 100000 in
set_option maxHeartbeats 600000 in
theorem lc_1546 (hL : scN G ≤ 3072) (hk : k + 6 ≤ scN G) (hI : IV V N h mk T n q fa w nb b r I) (K : LK G d f k (ad 11 0) (ad 13 0) (ad 103 0)) : X G vL_law (d + 14) (22 * f + 22, 400 * f + 400) 1546 [(0, some (.ref (scA G))), (1, some (.ref (ad 11 0))), (2, some (.ref (ad 13 0))), (3, some (.ref (ad 103 0))), (4, some (.int (nI k)))] [] (MM ad nb b r I L) (QZ G) := by
  obtain ⟨⟨hS, hz0, hT2, hn0, hrb, hq9⟩, hC, hM⟩ := id hI
  refine x_bud (B' := (22 * f, 400 * f)) (Nat.le_add_right _ _) (Nat.le_add_right _ _) ?_
  refine x_aload_n dL_law_1546 rfl ?_
  refine x_aload_n dL_law_1547 rfl ?_
  refine x_iload dL_law_1548 rfl ?_
  refine x_iconst dL_law_1550 li_1 ?_
  refine x_iaddN dL_law_1551 ?_
  refine x_scrL dL_law_1552 rfl (by first | exact Nat.le_of_ble_eq_true rfl | assumption | omega) ?_
  refine x_cvi (x_wash_c (d := d + 10) hS hC.1) kL_177 dL_law_1553 rfl (Nat.le_of_ble_eq_true rfl) rfl rfl (Nat.le_of_ble_eq_true rfl) (fun ru Mu hq => ?_)
  obtain ⟨hru, I1, rfl, hX1, hk1⟩ := hq
  subst hru
  have ao := ao_wash (z1 := scX G (k + 1)) hS
  have c1 := hC.ky hX1 hk1 ao.2.2.2
  have m1 := hM.fr (ky_m hk1)
  refine x_aload_n dL_law_1556 rfl ?_
  refine x_aload_n dL_law_1557 rfl ?_
  refine x_iload dL_law_1558 rfl ?_
  refine x_iconst dL_law_1560 li_1 ?_
  refine x_iaddN dL_law_1561 ?_
  refine x_scrL dL_law_1562 rfl (by first | exact Nat.le_of_ble_eq_true rfl | assumption | omega) ?_
  refine x_cvi (m_wash (d := d + 11) hS.1 m1.1 hS.2.1 m1.2.1) kL_181 dL_law_1563 rfl (Nat.le_of_ble_eq_true rfl) rfl rfl (Nat.le_of_ble_eq_true rfl) (fun ru Mu hq => ?_)
  obtain ⟨hru, I2, rfl, hY2, hk2⟩ := hq
  subst hru
  have m2 := m1.kz hY2 hk2 ao.2.2.2
  have c2 := c1.fr (kz_c hk2)
  refine x_ic_eq 1716 dL_law_1566 (by decide) (fun h1566 => ?_) (fun h1566 => absurd rfl h1566)
  refine x_ls ?_ (K V _ _ _ T n _ fa w ad nb b r I2 L ⟨⟨ao.1, hz0, hT2, fun hb => ao.2.1 (YO_z hM.1 hb).1 (YO_z hM.1 hb).2 (hn0 hb), hrb, ao.2.2.1⟩, c2, m2⟩ ⟨rfl, rfl, rfl⟩)
  exact ⟨rfl, rfl, rfl, rfl, rfl, trivial⟩
set_option maxRecDepth 100000 in
set_option maxHeartbeats 600000 in
theorem lc_1571 (hL : scN G ≤ 3072) (hk : k + 6 ≤ scN G) (hI : IV V N h mk T n q fa w nb b r I) (K : LK G d f k (ad 11 0) (ad 13 0) (ad 103 0)) : X G vL_law (d + 14) (22 * f + 22, 400 * f + 400) 1571 [(0, some (.ref (scA G))), (1, some (.ref (ad 11 0))), (2, some (.ref (ad 13 0))), (3, some (.ref (ad 103 0))), (4, some (.int (nI k)))] [] (MM ad nb b r I L) (QZ G) := by
  obtain ⟨⟨hS, hz0, hT2, hn0, hrb, hq9⟩, hC, hM⟩ := id hI
  refine x_bud (B' := (22 * f, 400 * f)) (Nat.le_add_right _ _) (Nat.le_add_right _ _) ?_
  refine x_aload_n dL_law_1571 rfl ?_
  refine x_cvi (x_undo_c (d := d + 10) hS hC.1) kL_182 dL_law_1572 rfl (Nat.le_of_ble_eq_true rfl) rfl rfl (Nat.le_of_ble_eq_true rfl) (fun ru Mu hq => ?_)
  obtain ⟨hru, I1, rfl, hX1, hk1⟩ := hq
  subst hru
  have ao := ao_undo hS
  have c1 := hC.ky hX1 hk1 ao.2.2.2
  have m1 := hM.fr (ky_m hk1)
  refine x_aload_n dL_law_1575 rfl ?_
  refine x_cvi (m_undo (d := d + 11) hS.1 m1.1 hS.2.1 m1.2.1 hn0) kL_186 dL_law_1576 rfl (Nat.le_of_ble_eq_true rfl) rfl rfl (Nat.le_of_ble_eq_true rfl) (fun ru Mu hq => ?_)
  obtain ⟨hru, I2, rfl, hY2, hk2⟩ := hq
  subst hru
  have m2 := m1.kz hY2 hk2 ao.2.2.2
  have c2 := c1.fr (kz_c hk2)
  refine x_ic_eq 1716 dL_law_1579 (by decide) (fun h1579 => ?_) (fun h1579 => absurd rfl h1579)
  refine x_ls ?_ (K V _ _ _ T n _ fa w ad nb b r I2 L ⟨⟨ao.1, hz0, hT2, fun hb => ao.2.1 (YO_z hM.1 hb).1 (YO_z hM.1 hb).2 (hn0 hb), hrb, ao.2.2.1⟩, c2, m2⟩ ⟨rfl, rfl, rfl⟩)
  exact ⟨rfl, rfl, rfl, rfl, rfl, trivial⟩
set_option maxRecDepth 100000 in
set_option maxHeartbeats 600000 in
theorem lc_1584 (hL : scN G ≤ 3072) (hk : k + 6 ≤ scN G) (hI : IV V N h mk T n q fa w nb b r I) (K : LK G d f k (ad 11 0) (ad 13 0) (ad 103 0)) : X G vL_law (d + 14) (22 * f + 22, 400 * f + 400) 1584 [(0, some (.ref (scA G))), (1, some (.ref (ad 11 0))), (2, some (.ref (ad 13 0))), (3, some (.ref (ad 103 0))), (4, some (.int (nI k)))] [] (MM ad nb b r I L) (QZ G) := by
  obtain ⟨⟨hS, hz0, hT2, hn0, hrb, hq9⟩, hC, hM⟩ := id hI
  refine x_bud (B' := (22 * f, 400 * f)) (Nat.le_add_right _ _) (Nat.le_add_right _ _) ?_
  refine x_aload_n dL_law_1584 rfl ?_
  refine x_cvi (x_mark_c (d := d + 10) hS hC.1) kL_187 dL_law_1585 rfl (Nat.le_of_ble_eq_true rfl) rfl rfl (Nat.le_of_ble_eq_true rfl) (fun ru Mu hq => ?_)
  obtain ⟨hru, I1, rfl, hX1, hk1⟩ := hq
  subst hru
  have ao := ao_mark hS
  have c1 := hC.ky hX1 hk1 ao.2.2.2
  have m1 := hM.fr (ky_m hk1)
  refine x_aload_n dL_law_1588 rfl ?_
  refine x_cvi (m_mark (d := d + 12) hS.1 m1.1 hS.2.1 m1.2.1 hn0) kL_190 dL_law_1589 rfl (Nat.le_of_ble_eq_true rfl) rfl rfl (Nat.le_of_ble_eq_true rfl) (fun ru Mu hq => ?_)
  obtain ⟨hru, I2, rfl, hY2, hk2⟩ := hq
  subst hru
  have m2 := m1.kz hY2 hk2 ao.2.2.2
  have c2 := c1.fr (kz_c hk2)
  refine x_ic_eq 1716 dL_law_1592 (by decide) (fun h1592 => ?_) (fun h1592 => absurd rfl h1592)
  refine x_ls ?_ (K V _ _ _ T n _ fa w ad nb b r I2 L ⟨⟨ao.1, hz0, hT2, fun hb => ao.2.1 (YO_z hM.1 hb).1 (YO_z hM.1 hb).2 (hn0 hb), hrb, ao.2.2.1⟩, c2, m2⟩ ⟨rfl, rfl, rfl⟩)
  exact ⟨rfl, rfl, rfl, rfl, rfl, trivial⟩
set_option maxRecDepth 100000 in
set_option maxHeartbeats 600000 in
theorem lc_1597 (hL : scN G ≤ 3072) (hk : k + 6 ≤ scN G) (hI : IV V N h mk T n q fa w nb b r I) (K : LK G d f k (ad 11 0) (ad 13 0) (ad 103 0)) : X G vL_law (d + 14) (22 * f + 22, 400 * f + 400) 1597 [(0, some (.ref (scA G))), (1, some (.ref (ad 11 0))), (2, some (.ref (ad 13 0))), (3, some (.ref (ad 103 0))), (4, some (.int (nI k)))] [] (MM ad nb b r I L) (QZ G) := by
  obtain ⟨⟨hS, hz0, hT2, hn0, hrb, hq9⟩, hC, hM⟩ := id hI
  refine x_bud (B' := (22 * f, 400 * f)) (Nat.le_add_right _ _) (Nat.le_add_right _ _) ?_
  refine x_aload_n dL_law_1597 rfl ?_
  refine x_aload_n dL_law_1598 rfl ?_
  refine x_iload dL_law_1599 rfl ?_
  refine x_iconst dL_law_1601 li_1 ?_
  refine x_iaddN dL_law_1602 ?_
  refine x_scrL dL_law_1603 rfl (by first | exact Nat.le_of_ble_eq_true rfl | assumption | omega) ?_
  refine x_cvi (x_back_c (d := d + 10) hS hC.1) kL_191 dL_law_1604 rfl (Nat.le_of_ble_eq_true rfl) rfl rfl (Nat.le_of_ble_eq_true rfl) (fun ru Mu hq => ?_)
  obtain ⟨hru, I1, rfl, hX1, hk1⟩ := hq
  subst hru
  have ao := ao_back (z1 := scX G (k + 1)) hS (Nat.lt_of_le_of_lt hM.2.1.2.2.2.1 (by decide))
  have c1 := hC.ky hX1 hk1 ao.2.2.2
  have m1 := hM.fr (ky_m hk1)
  refine x_aload_n dL_law_1607 rfl ?_
  refine x_aload_n dL_law_1608 rfl ?_
  refine x_iload dL_law_1609 rfl ?_
  refine x_iconst dL_law_1611 li_1 ?_
  refine x_iaddN dL_law_1612 ?_
  refine x_scrL dL_law_1613 rfl (by first | exact Nat.le_of_ble_eq_true rfl | assumption | omega) ?_
  refine x_cvi (m_back (d := d + 11) hS.1 m1.1 hS.2.1 m1.2.1 hn0) kL_194 dL_law_1614 rfl (Nat.le_of_ble_eq_true rfl) rfl rfl (Nat.le_of_ble_eq_true rfl) (fun ru Mu hq => ?_)
  obtain ⟨hru, I2, rfl, hY2, hk2⟩ := hq
  subst hru
  have m2 := m1.kz hY2 hk2 ao.2.2.2
  have c2 := c1.fr (kz_c hk2)
  refine x_ic_eq 1716 dL_law_1617 (by decide) (fun h1617 => ?_) (fun h1617 => absurd rfl h1617)
  refine x_ls ?_ (K V _ _ _ T n _ fa w ad nb b r I2 L ⟨⟨ao.1, hz0, hT2, fun hb => ao.2.1 (YO_z hM.1 hb).1 (YO_z hM.1 hb).2 (hn0 hb), hrb, ao.2.2.1⟩, c2, m2⟩ ⟨rfl, rfl, rfl⟩)
  exact ⟨rfl, rfl, rfl, rfl, rfl, trivial⟩
set_option maxRecDepth 100000 in
set_option maxHeartbeats 600000 in
theorem lc_1678 (hL : scN G ≤ 3072) (hk : k + 6 ≤ scN G) (hI : IV V N h mk T n q fa w nb b r I) (K : LK G d f k (ad 11 0) (ad 13 0) (ad 103 0)) : X G vL_law (d + 14) (22 * f + 22, 400 * f + 400) 1678 [(0, some (.ref (scA G))), (1, some (.ref (ad 11 0))), (2, some (.ref (ad 13 0))), (3, some (.ref (ad 103 0))), (4, some (.int (nI k)))] [] (MM ad nb b r I L) (QZ G) := by
  obtain ⟨⟨hS, hz0, hT2, hn0, hrb, hq9⟩, hC, hM⟩ := id hI
  refine x_bud (B' := (22 * f, 400 * f)) (Nat.le_add_right _ _) (Nat.le_add_right _ _) ?_
  refine x_aload_n dL_law_1678 rfl ?_
  refine x_aload_n dL_law_1679 rfl ?_
  refine x_iload dL_law_1680 rfl ?_
  refine x_iconst dL_law_1682 li_1 ?_
  refine x_iaddN dL_law_1683 ?_
  refine x_scrL dL_law_1684 rfl (by first | exact Nat.le_of_ble_eq_true rfl | assumption | omega) ?_
  refine x_cvi (x_size_c (d := d + 12) hS hC.1 hC.2.1) kL_204 dL_law_1685 rfl (Nat.le_of_ble_eq_true rfl) rfl rfl (Nat.le_of_ble_eq_true rfl) (fun ru Mu hq => ?_)
  obtain ⟨rfl, rfl⟩ := hq
  refine x_aload_n dL_law_1688 rfl ?_
  refine x_aload_n dL_law_1689 rfl ?_
  refine x_iload dL_law_1690 rfl ?_
  refine x_iconst dL_law_1692 li_1 ?_
  refine x_iaddN dL_law_1693 ?_
  refine x_scrL dL_law_1694 rfl (by first | exact Nat.le_of_ble_eq_true rfl | assumption | omega) ?_
  refine x_cvi (m_size (d := d + 12) hS.1 hM.1 hM.2.1 hn0 hM.2.2.1) kL_207 dL_law_1695 rfl (Nat.le_of_ble_eq_true rfl) rfl rfl (Nat.le_of_ble_eq_true rfl) (fun ru Mu hq => ?_)
  obtain ⟨rfl, rfl⟩ := hq
  refine x_ic_eq 1716 dL_law_1698 (by decide) (fun h1698 => ?_) (fun h1698 => absurd rfl h1698)
  refine x_ls ?_ (K V N h mk T n q fa w ad nb b r (xu I 13 0 0 (nI 0)) _ ⟨⟨hS, hz0, hT2, hn0, hrb, hq9⟩, hC.fr t0_c, hM.t0⟩ ⟨rfl, rfl, rfl⟩)
  exact ⟨rfl, rfl, rfl, rfl, rfl, trivial⟩
set_option maxRecDepth 100000 in
set_option maxHeartbeats 600000 in
theorem lc_1703 (hL : scN G ≤ 3072) (hk : k + 6 ≤ scN G) (hI : IV V N h mk T n q fa w nb b r I) (K : LK G d f k (ad 11 0) (ad 13 0) (ad 103 0)) : X G vL_law (d + 14) (22 * f + 22, 400 * f + 400) 1703 [(0, some (.ref (scA G))), (1, some (.ref (ad 11 0))), (2, some (.ref (ad 13 0))), (3, some (.ref (ad 103 0))), (4, some (.int (nI k)))] [] (MM ad nb b r I L) (QZ G) := by
  obtain ⟨⟨hS, hz0, hT2, hn0, hrb, hq9⟩, hC, hM⟩ := id hI
  refine x_bud (B' := (22 * f, 400 * f)) (Nat.le_add_right _ _) (Nat.le_add_right _ _) ?_
  refine x_aload_n dL_law_1703 rfl ?_
  refine x_cvi (x_trouble_c (d := d + 13)) kL_208 dL_law_1704 rfl (Nat.le_of_ble_eq_true rfl) rfl rfl (Nat.le_of_ble_eq_true rfl) (fun ru Mu hq => ?_)
  obtain ⟨rfl, rfl⟩ := hq
  refine x_aload_n dL_law_1707 rfl ?_
  refine x_cvi (m_trouble (d := d + 13)) kL_211 dL_law_1708 rfl (Nat.le_of_ble_eq_true rfl) rfl rfl (Nat.le_of_ble_eq_true rfl) (fun ru Mu hq => ?_)
  obtain ⟨rfl, rfl⟩ := hq
  refine x_ic_eq 1716 dL_law_1711 (by decide) (fun h1711 => ?_) (fun h1711 => absurd (hC.2.2.1.trans hM.2.2.2.1.symm) h1711)
  refine x_ls ?_ (K V N h mk T n q fa w ad nb b r (xu I 13 0 0 (nI 0)) _ ⟨⟨hS, hz0, hT2, hn0, hrb, hq9⟩, hC.fr t0_c, hM.t0⟩ ⟨rfl, rfl, rfl⟩)
  exact ⟨rfl, rfl, rfl, rfl, rfl, trivial⟩
set_option maxRecDepth 100000 in
set_option maxHeartbeats 600000 in
theorem lc_1622 (hL : scN G ≤ 3072) (hk : k + 6 ≤ scN G) (hI : IV V N h mk T n q fa w nb b r I) (K : LK G d f k (ad 11 0) (ad 13 0) (ad 103 0)) : X G vL_law (d + 14) (22 * f + 22, 400 * f + 400) 1622 [(0, some (.ref (scA G))), (1, some (.ref (ad 11 0))), (2, some (.ref (ad 13 0))), (3, some (.ref (ad 103 0))), (4, some (.int (nI k)))] [] (MM ad nb b r I L) (QZ G) := by
  obtain ⟨⟨hS, hz0, hT2, hn0, hrb, hq9⟩, hC, hM⟩ := id hI
  refine x_bud (B' := (22 * f + 1, 400 * f + 6)) (by show 22 * f + 1 ≤ 22 * f + 22; omega) (by show 400 * f + 6 ≤ 400 * f + 400; omega) ?_
  refine x_aload_n dL_law_1622 rfl ?_
  refine x_aload_n dL_law_1623 rfl ?_
  refine x_iload dL_law_1624 rfl ?_
  refine x_iconst dL_law_1626 li_1 ?_
  refine x_iaddN dL_law_1627 ?_
  refine x_scrL dL_law_1628 rfl (by first | exact Nat.le_of_ble_eq_true rfl | assumption | omega) ?_
  refine x_aload_n dL_law_1629 rfl ?_
  refine x_csW (y' := vL_led) (b1 := 22 * f) (b2 := 400 * f) (mc := 1) (ms := 6) (d := d + 13) (n := 3) (L_led_c (d := d + 6) hS hC.1) (xm5 162 rfl rfl) (xm5 163 rfl rfl) (xm1 0 rfl rfl) (xm5 164 rfl rfl) (by decide) (by decide +kernel) (by decide) dL_law_1630 rfl rfl (Nat.le_of_ble_eq_true rfl) (fun ru Mu hq => ?_)
  obtain ⟨I1, hs1, hq⟩ := hq
  have c1 : CI V N h mk T n q fa w I1 := ⟨hC.1.sm (fun s hs => hs1 s (by unfold scr; omega)), hC.2.1.sm (by rw [hs1 11 (by unfold scr; omega)]) (hs1 14 (by unfold scr; omega)), by rw [hs1 11 (by unfold scr; omega)]; exact hC.2.2.1, by rw [hs1 11 (by unfold scr; omega)]; exact hC.2.2.2.1, by rw [hs1 11 (by unfold scr; omega)]; exact hC.2.2.2.2⟩
  have m1 := hM.fr (I' := I1) (fun s hs => hs1 s (by unfold scr; omega))
  by_cases h0 : lds V N (scX G (k + 1)) = 0
  · rw [if_pos h0] at hq
    obtain ⟨rfl, rfl⟩ := hq
    refine x_istore dL_law_1633 (by decide) rfl ?_
    refine x_aload_n dL_law_1635 rfl ?_
    refine x_aload_n dL_law_1636 rfl ?_
    refine x_iload dL_law_1637 rfl ?_
    refine x_iconst dL_law_1639 li_1 ?_
    refine x_iaddN dL_law_1640 ?_
    refine x_scrL dL_law_1641 rfl (by first | exact Nat.le_of_ble_eq_true rfl | assumption | omega) ?_
    refine x_cvi (m_led (d := d + 9) hS.1 m1.1 hS.2.1 m1.2.1.1) kL_200 dL_law_1642 rfl (Nat.le_of_ble_eq_true rfl) rfl rfl (Nat.le_of_ble_eq_true rfl) (fun ru Mu hq => ?_)
    obtain ⟨I2, hx2, hq⟩ := hq
    rw [if_pos h0] at hq
    subst hq
    have m2 : MI V N h mk T n q fa w nb b I2 := ⟨(m1.t0 (z := nI 0)).1.mx hx2, (m1.t0 (z := nI 0)).2.1.mx hx2, (m1.t0 (z := nI 0)).2.2.1.sm (hx2.2 6 (by decide)) (hx2.1 84 (by unfold msc; omega) (by decide)), (hx2.2 1 (by decide)).trans (m1.t0 (z := nI 0)).2.2.2.1, (hx2.2 13 (by decide)).trans (m1.t0 (z := nI 0)).2.2.2.2.1, (hx2.2 2 (by decide)).trans (m1.t0 (z := nI 0)).2.2.2.2.2⟩
    have c2 := c1.fr (I' := I2) (fun s h1 h2 h3 => by rw [hx2.1 s (by unfold msc; omega) h3]; funext x y; rw [xu_ns h3])
    have e0 : I2 13 0 0 = nI 0 := by rw [hx2.2 0 (by decide), xu_s]
    refine x_istore dL_law_1645 (by decide) rfl ?_
    refine x_aload_n dL_law_1647 rfl ?_
    refine x_cvi (m_thrown (d := d + 13)) kL_201 dL_law_1648 rfl (Nat.le_of_ble_eq_true rfl) rfl rfl (Nat.le_of_ble_eq_true rfl) (fun ru Mu hq => ?_)
    obtain ⟨rfl, rfl⟩ := hq
    refine x_iload dL_law_1651 rfl ?_
    refine x_ic_eq 1658 dL_law_1653 (by decide) (fun h1653 => ?_) (fun h1653 => absurd xu_s h1653)
    refine x_iload dL_law_1658 rfl ?_
    refine x_if_ne 1675 dL_law_1660 (by decide) (fun h1660 => ?_) (fun h1660 => absurd h1660 (by decide))
    refine x_goto 1716 dL_law_1675 (by decide) ?_
    refine x_ls ?_ (K V N h mk T n q fa w ad nb b r (xu I2 13 0 0 (nI 1)) _ ⟨⟨hS, hz0, hT2, hn0, hrb, hq9⟩, c2.fr t0_c, m2.t0⟩ ⟨rfl, rfl, rfl⟩)
    exact ⟨rfl, rfl, rfl, rfl, rfl, trivial⟩
  · rw [if_neg h0] at hq
    obtain ⟨rfl, rfl⟩ := hq
    refine x_istore dL_law_1633 (by decide) rfl ?_
    refine x_aload_n dL_law_1635 rfl ?_
    refine x_aload_n dL_law_1636 rfl ?_
    refine x_iload dL_law_1637 rfl ?_
    refine x_iconst dL_law_1639 li_1 ?_
    refine x_iaddN dL_law_1640 ?_
    refine x_scrL dL_law_1641 rfl (by first | exact Nat.le_of_ble_eq_true rfl | assumption | omega) ?_
    refine x_cvi (m_led (d := d + 9) hS.1 m1.1 hS.2.1 m1.2.1.1) kL_200 dL_law_1642 rfl (Nat.le_of_ble_eq_true rfl) rfl rfl (Nat.le_of_ble_eq_true rfl) (fun ru Mu hq => ?_)
    obtain ⟨I2, hx2, hq⟩ := hq
    rw [if_neg h0] at hq
    obtain ⟨rfl, rfl⟩ := hq
    have m2 : MI V N h mk T n q fa w nb b I2 := ⟨(m1.t0 (z := nI 0)).1.mx hx2, (m1.t0 (z := nI 0)).2.1.mx hx2, (m1.t0 (z := nI 0)).2.2.1.sm (hx2.2 6 (by decide)) (hx2.1 84 (by unfold msc; omega) (by decide)), (hx2.2 1 (by decide)).trans (m1.t0 (z := nI 0)).2.2.2.1, (hx2.2 13 (by decide)).trans (m1.t0 (z := nI 0)).2.2.2.2.1, (hx2.2 2 (by decide)).trans (m1.t0 (z := nI 0)).2.2.2.2.2⟩
    have c2 := c1.fr (I' := I2) (fun s h1 h2 h3 => by rw [hx2.1 s (by unfold msc; omega) h3]; funext x y; rw [xu_ns h3])
    have e0 : I2 13 0 0 = nI 0 := by rw [hx2.2 0 (by decide), xu_s]
    refine x_istore dL_law_1645 (by decide) rfl ?_
    refine x_aload_n dL_law_1647 rfl ?_
    refine x_cvi (m_thrown (d := d + 13)) kL_201 dL_law_1648 rfl (Nat.le_of_ble_eq_true rfl) rfl rfl (Nat.le_of_ble_eq_true rfl) (fun ru Mu hq => ?_)
    obtain ⟨rfl, rfl⟩ := hq
    refine x_iload dL_law_1651 rfl ?_
    refine x_ic_eq 1658 dL_law_1653 (by decide) (fun h1653 => ?_) (fun h1653 => absurd e0 h1653)
    refine x_iload dL_law_1658 rfl ?_
    refine x_if_ne 1675 dL_law_1660 (by decide) (fun h1660 => absurd rfl h1660) (fun h1660 => ?_)
    refine x_aload_n dL_law_1663 rfl ?_
    refine x_iconst dL_law_1664 li_0 ?_
    refine x_lald dL_law_1665 rfl rfl (Nat.le_of_ble_eq_true rfl) (by first | exact Nat.le_of_ble_eq_true rfl | assumption | omega) ?_
    refine x_iload dL_law_1666 rfl ?_
    refine x_i2l dL_law_1668 rfl ?_
    refine x_lcmp dL_law_1669 ?_
    refine x_if_eq 1675 dL_law_1670 (by decide) (fun h1670 => ?_) (fun h1670 => absurd (by rw [xu_s]; exact lgc_self _) h1670)
    refine x_goto 1716 dL_law_1675 (by decide) ?_
    refine x_ls ?_ (K V N h mk T n q fa w ad nb b r I2 _ ⟨⟨hS, hz0, hT2, hn0, hrb, hq9⟩, c2, m2⟩ ⟨rfl, rfl, rfl⟩)
    exact ⟨rfl, rfl, rfl, rfl, rfl, trivial⟩
set_option maxRecDepth 100000 in
set_option maxHeartbeats 600000 in
theorem lc_309 (hL : scN G ≤ 3072) (hk : k + 6 ≤ scN G) (hI : IV V N h mk T n q fa w nb b r I) (K : LK G d f k (ad 11 0) (ad 13 0) (ad 103 0)) : X G vL_law (d + 14) (22 * f + 22, 400 * f + 400) 309 [(0, some (.ref (scA G))), (1, some (.ref (ad 11 0))), (2, some (.ref (ad 13 0))), (3, some (.ref (ad 103 0))), (4, some (.int (nI k)))] [] (MM ad nb b r I L) (QZ G) := by
  obtain ⟨⟨hS, hz0, hT2, hn0, hrb, hq9⟩, hC, hM⟩ := id hI
  refine x_bud (B' := (22 * f + 21, 400 * f + 283)) (by show 22 * f + 21 ≤ 22 * f + 22; omega) (by show 400 * f + 283 ≤ 400 * f + 400; omega) ?_
  refine x_aload_n dL_law_309 rfl ?_
  refine x_aload_n dL_law_310 rfl ?_
  refine x_iload dL_law_311 rfl ?_
  refine x_iconst dL_law_313 li_1 ?_
  refine x_iaddN dL_law_314 ?_
  refine x_scrL dL_law_315 rfl (by first | exact Nat.le_of_ble_eq_true rfl | assumption | omega) ?_
  refine x_cvi (x_border_c (d := d + 4) hS hC.1 hC.2.1 hT2) kL_24 dL_law_316 rfl (Nat.le_of_ble_eq_true rfl) rfl rfl (Nat.le_of_ble_eq_true rfl) (fun ru Mu hq => ?_)
  obtain ⟨I1, L1, rfl, hf1, hg1, hq1⟩ := hq
  have m1 := hM.fr (I' := I1) (fun s hs => hf1 s hs)
  refine x_aload_n dL_law_319 rfl ?_
  refine x_aload_n dL_law_320 rfl ?_
  refine x_iload dL_law_321 rfl ?_
  refine x_iconst dL_law_323 li_1 ?_
  refine x_iaddN dL_law_324 ?_
  refine x_scrL dL_law_325 rfl (by first | exact Nat.le_of_ble_eq_true rfl | assumption | omega) ?_
  refine x_callV (b1 := 22 * f) (b2 := 400 * f) (m_border (d := d) m1.1 m1.2.1 hrb m1.2.2.1 hT2) kL_27 dL_law_326 rfl (Nat.le_of_ble_eq_true rfl) rfl rfl (Nat.le_of_ble_eq_true rfl) (fun v9 Mu hq => ?_)
  obtain ⟨ru2, rfl, hq⟩ := hq
  show X _ _ _ _ _ _ (.int ru2 :: .int ru :: []) _ _
  by_cases z : wth (scX G (k + 1)) 0 n = true
  · rw [if_pos z] at hq1
    have hq : ite _ _ _ := hq
    rw [if_pos z] at hq
    obtain ⟨ad2, I2, L2, hA, hs2, h6, h00, hq⟩ := hq
    have cI : ∀ s, s < 64 → s ≠ 12 → s ≠ 13 → I2 s = I1 s := fun s h1 h2 h3 => (hs2 s (Or.inl h1) h2 h3).1
    have eA : ad2 11 0 = ad 11 0 ∧ ad2 13 0 = ad 13 0 ∧ ad2 103 0 = ad 103 0 := ⟨hA 11 0 (by omega), hA 13 0 (by omega), hA 103 0 (by omega)⟩
    cases hB : rdB T (zN (scX G (k + 1))) with
    | inl g =>
      rw [hB] at hq1 hq
      obtain ⟨rfl, x1, x2, x3, x4, x5⟩ := hq1
      obtain ⟨rfl, rfl, y1, y2, y3, y4, y5⟩ := hq
      refine x_ic_eq 1716 dL_law_329 (by decide) (fun _ => ?_) (fun z => absurd rfl z)
      have cc : CI V N h mk T 0 4 g.1 g.2 I1 := ⟨x1, ⟨x2, Nat.zero_le _, fun i hi => absurd hi (Nat.not_lt_zero i)⟩, x3, x4, fun _ => x5⟩
      refine x_ls ?_ (K V N h mk T 0 4 g.1 g.2 ad2 (nb + 1) b (some nb) I2 L2 ⟨⟨hS, hz0, hT2, hn0, fun i hi => (by cases hi; omega), by decide⟩, cc.fr cI, ⟨y1, y2, ⟨h6, Nat.zero_le _, fun i hi => absurd hi (Nat.not_lt_zero i)⟩, y3, y5, (by rw [if_pos rfl]; exact y4)⟩⟩ eA)
      exact ⟨rfl, rfl, rfl, rfl, rfl, trivial⟩
    | inr s =>
      rw [hB] at hq1 hq
      obtain ⟨rfl, x1, x2, x3, x4, x5, x6⟩ := hq1
      obtain ⟨rfl, rfl, y1, y2, y3, y4, y5⟩ := hq
      refine x_ic_eq 1716 dL_law_329 (by decide) (fun _ => ?_) (fun z => absurd rfl z)
      have cc : CI s.1 (N0 s.1) [] [] T 0 0 0 0 I1 := ⟨x1, ⟨x4, Nat.zero_le _, fun i hi => absurd hi (Nat.not_lt_zero i)⟩, x5, x6, fun z => absurd z (by decide)⟩
      refine x_ls ?_ (K s.1 (N0 s.1) [] [] T 0 0 0 0 ad2 (nb + 1) (some nb) (some nb) I2 L2 ⟨⟨sw_n0 x2, fun _ => x3, hT2, fun _ => ⟨rfl, rfl⟩, fun i hi => (by cases hi; omega), by decide⟩, cc.fr cI, ⟨Or.inr ⟨nb, rfl, Nat.lt_succ_self nb, y1, x3⟩, y2, ⟨h6, Nat.zero_le _, fun i hi => absurd hi (Nat.not_lt_zero i)⟩, y3, y5, (by rw [if_neg (by decide)]; exact y4)⟩⟩ eA)
      exact ⟨rfl, rfl, rfl, rfl, rfl, trivial⟩
  · rw [if_neg z] at hq1
    have hq : ite _ _ _ := hq
    rw [if_neg z] at hq
    obtain ⟨rfl, rfl, rfl⟩ := hq1
    obtain ⟨rfl, I2, rfl, hk2⟩ := hq
    refine x_ic_eq 1716 dL_law_329 (by decide) (fun _ => ?_) (fun z => absurd rfl z)
    have c1 := hC.kx (KX.of (q := 2) Sm.rf) (by decide)
    have m2 := m1.km hk2 (by decide)
    refine x_ls ?_ (K V N h mk T n 2 fa w ad nb b r I2 _ ⟨⟨hS, hz0, hT2, hn0, hrb, by decide⟩, c1.fr (km_c hk2), m2⟩ ⟨rfl, rfl, rfl⟩)
    exact ⟨rfl, rfl, rfl, rfl, rfl, trivial⟩
end M56
