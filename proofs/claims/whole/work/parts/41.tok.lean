section Tok
variable {G : xG} {ad : Nat → Nat → Nat} {nb : Nat} {b r : Option Nat} {L : Nat → Nat → Nat → Int64} {V : sV} {I : Nat → Nat → Nat → Int32} {d : Nat}

/-- TOKENS of a tape T of e bytes -/
def isL (c : Nat) : Bool := decide (97 ≤ c ∧ c ≤ 122)
def isD (c : Nat) : Bool := decide (48 ≤ c ∧ c ≤ 57)
def tA (T : Nat → Nat) (e a : Nat) : Nat := a + fst (fun i => decide (T i ≠ 32)) a (e - a)
def tL (T : Nat → Nat) (e A : Nat) : Nat := fst (fun i => !isL (T i)) A (e - A)
def tD (T : Nat → Nat) (e A : Nat) : Nat := if tL T e A = 0 then fst (fun i => !isD (T i)) A (e - A) else 0
def kdF (T : Nat → Nat) (e A l g : Nat) : Nat := if 0 < l then (if l ≤ 9 then 1 else 5) else if 0 < g then (if g ≤ 2 then 2 else 5) else if e ≤ A then 0 else if T A = 59 then 3 else if T A = 44 then 4 else 5
def afF (e A l g : Nat) : Nat := if l = 0 ∧ g = 0 ∧ A < e then A + 1 else A + l + g
def wL (T : Nat → Nat) (A : Nat) : Nat → Int64
  | 0 => lN 0
  | n + 1 => wL T A n <<< ((nI 5).toInt64 &&& 63) ||| (nI (T (A + n) - 97 + 1)).toInt64
def dL (T : Nat → Nat) (A : Nat) : Nat → Int64
  | 0 => lN 0
  | n + 1 => dL T A n * 10 + (nI (T (A + n))).toInt64 - 48
def vlF (T : Nat → Nat) (A l g : Nat) : Int64 := if l = 0 then dL T A g else wL T A l
def TKF (T : Nat → Nat) (e A l g : Nat) (I : Nat → Nat → Nat → Int32) (L : Nat → Nat → Nat → Int64) : Prop := I 7 0 1 = nI e ∧ I 7 0 4 = nI A ∧ I 7 0 2 = nI (afF e A l g) ∧ I 7 0 3 = nI (kdF T e A l g) ∧ L 7 0 5 = vlF T A l g
/-- the TOKEN behind the first a bytes -/
def TK (T : Nat → Nat) (e a : Nat) (I : Nat → Nat → Nat → Int32) (L : Nat → Nat → Nat → Int64) : Prop := TKF T e (tA T e a) (tL T e (tA T e a)) (tD T e (tA T e a)) I L
def F7 {α : Type} (I I' : Nat → Nat → Nat → α) : Prop := ∀ s, s ≠ 7 → I' s = I s
theorem F7.xu {α : Type} {I I' : Nat → Nat → Nat → α} {k : Nat} {v : α} (h : F7 I I') : F7 I (xu I' 7 0 k v) := fun s hs => by funext a c; rw [xu_ns hs, h s hs]
theorem isL_f {c : Nat} (h : c < 97 ∨ 122 < c) : isL c = false := decide_eq_false (by omega)
theorem isL_t {c : Nat} (h1 : 97 ≤ c) (h2 : c ≤ 122) : isL c = true := decide_eq_true ⟨h1, h2⟩
theorem isD_f {c : Nat} (h : c < 48 ∨ 57 < c) : isD c = false := decide_eq_false (by omega)
theorem isD_t {c : Nat} (h1 : 48 ≤ c) (h2 : c ≤ 57) : isD c = true := decide_eq_true ⟨h1, h2⟩

set_option maxRecDepth 100000 in
set_option maxHeartbeats 4000000 in
theorem nx_tail {T : Nat → Nat} {e : Nat} (hE : e ≤ 1100) (hT : ∀ i, i < e → I 14 0 i = nI (T i)) (hT2 : ∀ i, T i < 256) {A l g : Nat} {I1 : Nat → Nat → Nat → Int32} {L1 : Nat → Nat → Nat → Int64} (e1 : I1 7 0 1 = nI e) (e4 : I1 7 0 4 = nI A) (hf : F7 I I1) (hl : F7 L L1) (e2 : I1 7 0 2 = nI (A + l + g)) (ev : L1 7 0 5 = vlF T A l g) (hlg : l = 0 ∨ g = 0) (hb : A + l + g ≤ e) : X G vX7_next d (0, 0) 230 [(0, some (.ref (ad 7 0))), (1, some (.int (nI (l))))] [] (MM ad nb b r I1 L1) (xT G (qV (fun M' => ∃ I' L', M' = MM ad nb b r I' L' ∧ TKF T e A l g I' L' ∧ F7 I I' ∧ F7 L L'))) := by
  have hT1 : ∀ i, i < e → I1 14 0 i = nI (T i) := fun i hi => by rw [hf 14 (by decide)]; exact hT i hi
  refine x_aload_n dX7_next_230 rfl ?_
  refine g_Tokens_after fX7_28 dX7_next_231 ?_
  rw [e2]
  refine x_aload_n dX7_next_234 rfl ?_
  refine g_Tokens_at fX7_34 dX7_next_235 ?_
  rw [e4]
  refine x_isubN dX7_next_238 (by omega) ?_
  refine x_iload_n dX7_next_239 rfl ?_
  refine x_isubN dX7_next_240 (by omega) ?_
  refine x_istore_n dX7_next_241 (by decide) rfl ?_
  refine x_iload_n dX7_next_242 rfl ?_
  refine x_ifN_le 264 dX7_next_243 (by decide) (by omega) (fun h243 => ?_) (fun h243 => ?_)
  · refine x_iload_n dX7_next_264 rfl ?_
    refine x_ifN_le 285 dX7_next_265 (by decide) (by omega) (fun h265 => ?_) (fun h265 => ?_)
    · refine x_aload_n dX7_next_285 rfl ?_
      refine g_Tokens_at fX7_34 dX7_next_286 ?_
      rw [e4]
      refine x_aload_n dX7_next_289 rfl ?_
      refine g_Tokens_end fX7_24 dX7_next_290 ?_
      rw [e1]
      refine x_icN_lt 304 dX7_next_293 (by decide) (by omega) (by omega) (fun h293 => ?_) (fun h293 => ?_)
      · refine x_aload_n dX7_next_304 rfl ?_
        refine x_aload_n dX7_next_305 rfl ?_
        refine g_Tokens_tape fX7_9 dX7_next_306 ?_
        refine x_aload_n dX7_next_309 rfl ?_
        refine g_Tokens_at fX7_34 dX7_next_310 ?_
        rw [e4]
        refine x_iald dX7_next_313 rfl rfl (Nat.le_of_ble_eq_true rfl) (by first | exact Nat.le_of_ble_eq_true rfl | assumption | omega) ?_
        have hTA := hT2 A
        rw [hT1 A h293]
        refine x_bipush dX7_next_314 lb_59 ?_
        refine x_icN_ne 323 dX7_next_316 (by decide) (by omega) (by omega) (fun h316 => ?_) (fun h316 => ?_)
        · refine x_aload_n dX7_next_323 rfl ?_
          refine g_Tokens_tape fX7_9 dX7_next_324 ?_
          refine x_aload_n dX7_next_327 rfl ?_
          refine g_Tokens_at fX7_34 dX7_next_328 ?_
          rw [e4]
          refine x_iald dX7_next_331 rfl rfl (Nat.le_of_ble_eq_true rfl) (by first | exact Nat.le_of_ble_eq_true rfl | assumption | omega) ?_
          rw [hT1 A h293]
          refine x_bipush dX7_next_332 lb_44 ?_
          refine x_icN_ne 341 dX7_next_334 (by decide) (by omega) (by omega) (fun h334 => ?_) (fun h334 => ?_)
          · refine x_iconst dX7_next_341 li_5 ?_
            refine p_Tokens_kind fX7_45 dX7_next_342 ?_
            refine x_aload_n dX7_next_345 rfl ?_
            refine x_aload_n dX7_next_346 rfl ?_
            refine g_Tokens_at fX7_34 dX7_next_347 ?_
            rw [xu_nk (by decide), e4]
            refine x_iconst dX7_next_350 li_1 ?_
            refine x_iaddN dX7_next_351 ?_
            refine p_Tokens_after fX7_28 dX7_next_352 ?_
            refine x_vret dX7_next_355 rfl ?_
            refine ⟨rfl, _, _, rfl, ⟨?_, ?_, ?_, ?_, ?_⟩, ?_, hl⟩
            · first | (rw [xu_nk (by decide), xu_nk (by decide)]; exact e1) | (rw [xu_nk (by decide)]; exact e1)
            · first | (rw [xu_nk (by decide), xu_nk (by decide)]; exact e4) | (rw [xu_nk (by decide)]; exact e4)
            · unfold afF
              first
                | (rw [xu_s, if_pos (by omega)]; done)
                | (rw [xu_nk (by decide), if_neg (by omega)]; exact e2)
            · unfold kdF
              first | rw [xu_s] | rw [xu_nk (by decide), xu_s]
              repeat (first | rw [if_pos (by omega)] | rw [if_neg (by omega)])
            · exact ev
            · first | exact hf.xu.xu | exact hf.xu
          · refine x_iconst dX7_next_337 li_4 ?_
            refine x_goto 342 dX7_next_338 (by decide) ?_
            refine p_Tokens_kind fX7_45 dX7_next_342 ?_
            refine x_aload_n dX7_next_345 rfl ?_
            refine x_aload_n dX7_next_346 rfl ?_
            refine g_Tokens_at fX7_34 dX7_next_347 ?_
            rw [xu_nk (by decide), e4]
            refine x_iconst dX7_next_350 li_1 ?_
            refine x_iaddN dX7_next_351 ?_
            refine p_Tokens_after fX7_28 dX7_next_352 ?_
            refine x_vret dX7_next_355 rfl ?_
            refine ⟨rfl, _, _, rfl, ⟨?_, ?_, ?_, ?_, ?_⟩, ?_, hl⟩
            · first | (rw [xu_nk (by decide), xu_nk (by decide)]; exact e1) | (rw [xu_nk (by decide)]; exact e1)
            · first | (rw [xu_nk (by decide), xu_nk (by decide)]; exact e4) | (rw [xu_nk (by decide)]; exact e4)
            · unfold afF
              first
                | (rw [xu_s, if_pos (by omega)]; done)
                | (rw [xu_nk (by decide), if_neg (by omega)]; exact e2)
            · unfold kdF
              first | rw [xu_s] | rw [xu_nk (by decide), xu_s]
              repeat (first | rw [if_pos (by omega)] | rw [if_neg (by omega)])
            · exact ev
            · first | exact hf.xu.xu | exact hf.xu
        · refine x_iconst dX7_next_319 li_3 ?_
          refine x_goto 342 dX7_next_320 (by decide) ?_
          refine p_Tokens_kind fX7_45 dX7_next_342 ?_
          refine x_aload_n dX7_next_345 rfl ?_
          refine x_aload_n dX7_next_346 rfl ?_
          refine g_Tokens_at fX7_34 dX7_next_347 ?_
          rw [xu_nk (by decide), e4]
          refine x_iconst dX7_next_350 li_1 ?_
          refine x_iaddN dX7_next_351 ?_
          refine p_Tokens_after fX7_28 dX7_next_352 ?_
          refine x_vret dX7_next_355 rfl ?_
          refine ⟨rfl, _, _, rfl, ⟨?_, ?_, ?_, ?_, ?_⟩, ?_, hl⟩
          · first | (rw [xu_nk (by decide), xu_nk (by decide)]; exact e1) | (rw [xu_nk (by decide)]; exact e1)
          · first | (rw [xu_nk (by decide), xu_nk (by decide)]; exact e4) | (rw [xu_nk (by decide)]; exact e4)
          · unfold afF
            first
              | (rw [xu_s, if_pos (by omega)]; done)
              | (rw [xu_nk (by decide), if_neg (by omega)]; exact e2)
          · unfold kdF
            first | rw [xu_s] | rw [xu_nk (by decide), xu_s]
            repeat (first | rw [if_pos (by omega)] | rw [if_neg (by omega)])
          · exact ev
          · first | exact hf.xu.xu | exact hf.xu
      · refine x_aload_n dX7_next_296 rfl ?_
        refine x_iconst dX7_next_297 li_0 ?_
        refine p_Tokens_kind fX7_45 dX7_next_298 ?_
        refine x_goto 355 dX7_next_301 (by decide) ?_
        refine x_vret dX7_next_355 rfl ?_
        refine ⟨rfl, _, _, rfl, ⟨?_, ?_, ?_, ?_, ?_⟩, ?_, hl⟩
        · first | (rw [xu_nk (by decide), xu_nk (by decide)]; exact e1) | (rw [xu_nk (by decide)]; exact e1)
        · first | (rw [xu_nk (by decide), xu_nk (by decide)]; exact e4) | (rw [xu_nk (by decide)]; exact e4)
        · unfold afF
          first
            | (rw [xu_s, if_pos (by omega)]; done)
            | (rw [xu_nk (by decide), if_neg (by omega)]; exact e2)
        · unfold kdF
          first | rw [xu_s] | rw [xu_nk (by decide), xu_s]
          repeat (first | rw [if_pos (by omega)] | rw [if_neg (by omega)])
        · exact ev
        · first | exact hf.xu.xu | exact hf.xu
    · refine x_aload_n dX7_next_268 rfl ?_
      refine x_iload_n dX7_next_269 rfl ?_
      refine x_iconst dX7_next_270 li_2 ?_
      refine x_icN_gt 278 dX7_next_271 (by decide) (by omega) (by omega) (fun h271 => ?_) (fun h271 => ?_)
      · refine x_iconst dX7_next_278 li_5 ?_
        refine p_Tokens_kind fX7_45 dX7_next_279 ?_
        refine x_goto 355 dX7_next_282 (by decide) ?_
        refine x_vret dX7_next_355 rfl ?_
        refine ⟨rfl, _, _, rfl, ⟨?_, ?_, ?_, ?_, ?_⟩, ?_, hl⟩
        · first | (rw [xu_nk (by decide), xu_nk (by decide)]; exact e1) | (rw [xu_nk (by decide)]; exact e1)
        · first | (rw [xu_nk (by decide), xu_nk (by decide)]; exact e4) | (rw [xu_nk (by decide)]; exact e4)
        · unfold afF
          first
            | (rw [xu_s, if_pos (by omega)]; done)
            | (rw [xu_nk (by decide), if_neg (by omega)]; exact e2)
        · unfold kdF
          first | rw [xu_s] | rw [xu_nk (by decide), xu_s]
          repeat (first | rw [if_pos (by omega)] | rw [if_neg (by omega)])
        · exact ev
        · first | exact hf.xu.xu | exact hf.xu
      · refine x_iconst dX7_next_274 li_2 ?_
        refine x_goto 279 dX7_next_275 (by decide) ?_
        refine p_Tokens_kind fX7_45 dX7_next_279 ?_
        refine x_goto 355 dX7_next_282 (by decide) ?_
        refine x_vret dX7_next_355 rfl ?_
        refine ⟨rfl, _, _, rfl, ⟨?_, ?_, ?_, ?_, ?_⟩, ?_, hl⟩
        · first | (rw [xu_nk (by decide), xu_nk (by decide)]; exact e1) | (rw [xu_nk (by decide)]; exact e1)
        · first | (rw [xu_nk (by decide), xu_nk (by decide)]; exact e4) | (rw [xu_nk (by decide)]; exact e4)
        · unfold afF
          first
            | (rw [xu_s, if_pos (by omega)]; done)
            | (rw [xu_nk (by decide), if_neg (by omega)]; exact e2)
        · unfold kdF
          first | rw [xu_s] | rw [xu_nk (by decide), xu_s]
          repeat (first | rw [if_pos (by omega)] | rw [if_neg (by omega)])
        · exact ev
        · first | exact hf.xu.xu | exact hf.xu
  · refine x_aload_n dX7_next_246 rfl ?_
    refine x_iload_n dX7_next_247 rfl ?_
    refine x_bipush dX7_next_248 lb_9 ?_
    refine x_icN_gt 257 dX7_next_250 (by decide) (by omega) (by omega) (fun h250 => ?_) (fun h250 => ?_)
    · refine x_iconst dX7_next_257 li_5 ?_
      refine p_Tokens_kind fX7_45 dX7_next_258 ?_
      refine x_goto 355 dX7_next_261 (by decide) ?_
      refine x_vret dX7_next_355 rfl ?_
      refine ⟨rfl, _, _, rfl, ⟨?_, ?_, ?_, ?_, ?_⟩, ?_, hl⟩
      · first | (rw [xu_nk (by decide), xu_nk (by decide)]; exact e1) | (rw [xu_nk (by decide)]; exact e1)
      · first | (rw [xu_nk (by decide), xu_nk (by decide)]; exact e4) | (rw [xu_nk (by decide)]; exact e4)
      · unfold afF
        first
          | (rw [xu_s, if_pos (by omega)]; done)
          | (rw [xu_nk (by decide), if_neg (by omega)]; exact e2)
      · unfold kdF
        first | rw [xu_s] | rw [xu_nk (by decide), xu_s]
        repeat (first | rw [if_pos (by omega)] | rw [if_neg (by omega)])
      · exact ev
      · first | exact hf.xu.xu | exact hf.xu
    · refine x_iconst dX7_next_253 li_1 ?_
      refine x_goto 258 dX7_next_254 (by decide) ?_
      refine p_Tokens_kind fX7_45 dX7_next_258 ?_
      refine x_goto 355 dX7_next_261 (by decide) ?_
      refine x_vret dX7_next_355 rfl ?_
      refine ⟨rfl, _, _, rfl, ⟨?_, ?_, ?_, ?_, ?_⟩, ?_, hl⟩
      · first | (rw [xu_nk (by decide), xu_nk (by decide)]; exact e1) | (rw [xu_nk (by decide)]; exact e1)
      · first | (rw [xu_nk (by decide), xu_nk (by decide)]; exact e4) | (rw [xu_nk (by decide)]; exact e4)
      · unfold afF
        first
          | (rw [xu_s, if_pos (by omega)]; done)
          | (rw [xu_nk (by decide), if_neg (by omega)]; exact e2)
      · unfold kdF
        first | rw [xu_s] | rw [xu_nk (by decide), xu_s]
        repeat (first | rw [if_pos (by omega)] | rw [if_neg (by omega)])
      · exact ev
      · first | exact hf.xu.xu | exact hf.xu
set_option maxRecDepth 100000 in
set_option maxHeartbeats 4000000 in
theorem lp_nxC {T : Nat → Nat} {e : Nat} (hE : e ≤ 1100) (hT : ∀ i, i < e → I 14 0 i = nI (T i)) (hT2 : ∀ i, T i < 256) {A : Nat} (h0 : tL T e A = 0) : ∀ (n : Nat) (k : Nat) (I1 : Nat → Nat → Nat → Int32) (L1 : Nat → Nat → Nat → Int64), e - k < n → A ≤ k → k ≤ e → k + fst (fun i => !isD (T i)) k (e - k) = A + fst (fun i => !isD (T i)) A (e - A) → I1 7 0 1 = nI e → I1 7 0 4 = nI A → I1 7 0 2 = nI k → L1 7 0 5 = dL T A (k - A) → F7 I I1 → F7 L L1 → X G vX7_next (d) (0, 0) 147 [(0, some (.ref (ad 7 0))), (1, some (.int (nI (0))))] [] (MM ad nb b r I1 L1) (xT G (qV (fun M' => ∃ I' L', M' = MM ad nb b r I' L' ∧ TKF T e A (tL T e A) (tD T e A) I' L' ∧ F7 I I' ∧ F7 L L'))) := by
  intro n
  induction n with
  | zero => intro k I1 L1 h0; omega
  | succ n ih =>
    intro k I1 L1 hn hA hk hfs e1 e4 e2 ev hf hl
    have hT1 : ∀ i, i < e → I1 14 0 i = nI (T i) := fun i hi => by rw [hf 14 (by decide)]; exact hT i hi
    have hTk := hT2 k
    refine x_iload_n dX7_next_147 rfl ?_
    refine x_ifN_ne 230 dX7_next_148 (by decide) (by omega) (fun h148 => absurd h148 (by omega)) (fun h148 => ?_)
    refine x_aload_n dX7_next_151 rfl ?_
    refine g_Tokens_after fX7_28 dX7_next_152 ?_
    rw [e2]
    refine x_aload_n dX7_next_155 rfl ?_
    refine g_Tokens_end fX7_24 dX7_next_156 ?_
    rw [e1]
    refine x_icN_ge 230 dX7_next_159 (by decide) (by omega) (by omega) (fun h159 => ?_) (fun h159 => ?_)
    · have hg : tD T e A = k - A := by
        unfold tD
        rw [if_pos h0]
        have hx : k + fst (fun i => !isD (T i)) k (e - k) = k := by
          first
            | (rw [show e - k = 0 by omega, fst_0]; rfl)
            | exact fst_t (by rw [isD_f (by omega)]; rfl)
        omega
      rw [h0, hg]
      refine x_ls ?_ (nx_tail hE hT hT2 e1 e4 hf hl (l := 0) (g := k - A) (by rw [e2]; congr 1; omega) (by rw [ev]; rfl) (Or.inl rfl) (by omega))
      exact ⟨rfl, rfl, trivial⟩
    · refine x_aload_n dX7_next_162 rfl ?_
      refine g_Tokens_tape fX7_9 dX7_next_163 ?_
      refine x_aload_n dX7_next_166 rfl ?_
      refine g_Tokens_after fX7_28 dX7_next_167 ?_
      rw [e2]
      refine x_iald dX7_next_170 rfl rfl (Nat.le_of_ble_eq_true rfl) (by first | exact Nat.le_of_ble_eq_true rfl | assumption | omega) ?_
      rw [hT1 k h159]
      refine x_bipush dX7_next_171 lb_48 ?_
      refine x_icN_lt 230 dX7_next_173 (by decide) (by omega) (by omega) (fun h173 => ?_) (fun h173 => ?_)
      · have hg : tD T e A = k - A := by
          unfold tD
          rw [if_pos h0]
          have hx : k + fst (fun i => !isD (T i)) k (e - k) = k := by
            first
              | (rw [show e - k = 0 by omega, fst_0]; rfl)
              | exact fst_t (by rw [isD_f (by omega)]; rfl)
          omega
        rw [h0, hg]
        refine x_ls ?_ (nx_tail hE hT hT2 e1 e4 hf hl (l := 0) (g := k - A) (by rw [e2]; congr 1; omega) (by rw [ev]; rfl) (Or.inl rfl) (by omega))
        exact ⟨rfl, rfl, trivial⟩
      · refine x_aload_n dX7_next_176 rfl ?_
        refine g_Tokens_tape fX7_9 dX7_next_177 ?_
        refine x_aload_n dX7_next_180 rfl ?_
        refine g_Tokens_after fX7_28 dX7_next_181 ?_
        rw [e2]
        refine x_iald dX7_next_184 rfl rfl (Nat.le_of_ble_eq_true rfl) (by first | exact Nat.le_of_ble_eq_true rfl | assumption | omega) ?_
        rw [hT1 k h159]
        refine x_bipush dX7_next_185 lb_57 ?_
        refine x_icN_gt 230 dX7_next_187 (by decide) (by omega) (by omega) (fun h187 => ?_) (fun h187 => ?_)
        · have hg : tD T e A = k - A := by
            unfold tD
            rw [if_pos h0]
            have hx : k + fst (fun i => !isD (T i)) k (e - k) = k := by
              first
                | (rw [show e - k = 0 by omega, fst_0]; rfl)
                | exact fst_t (by rw [isD_f (by omega)]; rfl)
            omega
          rw [h0, hg]
          refine x_ls ?_ (nx_tail hE hT hT2 e1 e4 hf hl (l := 0) (g := k - A) (by rw [e2]; congr 1; omega) (by rw [ev]; rfl) (Or.inl rfl) (by omega))
          exact ⟨rfl, rfl, trivial⟩
        · refine x_aload_n dX7_next_190 rfl ?_
          refine x_aload_n dX7_next_191 rfl ?_
          refine g_Tokens_value fX7_37 dX7_next_192 ?_
          rw [ev]
          refine x_ldc2 dX7_next_195 (xm3 75 rfl rfl) ?_
          refine x_lmul dX7_next_198 ?_
          refine x_aload_n dX7_next_199 rfl ?_
          refine g_Tokens_tape fX7_9 dX7_next_200 ?_
          refine x_aload_n dX7_next_203 rfl ?_
          refine g_Tokens_after fX7_28 dX7_next_204 ?_
          rw [e2]
          refine x_iald dX7_next_207 rfl rfl (Nat.le_of_ble_eq_true rfl) (by first | exact Nat.le_of_ble_eq_true rfl | assumption | omega) ?_
          rw [hT1 k h159]
          refine x_i2l dX7_next_208 rfl ?_
          refine x_ladd dX7_next_209 ?_
          refine x_ldc2 dX7_next_210 (xm3 76 rfl rfl) ?_
          refine x_lsub dX7_next_213 ?_
          refine p_Tokens_value fX7_37 dX7_next_214 ?_
          refine x_aload_n dX7_next_217 rfl ?_
          refine x_dup dX7_next_218 rfl ?_
          refine g_Tokens_after fX7_28 dX7_next_219 ?_
          rw [e2]
          refine x_iconst dX7_next_222 li_1 ?_
          refine x_iaddN dX7_next_223 ?_
          refine p_Tokens_after fX7_28 dX7_next_224 ?_
          refine x_goto 147 dX7_next_227 (by decide) ?_
          refine x_ls ?_ (ih (k + 1) _ _ (by omega) (by omega) (by omega) ((fst_f h159 (by rw [isD_t (by omega) (by omega)]; rfl)).trans hfs) ?_ ?_ ?_ ?_ hf.xu hl.xu)
          · exact ⟨rfl, rfl, trivial⟩
          · rw [xu_nk (by decide)]; exact e1
          · rw [xu_nk (by decide)]; exact e4
          · rw [xu_s]
          · rw [xu_s, show k + 1 - A = (k - A) + 1 by omega, dL, show A + (k - A) = k by omega]
set_option maxRecDepth 100000 in
set_option maxHeartbeats 4000000 in
theorem lp_nxB {T : Nat → Nat} {e : Nat} (hE : e ≤ 1100) (hT : ∀ i, i < e → I 14 0 i = nI (T i)) (hT2 : ∀ i, T i < 256) {A : Nat} : ∀ (n : Nat) (k : Nat) (I1 : Nat → Nat → Nat → Int32) (L1 : Nat → Nat → Nat → Int64), e - k < n → A ≤ k → k ≤ e → k + fst (fun i => !isL (T i)) k (e - k) = A + fst (fun i => !isL (T i)) A (e - A) → I1 7 0 1 = nI e → I1 7 0 4 = nI A → I1 7 0 2 = nI k → L1 7 0 5 = wL T A (k - A) → F7 I I1 → F7 L L1 → X G vX7_next (d) (0, 0) 59 [(0, some (.ref (ad 7 0)))] [] (MM ad nb b r I1 L1) (xT G (qV (fun M' => ∃ I' L', M' = MM ad nb b r I' L' ∧ TKF T e A (tL T e A) (tD T e A) I' L' ∧ F7 I I' ∧ F7 L L'))) := by
  intro n
  induction n with
  | zero => intro k I1 L1 h0; omega
  | succ n ih =>
    intro k I1 L1 hn hA hk hfs e1 e4 e2 ev hf hl
    have hT1 : ∀ i, i < e → I1 14 0 i = nI (T i) := fun i hi => by rw [hf 14 (by decide)]; exact hT i hi
    have hTk := hT2 k
    refine x_aload_n dX7_next_59 rfl ?_
    refine g_Tokens_after fX7_28 dX7_next_60 ?_
    rw [e2]
    refine x_aload_n dX7_next_63 rfl ?_
    refine g_Tokens_end fX7_24 dX7_next_64 ?_
    rw [e1]
    refine x_icN_ge 137 dX7_next_67 (by decide) (by omega) (by omega) (fun h67 => ?_) (fun h67 => ?_)
    · refine x_aload_n dX7_next_137 rfl ?_
      refine g_Tokens_after fX7_28 dX7_next_138 ?_
      rw [e2]
      refine x_aload_n dX7_next_141 rfl ?_
      refine g_Tokens_at fX7_34 dX7_next_142 ?_
      rw [e4]
      refine x_isubN dX7_next_145 (by omega) ?_
      refine x_istore_n dX7_next_146 (by decide) rfl ?_
      have hg : tL T e A = k - A := by
        unfold tL
        have hx : k + fst (fun i => !isL (T i)) k (e - k) = k := by
          first
            | (rw [show e - k = 0 by omega, fst_0]; rfl)
            | exact fst_t (by rw [isL_f (by omega)]; rfl)
        omega
      by_cases hz : k - A = 0
      · have ek : k = A := by omega
        subst ek
        rw [hz] at ev
        refine x_ls ?_ (lp_nxC hE hT hT2 (hg.trans hz) (e + 1) k I1 L1 (by omega) (by omega) hk rfl e1 e4 e2 (by rw [hz]; exact ev) hf hl)
        exact ⟨rfl, by rw [show (some (Value.int (nI (k - k))) : Option Value) = some (.int (nI 0)) by rw [hz]]; rfl, trivial⟩
      · have hd0 : tD T e A = 0 := by unfold tD; rw [if_neg (by omega)]
        rw [hg, hd0]
        refine x_iload_n dX7_next_147 rfl ?_
        refine x_ifN_ne 230 dX7_next_148 (by decide) (by omega) (fun h148 => ?_) (fun h148 => absurd h148 (by omega))
        refine x_ls ?_ (nx_tail hE hT hT2 e1 e4 hf hl (l := k - A) (g := 0) (by rw [e2]; congr 1; omega) (by rw [ev]; unfold vlF; rw [if_neg hz]) (Or.inr rfl) (by omega))
        exact ⟨rfl, rfl, trivial⟩
    · refine x_aload_n dX7_next_70 rfl ?_
      refine g_Tokens_tape fX7_9 dX7_next_71 ?_
      refine x_aload_n dX7_next_74 rfl ?_
      refine g_Tokens_after fX7_28 dX7_next_75 ?_
      rw [e2]
      refine x_iald dX7_next_78 rfl rfl (Nat.le_of_ble_eq_true rfl) (by first | exact Nat.le_of_ble_eq_true rfl | assumption | omega) ?_
      rw [hT1 k h67]
      refine x_bipush dX7_next_79 lb_97 ?_
      refine x_icN_lt 137 dX7_next_81 (by decide) (by omega) (by omega) (fun h81 => ?_) (fun h81 => ?_)
      · refine x_aload_n dX7_next_137 rfl ?_
        refine g_Tokens_after fX7_28 dX7_next_138 ?_
        rw [e2]
        refine x_aload_n dX7_next_141 rfl ?_
        refine g_Tokens_at fX7_34 dX7_next_142 ?_
        rw [e4]
        refine x_isubN dX7_next_145 (by omega) ?_
        refine x_istore_n dX7_next_146 (by decide) rfl ?_
        have hg : tL T e A = k - A := by
          unfold tL
          have hx : k + fst (fun i => !isL (T i)) k (e - k) = k := by
            first
              | (rw [show e - k = 0 by omega, fst_0]; rfl)
              | exact fst_t (by rw [isL_f (by omega)]; rfl)
          omega
        by_cases hz : k - A = 0
        · have ek : k = A := by omega
          subst ek
          rw [hz] at ev
          refine x_ls ?_ (lp_nxC hE hT hT2 (hg.trans hz) (e + 1) k I1 L1 (by omega) (by omega) hk rfl e1 e4 e2 (by rw [hz]; exact ev) hf hl)
          exact ⟨rfl, by rw [show (some (Value.int (nI (k - k))) : Option Value) = some (.int (nI 0)) by rw [hz]]; rfl, trivial⟩
        · have hd0 : tD T e A = 0 := by unfold tD; rw [if_neg (by omega)]
          rw [hg, hd0]
          refine x_iload_n dX7_next_147 rfl ?_
          refine x_ifN_ne 230 dX7_next_148 (by decide) (by omega) (fun h148 => ?_) (fun h148 => absurd h148 (by omega))
          refine x_ls ?_ (nx_tail hE hT hT2 e1 e4 hf hl (l := k - A) (g := 0) (by rw [e2]; congr 1; omega) (by rw [ev]; unfold vlF; rw [if_neg hz]) (Or.inr rfl) (by omega))
          exact ⟨rfl, rfl, trivial⟩
      · refine x_aload_n dX7_next_84 rfl ?_
        refine g_Tokens_tape fX7_9 dX7_next_85 ?_
        refine x_aload_n dX7_next_88 rfl ?_
        refine g_Tokens_after fX7_28 dX7_next_89 ?_
        rw [e2]
        refine x_iald dX7_next_92 rfl rfl (Nat.le_of_ble_eq_true rfl) (by first | exact Nat.le_of_ble_eq_true rfl | assumption | omega) ?_
        rw [hT1 k h67]
        refine x_bipush dX7_next_93 lb_122 ?_
        refine x_icN_gt 137 dX7_next_95 (by decide) (by omega) (by omega) (fun h95 => ?_) (fun h95 => ?_)
        · refine x_aload_n dX7_next_137 rfl ?_
          refine g_Tokens_after fX7_28 dX7_next_138 ?_
          rw [e2]
          refine x_aload_n dX7_next_141 rfl ?_
          refine g_Tokens_at fX7_34 dX7_next_142 ?_
          rw [e4]
          refine x_isubN dX7_next_145 (by omega) ?_
          refine x_istore_n dX7_next_146 (by decide) rfl ?_
          have hg : tL T e A = k - A := by
            unfold tL
            have hx : k + fst (fun i => !isL (T i)) k (e - k) = k := by
              first
                | (rw [show e - k = 0 by omega, fst_0]; rfl)
                | exact fst_t (by rw [isL_f (by omega)]; rfl)
            omega
          by_cases hz : k - A = 0
          · have ek : k = A := by omega
            subst ek
            rw [hz] at ev
            refine x_ls ?_ (lp_nxC hE hT hT2 (hg.trans hz) (e + 1) k I1 L1 (by omega) (by omega) hk rfl e1 e4 e2 (by rw [hz]; exact ev) hf hl)
            exact ⟨rfl, by rw [show (some (Value.int (nI (k - k))) : Option Value) = some (.int (nI 0)) by rw [hz]]; rfl, trivial⟩
          · have hd0 : tD T e A = 0 := by unfold tD; rw [if_neg (by omega)]
            rw [hg, hd0]
            refine x_iload_n dX7_next_147 rfl ?_
            refine x_ifN_ne 230 dX7_next_148 (by decide) (by omega) (fun h148 => ?_) (fun h148 => absurd h148 (by omega))
            refine x_ls ?_ (nx_tail hE hT hT2 e1 e4 hf hl (l := k - A) (g := 0) (by rw [e2]; congr 1; omega) (by rw [ev]; unfold vlF; rw [if_neg hz]) (Or.inr rfl) (by omega))
            exact ⟨rfl, rfl, trivial⟩
        · refine x_aload_n dX7_next_98 rfl ?_
          refine x_aload_n dX7_next_99 rfl ?_
          refine g_Tokens_value fX7_37 dX7_next_100 ?_
          rw [ev]
          refine x_iconst dX7_next_103 li_5 ?_
          refine x_lshl dX7_next_104 rfl ?_
          refine x_aload_n dX7_next_105 rfl ?_
          refine g_Tokens_tape fX7_9 dX7_next_106 ?_
          refine x_aload_n dX7_next_109 rfl ?_
          refine g_Tokens_after fX7_28 dX7_next_110 ?_
          rw [e2]
          refine x_iald dX7_next_113 rfl rfl (Nat.le_of_ble_eq_true rfl) (by first | exact Nat.le_of_ble_eq_true rfl | assumption | omega) ?_
          rw [hT1 k h67]
          refine x_bipush dX7_next_114 lb_97 ?_
          refine x_isubN dX7_next_116 (by omega) ?_
          refine x_iconst dX7_next_117 li_1 ?_
          refine x_iaddN dX7_next_118 ?_
          refine x_i2l dX7_next_119 rfl ?_
          refine x_lor dX7_next_120 ?_
          refine p_Tokens_value fX7_37 dX7_next_121 ?_
          refine x_aload_n dX7_next_124 rfl ?_
          refine x_dup dX7_next_125 rfl ?_
          refine g_Tokens_after fX7_28 dX7_next_126 ?_
          rw [e2]
          refine x_iconst dX7_next_129 li_1 ?_
          refine x_iaddN dX7_next_130 ?_
          refine p_Tokens_after fX7_28 dX7_next_131 ?_
          refine x_goto 59 dX7_next_134 (by decide) ?_
          refine x_ls ?_ (ih (k + 1) _ _ (by omega) (by omega) (by omega) ((fst_f h67 (by rw [isL_t (by omega) (by omega)]; rfl)).trans hfs) ?_ ?_ ?_ ?_ hf.xu hl.xu)
          · exact ⟨rfl, trivial⟩
          · rw [xu_nk (by decide)]; exact e1
          · rw [xu_nk (by decide)]; exact e4
          · rw [xu_s]
          · rw [xu_s, show k + 1 - A = (k - A) + 1 by omega, wL, show A + (k - A) = k by omega]
set_option maxRecDepth 100000 in
set_option maxHeartbeats 4000000 in
theorem lp_nxA {T : Nat → Nat} {e : Nat} (hE : e ≤ 1100) (hT : ∀ i, i < e → I 14 0 i = nI (T i)) (hT2 : ∀ i, T i < 256) {a : Nat} : ∀ (n : Nat) (k : Nat) (I1 : Nat → Nat → Nat → Int32) (L1 : Nat → Nat → Nat → Int64), e - k < n → a ≤ k → k ≤ e → k + fst (fun i => decide (T i ≠ 32)) k (e - k) = tA T e a → I1 7 0 1 = nI e → I1 7 0 4 = nI k → F7 I I1 → F7 L L1 → X G vX7_next (d) (0, 0) 8 [(0, some (.ref (ad 7 0)))] [] (MM ad nb b r I1 L1) (xT G (qV (fun M' => ∃ I' L', M' = MM ad nb b r I' L' ∧ TK T e a I' L' ∧ F7 I I' ∧ F7 L L'))) := by
  intro n
  induction n with
  | zero => intro k I1 L1 h0; omega
  | succ n ih =>
    intro k I1 L1 hn hA hk hfs e1 e4 hf hl
    have hT1 : ∀ i, i < e → I1 14 0 i = nI (T i) := fun i hi => by rw [hf 14 (by decide)]; exact hT i hi
    have hTk := hT2 k
    refine x_aload_n dX7_next_8 rfl ?_
    refine g_Tokens_at fX7_34 dX7_next_9 ?_
    rw [e4]
    refine x_aload_n dX7_next_12 rfl ?_
    refine g_Tokens_end fX7_24 dX7_next_13 ?_
    rw [e1]
    refine x_icN_ge 46 dX7_next_16 (by decide) (by omega) (by omega) (fun h16 => ?_) (fun h16 => ?_)
    · refine x_aload_n dX7_next_46 rfl ?_
      refine x_aload_n dX7_next_47 rfl ?_
      refine g_Tokens_at fX7_34 dX7_next_48 ?_
      rw [e4]
      refine p_Tokens_after fX7_28 dX7_next_51 ?_
      refine x_aload_n dX7_next_54 rfl ?_
      refine x_lconst dX7_next_55 (v := lN 0) rfl ?_
      refine p_Tokens_value fX7_37 dX7_next_56 ?_
      have hx : tA T e a = k := by
        rw [← hfs]
        first
          | (rw [show e - k = 0 by omega, fst_0]; rfl)
          | exact fst_t (decide_eq_true h30)
      unfold TK
      rw [hx]
      refine x_ls ?_ (lp_nxB hE hT hT2 (A := k) (e + 1) k _ _ (by omega) (by omega) hk rfl ?_ ?_ ?_ ?_ hf.xu hl.xu)
      · exact ⟨rfl, trivial⟩
      · rw [xu_nk (by decide)]; exact e1
      · rw [xu_nk (by decide)]; exact e4
      · rw [xu_s]
      · rw [xu_s, Nat.sub_self]; rfl
    · refine x_aload_n dX7_next_19 rfl ?_
      refine g_Tokens_tape fX7_9 dX7_next_20 ?_
      refine x_aload_n dX7_next_23 rfl ?_
      refine g_Tokens_at fX7_34 dX7_next_24 ?_
      rw [e4]
      refine x_iald dX7_next_27 rfl rfl (Nat.le_of_ble_eq_true rfl) (by first | exact Nat.le_of_ble_eq_true rfl | assumption | omega) ?_
      rw [hT1 k h16]
      refine x_bipush dX7_next_28 lb_32 ?_
      refine x_icN_ne 46 dX7_next_30 (by decide) (by omega) (by omega) (fun h30 => ?_) (fun h30 => ?_)
      · refine x_aload_n dX7_next_46 rfl ?_
        refine x_aload_n dX7_next_47 rfl ?_
        refine g_Tokens_at fX7_34 dX7_next_48 ?_
        rw [e4]
        refine p_Tokens_after fX7_28 dX7_next_51 ?_
        refine x_aload_n dX7_next_54 rfl ?_
        refine x_lconst dX7_next_55 (v := lN 0) rfl ?_
        refine p_Tokens_value fX7_37 dX7_next_56 ?_
        have hx : tA T e a = k := by
          rw [← hfs]
          first
            | (rw [show e - k = 0 by omega, fst_0]; rfl)
            | exact fst_t (decide_eq_true h30)
        unfold TK
        rw [hx]
        refine x_ls ?_ (lp_nxB hE hT hT2 (A := k) (e + 1) k _ _ (by omega) (by omega) hk rfl ?_ ?_ ?_ ?_ hf.xu hl.xu)
        · exact ⟨rfl, trivial⟩
        · rw [xu_nk (by decide)]; exact e1
        · rw [xu_nk (by decide)]; exact e4
        · rw [xu_s]
        · rw [xu_s, Nat.sub_self]; rfl
      · refine x_aload_n dX7_next_33 rfl ?_
        refine x_dup dX7_next_34 rfl ?_
        refine g_Tokens_at fX7_34 dX7_next_35 ?_
        rw [e4]
        refine x_iconst dX7_next_38 li_1 ?_
        refine x_iaddN dX7_next_39 ?_
        refine p_Tokens_at fX7_34 dX7_next_40 ?_
        refine x_goto 8 dX7_next_43 (by decide) ?_
        refine x_ls ?_ (ih (k + 1) _ L1 (by omega) (by omega) (by omega) ((fst_f h16 (decide_eq_false (fun z => z h30))).trans hfs) ?_ ?_ hf.xu hl)
        · exact ⟨rfl, trivial⟩
        · rw [xu_nk (by decide)]; exact e1
        · rw [xu_s]
set_option maxRecDepth 100000 in
set_option maxHeartbeats 4000000 in
theorem c_next {T : Nat → Nat} {e : Nat} (hE : e ≤ 1100) (hT : ∀ i, i < e → I 14 0 i = nI (T i)) (hT2 : ∀ i, T i < 256) {a : Nat} (ha : a ≤ e) (e1 : I 7 0 1 = nI e) (e2 : I 7 0 2 = nI a) : Mt G vX7_next (d) (0, 0) [.ref (ad 7 0)] (MM ad nb b r I L) (qV (fun M' => ∃ I' L', M' = MM ad nb b r I' L' ∧ TK T e a I' L' ∧ F7 I I' ∧ F7 L L')) := by
  refine x_start (by decide) (Nat.le_of_ble_eq_true rfl) ?_
  refine x_aload_n dX7_next_0 rfl ?_
  refine x_aload_n dX7_next_1 rfl ?_
  refine g_Tokens_after fX7_28 dX7_next_2 ?_
  rw [e2]
  refine p_Tokens_at fX7_34 dX7_next_5 ?_
  refine x_ls ?_ (lp_nxA hE hT hT2 (a := a) (e + 1) a _ L (by omega) (Nat.le_refl a) ha rfl ?_ ?_ (F7.xu (fun _ _ => rfl)) (fun _ _ => rfl))
  · exact ⟨rfl, trivial⟩
  · rw [xu_nk (by decide)]; exact e1
  · rw [xu_s]
end Tok
