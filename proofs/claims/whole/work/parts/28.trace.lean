section Trace
variable {G : xG} {ad : Nat → Nat → Nat} {nb : Nat} {b r : Option Nat} {L : Nat → Nat → Nat → Int64} {V : sV} {I : Nat → Nat → Nat → Int32} {d : Nat}

/-- he comes to p with h on him -/
def cmf (V : sV) (h : Nat → Nat) (p s : Nat) : Nat := max (h s) (2 * V 8 p s)
/-- do the whiffs of the first n smells fit -/
def okw (V : sV) (g : Nat → Nat) : Nat → Bool
  | 0 => true
  | n + 1 => okw V g n && (decide (V 17 n 0 = 0) || decide (g n / 2 + 1 = V 17 n 0))
/-- the rows of BEEN that begin with w and p, in the order of the search -/
def bm (V : sV) : Nat → List Nat → Nat → (Nat → Nat) → List (List Nat)
  | 0, _, _, _ => []
  | f + 1, w, p, h => (if okw V (cmf V h p) (V 0 2 0) = true then [w ++ [p]] else []) ++ (List.range (V 0 4 0)).flatMap (fun q => if 0 < V 7 p q ∧ q ∉ w ++ [p] then bm V f (w ++ [p]) q (fun s => cmf V h p s - fd (V 2 s 0) * V 7 p q) else [])
def fsF (a w : List Nat) : List Nat := if a.length = 0 ∨ w.length < a.length then w else a
def fsT (T : List (List Nat)) : List Nat := T.foldl fsF []
def orT (T : List (List Nat)) : Nat := T.foldl (fun a w => a ||| sbit w) 0
def anT (T : List (List Nat)) : Nat := T.foldl (fun a w => a &&& sbit w) 63
theorem fsT_app (T : List (List Nat)) (w : List Nat) : fsT (T ++ [w]) = fsF (fsT T) w := by unfold fsT; rw [List.foldl_append]; rfl
theorem orT_app (T : List (List Nat)) (w : List Nat) : orT (T ++ [w]) = orT T ||| sbit w := by unfold orT; rw [List.foldl_append]; rfl
theorem anT_app (T : List (List Nat)) (w : List Nat) : anT (T ++ [w]) = anT T &&& sbit w := by unfold anT; rw [List.foldl_append]; rfl
theorem nI_and (a c : Nat) : nI a &&& nI c = nI (a &&& c) := by
  apply Int32.toBitVec_inj.mp
  simp only [nI, Int32.toBitVec_and, Int32.toBitVec_ofNat', BitVec.ofNat_and]
/-- what trace holds: the rows T -/
def TS (T : List (List Nat)) (I : Nat → Nat → Nat → Int32) : Prop := I 8 0 2 = nI T.length ∧ I 8 0 3 = nI (orT T) ∧ I 8 0 4 = nI (anT T) ∧ I 8 0 5 = nI (fsT T).length ∧ (fsT T).length ≤ 4 ∧ ∀ i, i < (fsT T).length → I 56 0 i = nI ((fsT T).getD i 0)
theorem TS.sm {T : List (List Nat)} {I I' : Nat → Nat → Nat → Int32} (h : TS T I) (h8 : I' 8 = I 8) (h56 : I' 56 = I 56) : TS T I' := by
  unfold TS at h ⊢
  rw [h8, h56]
  exact h

set_option maxRecDepth 100000 in
set_option maxHeartbeats 4000000 in
theorem c_tadd {T : List (List Nat)} {w : List Nat} (hT : TS T I) (h1 : 1 ≤ w.length) (h4 : w.length ≤ 4) (hw : ∀ i, i < w.length → I 57 0 i = nI (w.getD i 0)) : Mt G vX8_add (d + 1) (0, 0) [.ref (ad 8 0), .int (nI (w.length)), .int (nI (sbit w))] (MM ad nb b r I L) (qV (fun M' => ∃ I', M' = MM ad nb b r I' L ∧ TS (T ++ [w]) I' ∧ Sm (fun s => s = 8 ∨ s = 56) I I')) := by
  obtain ⟨t2, t3, t4, t5, t6, t7⟩ := hT
  refine x_start (by decide) (Nat.le_of_ble_eq_true rfl) ?_
  refine x_aload_n dX8_add_0 rfl ?_
  refine x_dup dX8_add_1 rfl ?_
  refine g_Trace_rows fX8_31 dX8_add_2 ?_
  rw [t2]
  refine x_iconst dX8_add_5 li_1 ?_
  refine x_iaddN dX8_add_6 ?_
  refine p_Trace_rows fX8_31 dX8_add_7 ?_
  refine x_aload_n dX8_add_10 rfl ?_
  refine x_dup dX8_add_11 rfl ?_
  refine g_Trace_inSome fX8_35 dX8_add_12 ?_
  rw [xu_nk (by decide), t3]
  refine x_iload_n dX8_add_15 rfl ?_
  refine x_ior dX8_add_16 ?_
  rw [nI_or]
  refine p_Trace_inSome fX8_35 dX8_add_17 ?_
  refine x_aload_n dX8_add_20 rfl ?_
  refine x_dup dX8_add_21 rfl ?_
  refine g_Trace_inAll fX8_38 dX8_add_22 ?_
  rw [xu_nk (by decide), xu_nk (by decide), t4]
  refine x_iload_n dX8_add_25 rfl ?_
  refine x_iand dX8_add_26 ?_
  rw [nI_and]
  refine p_Trace_inAll fX8_38 dX8_add_27 ?_
  refine x_aload_n dX8_add_30 rfl ?_
  refine g_Trace_firstLength fX8_41 dX8_add_31 ?_
  rw [xu_nk (by decide), xu_nk (by decide), xu_nk (by decide), t5]
  refine x_ifN_eq 45 dX8_add_34 (by decide) (by omega) (fun h34 => ?_) (fun h34 => ?_)
  · have hF : fsF (fsT T) w = w := by unfold fsF; rw [if_pos (by omega)]
    refine x_aload_n dX8_add_45 rfl ?_
    refine x_iload_n dX8_add_46 rfl ?_
    refine p_Trace_firstLength fX8_41 dX8_add_47 ?_
    refine x_aload_n dX8_add_50 rfl ?_
    refine g_Trace_row fX8_15 dX8_add_51 ?_
    refine x_iconst dX8_add_54 li_0 ?_
    refine x_aload_n dX8_add_55 rfl ?_
    refine g_Trace_first fX8_11 dX8_add_56 ?_
    refine x_iconst dX8_add_59 li_0 ?_
    refine x_iload_n dX8_add_60 rfl ?_
    refine x_copy dX8_add_61 (xm4 239 rfl rfl) rfl rfl rfl rfl rfl (Nat.le_of_ble_eq_true rfl) (Nat.le_of_ble_eq_true rfl) (by first | exact Nat.le_of_ble_eq_true rfl | assumption | omega) (by first | exact Nat.le_of_ble_eq_true rfl | assumption | omega) (Nat.le_of_ble_eq_true rfl) ?_
    refine x_vret dX8_add_64 rfl ?_
    refine ⟨rfl, _, rfl, ?_, ?_⟩
    · unfold TS
      rw [fsT_app, orT_app, anT_app, hF]
      first
        | (refine ⟨?_, ?_, ?_, ?_, h4, fun i hi => ?_⟩
           · rw [xur_ns (by decide), xu_nk (by decide), xu_nk (by decide), xu_nk (by decide), xu_s]; congr 1; simp
           · rw [xur_ns (by decide), xu_nk (by decide), xu_nk (by decide), xu_s]
           · rw [xur_ns (by decide), xu_nk (by decide), xu_s]
           · rw [xur_ns (by decide), xu_s]
           · rw [xur_s, pk_cpy_in (by omega) (by omega), xu_ns (by decide), xu_ns (by decide), xu_ns (by decide), xu_ns (by decide)]
             simpa using hw i hi)
        | (refine ⟨?_, ?_, ?_, ?_, t6, fun i hi => ?_⟩
           · rw [xu_nk (by decide), xu_nk (by decide), xu_s]; congr 1; simp
           · rw [xu_nk (by decide), xu_s]
           · rw [xu_s]
           · rw [xu_nk (by decide), xu_nk (by decide), xu_nk (by decide)]; exact t5
           · rw [xu_ns (by decide), xu_ns (by decide), xu_ns (by decide)]; exact t7 i hi)
    · first
        | exact Sm.xur (Sm.xu (Sm.xu (Sm.xu (Sm.xu Sm.rf (by simp)) (by simp)) (by simp)) (by simp)) (by simp)
        | exact Sm.xu (Sm.xu (Sm.xu Sm.rf (by simp)) (by simp)) (by simp)
  · refine x_iload_n dX8_add_37 rfl ?_
    refine x_aload_n dX8_add_38 rfl ?_
    refine g_Trace_firstLength fX8_41 dX8_add_39 ?_
    rw [xu_nk (by decide), xu_nk (by decide), xu_nk (by decide), t5]
    refine x_icN_ge 64 dX8_add_42 (by decide) (by omega) (by omega) (fun h42 => ?_) (fun h42 => ?_)
    · have hF : fsF (fsT T) w = fsT T := by unfold fsF; rw [if_neg (by omega)]
      refine x_vret dX8_add_64 rfl ?_
      refine ⟨rfl, _, rfl, ?_, ?_⟩
      · unfold TS
        rw [fsT_app, orT_app, anT_app, hF]
        first
          | (refine ⟨?_, ?_, ?_, ?_, h4, fun i hi => ?_⟩
             · rw [xur_ns (by decide), xu_nk (by decide), xu_nk (by decide), xu_nk (by decide), xu_s]; congr 1; simp
             · rw [xur_ns (by decide), xu_nk (by decide), xu_nk (by decide), xu_s]
             · rw [xur_ns (by decide), xu_nk (by decide), xu_s]
             · rw [xur_ns (by decide), xu_s]
             · rw [xur_s, pk_cpy_in (by omega) (by omega), xu_ns (by decide), xu_ns (by decide), xu_ns (by decide), xu_ns (by decide)]
               simpa using hw i hi)
          | (refine ⟨?_, ?_, ?_, ?_, t6, fun i hi => ?_⟩
             · rw [xu_nk (by decide), xu_nk (by decide), xu_s]; congr 1; simp
             · rw [xu_nk (by decide), xu_s]
             · rw [xu_s]
             · rw [xu_nk (by decide), xu_nk (by decide), xu_nk (by decide)]; exact t5
             · rw [xu_ns (by decide), xu_ns (by decide), xu_ns (by decide)]; exact t7 i hi)
      · first
          | exact Sm.xur (Sm.xu (Sm.xu (Sm.xu (Sm.xu Sm.rf (by simp)) (by simp)) (by simp)) (by simp)) (by simp)
          | exact Sm.xu (Sm.xu (Sm.xu Sm.rf (by simp)) (by simp)) (by simp)
    · have hF : fsF (fsT T) w = w := by unfold fsF; rw [if_pos (by omega)]
      refine x_aload_n dX8_add_45 rfl ?_
      refine x_iload_n dX8_add_46 rfl ?_
      refine p_Trace_firstLength fX8_41 dX8_add_47 ?_
      refine x_aload_n dX8_add_50 rfl ?_
      refine g_Trace_row fX8_15 dX8_add_51 ?_
      refine x_iconst dX8_add_54 li_0 ?_
      refine x_aload_n dX8_add_55 rfl ?_
      refine g_Trace_first fX8_11 dX8_add_56 ?_
      refine x_iconst dX8_add_59 li_0 ?_
      refine x_iload_n dX8_add_60 rfl ?_
      refine x_copy dX8_add_61 (xm4 239 rfl rfl) rfl rfl rfl rfl rfl (Nat.le_of_ble_eq_true rfl) (Nat.le_of_ble_eq_true rfl) (by first | exact Nat.le_of_ble_eq_true rfl | assumption | omega) (by first | exact Nat.le_of_ble_eq_true rfl | assumption | omega) (Nat.le_of_ble_eq_true rfl) ?_
      refine x_vret dX8_add_64 rfl ?_
      refine ⟨rfl, _, rfl, ?_, ?_⟩
      · unfold TS
        rw [fsT_app, orT_app, anT_app, hF]
        first
          | (refine ⟨?_, ?_, ?_, ?_, h4, fun i hi => ?_⟩
             · rw [xur_ns (by decide), xu_nk (by decide), xu_nk (by decide), xu_nk (by decide), xu_s]; congr 1; simp
             · rw [xur_ns (by decide), xu_nk (by decide), xu_nk (by decide), xu_s]
             · rw [xur_ns (by decide), xu_nk (by decide), xu_s]
             · rw [xur_ns (by decide), xu_s]
             · rw [xur_s, pk_cpy_in (by omega) (by omega), xu_ns (by decide), xu_ns (by decide), xu_ns (by decide), xu_ns (by decide)]
               simpa using hw i hi)
          | (refine ⟨?_, ?_, ?_, ?_, t6, fun i hi => ?_⟩
             · rw [xu_nk (by decide), xu_nk (by decide), xu_s]; congr 1; simp
             · rw [xu_nk (by decide), xu_s]
             · rw [xu_s]
             · rw [xu_nk (by decide), xu_nk (by decide), xu_nk (by decide)]; exact t5
             · rw [xu_ns (by decide), xu_ns (by decide), xu_ns (by decide)]; exact t7 i hi)
      · first
          | exact Sm.xur (Sm.xu (Sm.xu (Sm.xu (Sm.xu Sm.rf (by simp)) (by simp)) (by simp)) (by simp)) (by simp)
          | exact Sm.xu (Sm.xu (Sm.xu Sm.rf (by simp)) (by simp)) (by simp)
set_option maxRecDepth 100000 in
set_option maxHeartbeats 4000000 in
theorem c_whiffs (hV : VW V) (hB : XB V 0 I) (h00 : 0 < V 0 0 0) {j : Nat} {g : Nat → Nat} (hj : j < 4) (hg : ∀ s, s < V 0 2 0 → I 59 j s = nI (g s) ∧ g s ≤ 198) : Mt G vX8_hasAllWhiffs (d) (0, 0) [.ref (ad 8 0), .ref (ad 59 j)] (MM ad nb b r I L) (qE (bI (okw V g (V 0 2 0))) (MM ad nb b r I L)) := by
  have hs6 := hV.2.2.1
  have e2 : I 16 0 2 = nI (V 0 2 0) := hB.1 2 (by omega)
  have hw61 := hV.2.2.2.2.2.2.2.2.2.2.2.2.2.2.2.2.2.2.2.2.2.2.2
  have loop2 : ∀ (n : Nat) (k : Nat), V 0 2 0 - k < n → k ≤ V 0 2 0 → okw V g k = true → X G vX8_hasAllWhiffs (d) (0, 0) 2 [(0, some (.ref (ad 8 0))), (1, some (.ref (ad 59 j))), (2, some (.int (nI (k))))] [] (MM ad nb b r I L) (xT G (qE (bI (okw V g (V 0 2 0))) (MM ad nb b r I L))) := by
    intro n
    induction n with
    | zero => intro k h0; omega
    | succ n ih =>
      intro k hn hk0 hok
      have hwk := hw61 k
      refine x_iload_n dX8_hasAllWhiffs_2 rfl ?_
      refine x_aload_n dX8_hasAllWhiffs_3 rfl ?_
      refine g_Trace_border fX8_23 dX8_hasAllWhiffs_4 ?_
      refine g_Border_sizes fX8_44 dX8_hasAllWhiffs_7 (by first | exact Nat.le_of_ble_eq_true rfl | assumption | omega) ?_
      refine x_iconst dX8_hasAllWhiffs_10 li_2 ?_
      refine x_iald dX8_hasAllWhiffs_11 rfl rfl (Nat.lt_of_lt_of_le (by first | assumption | omega | decide) (Nat.le_refl 2)) (by first | exact Nat.le_of_ble_eq_true rfl | assumption | omega) ?_
      rw [e2]
      refine x_icN_ge 47 dX8_hasAllWhiffs_12 (by decide) (by omega) (by omega) (fun h12 => ?_) (fun h12 => ?_)
      · refine x_iconst dX8_hasAllWhiffs_47 li_1 ?_
        refine x_zret dX8_hasAllWhiffs_48 rfl rfl ?_
        have hkn : k = V 0 2 0 := Nat.le_antisymm hk0 h12
        subst hkn
        exact ⟨_, rfl, bI_1 hok, rfl⟩
      · refine x_aload_n dX8_hasAllWhiffs_15 rfl ?_
        refine g_Trace_border fX8_23 dX8_hasAllWhiffs_16 ?_
        refine g_Border_whiff fX8_85 dX8_hasAllWhiffs_19 (by first | exact Nat.le_of_ble_eq_true rfl | assumption | omega) ?_
        refine x_iload_n dX8_hasAllWhiffs_22 rfl ?_
        refine x_iald dX8_hasAllWhiffs_23 rfl rfl (Nat.lt_of_lt_of_le (by first | assumption | omega | decide) (Nat.le_refl 2)) (by first | exact Nat.le_of_ble_eq_true rfl | assumption | omega) ?_
        have ew : I 29 0 k = nO (-1) (V 17 k 0) := hB.2.2.2.2.2.2.2.2.1 k (by omega) h00
        rw [ew]
        refine x_istore_n dX8_hasAllWhiffs_24 (by decide) rfl ?_
        refine x_iload_n dX8_hasAllWhiffs_25 rfl ?_
        refine x_iconst dX8_hasAllWhiffs_26 li_m1 ?_
        refine x_ic_eq 41 dX8_hasAllWhiffs_27 (by decide) (fun h27 => ?_) (fun h27 => ?_)
        · have hn1 : V 17 k 0 = 0 ∨ g k / 2 + 1 = V 17 k 0 := by
            first
              | (right; omega)
              | (left
                 unfold nO at h27
                 by_cases z : V 17 k 0 = 0
                 · exact z
                 · rw [if_neg z] at h27
                   exact absurd h27 (fun q => by
                     have := nI_pos (n := V 17 k 0 - 1) (by omega)
                     rw [q] at this
                     exact this (by decide)))
          refine x_iincN 1 dX8_hasAllWhiffs_41 li_1 rfl (by decide) rfl ?_
          refine x_goto 2 dX8_hasAllWhiffs_44 (by decide) ?_
          refine x_ls ?_ (ih (k + 1) (by omega) (by omega) (by rw [okw, hok]; simpa using hn1))
          exact ⟨rfl, rfl, rfl, trivial⟩
        · have hpos : V 17 k 0 ≠ 0 := fun z => h27 (by rw [z]; rfl)
          have hnk : nO (-1) (V 17 k 0) = nI (V 17 k 0 - 1) := by unfold nO; rw [if_neg hpos]
          refine x_iload_n dX8_hasAllWhiffs_30 rfl ?_
          refine x_top hnk ?_
          refine x_aload_n dX8_hasAllWhiffs_31 rfl ?_
          refine x_iload_n dX8_hasAllWhiffs_32 rfl ?_
          refine x_iald dX8_hasAllWhiffs_33 rfl rfl (Nat.lt_of_lt_of_le (by first | assumption | omega | decide) (Nat.le_refl 4)) (by first | exact Nat.le_of_ble_eq_true rfl | assumption | omega) ?_
          have hgk := hg k h12
          rw [hgk.1]
          refine x_iconst dX8_hasAllWhiffs_34 li_2 ?_
          refine x_idivN dX8_hasAllWhiffs_35 (by omega) (by omega) (by omega) ?_
          refine x_icN_eq 41 dX8_hasAllWhiffs_36 (by decide) (by omega) (by omega) (fun h36 => ?_) (fun h36 => ?_)
          · have hn1 : V 17 k 0 = 0 ∨ g k / 2 + 1 = V 17 k 0 := by
              first
                | (right; omega)
                | (left
                   unfold nO at h27
                   by_cases z : V 17 k 0 = 0
                   · exact z
                   · rw [if_neg z] at h27
                     exact absurd h27 (fun q => by
                       have := nI_pos (n := V 17 k 0 - 1) (by omega)
                       rw [q] at this
                       exact this (by decide)))
            refine x_iincN 1 dX8_hasAllWhiffs_41 li_1 rfl (by decide) rfl ?_
            refine x_goto 2 dX8_hasAllWhiffs_44 (by decide) ?_
            refine x_ls ?_ (ih (k + 1) (by omega) (by omega) (by rw [okw, hok]; simpa using hn1))
            exact ⟨rfl, rfl, rfl, trivial⟩
          · refine x_iconst dX8_hasAllWhiffs_39 li_0 ?_
            refine x_zret dX8_hasAllWhiffs_40 rfl rfl ?_
            refine ⟨_, rfl, bI_0 ?_, rfl⟩
            have hno : okw V g (k + 1) = false := by
              rw [okw]
              have a1 : ¬ V 17 k 0 = 0 := hpos
              have a2 : ¬ g k / 2 + 1 = V 17 k 0 := by omega
              simp [a1, a2]
            have key : ∀ m, k + 1 ≤ m → okw V g m = false := by
              intro m
              induction m with
              | zero => omega
              | succ m ihm =>
                intro hm
                by_cases e : k = m
                · rw [← e]; exact hno
                · rw [okw, ihm (by omega)]; rfl
            rw [key (V 0 2 0) (by omega)]
            simp
  refine x_start (by decide) (Nat.le_of_ble_eq_true rfl) ?_
  refine x_iconst dX8_hasAllWhiffs_0 li_0 ?_
  refine x_istore_n dX8_hasAllWhiffs_1 (by decide) rfl ?_
  refine x_ls ?_ (loop2 (V 0 2 0 + 1) 0 (by omega) (by omega) rfl)
  exact ⟨rfl, rfl, rfl, trivial⟩
end Trace
