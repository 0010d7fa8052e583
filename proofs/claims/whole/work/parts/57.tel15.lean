section Tel15
variable {G : xG} {ad : Nat → Nat → Nat} {nb : Nat} {b r : Option Nat} {L : Nat → Nat → Nat → Int64} {V : sV} {I : Nat → Nat → Nat → Int32} {d : Nat}

theorem PSt.nx {T : Nat → Nat} {e : Nat} {s : pS} {I1 : Nat → Nat → Nat → Int32} {L1 : Nat → Nat → Nat → Int64} (h : PSt T e s I L) (k : TK T e (nx T e s.2.2) I1 L1) (hI : F7 I I1) (hL : F7 L L1) : PSt T e (s.1, s.2.1, nx T e s.2.2) I1 L1 := by
  obtain ⟨h1, h2, h3, h4, h5⟩ := h
  refine ⟨(nx_le h1).2, k, h3.sm (fun q hq1 hq2 => hI q (by omega)), fun i hi => by rw [hI 29 (by decide)]; exact h4 i hi, h5.sm (by rw [hI 6 (by decide)]) (hI 39 (by decide)) (hI 40 (by decide)) (hL 38 (by decide))⟩
theorem qR2_pre {T : Nat → Nat} {e : Nat} {q q' : lR} {I1 : Nat → Nat → Nat → Int32} {L1 : Nat → Nat → Nat → Int64} {rr : Int32} {M' : xM} (hI : F7 I I1) (hL : F7 L L1) (h : q' = q) (hq : rr = bI q.isRight ∧ ∃ I' L', M' = MM ad nb b r I' L' ∧ FP I1 I' ∧ FL L1 L' ∧ (∀ f, q = .inl f → I' 6 0 1 = nI f.1 ∧ I' 6 0 2 = nI f.2) ∧ ∀ s, q = .inr s → PSt T e s I' L' ∧ I' 6 0 1 = I1 6 0 1 ∧ I' 6 0 2 = I1 6 0 2) : qR2 T e ad nb b r I L q' (some (.int rr)) M' := by
  subst h
  obtain ⟨h1, I', L', h2, h3, h4, h5, h6⟩ := hq
  refine ⟨_, rfl, h1, I', L', h2, fun a c hac => ?_, fun s s7 s38 => ?_, h5, fun s hs => ?_⟩
  · rw [h3 a c hac, hI a (by omega)]
  · rw [h4 s s7 s38, hL s s7]
  · obtain ⟨k1, k2, k3⟩ := h6 s hs
    exact ⟨k1, by rw [k2, hI 6 (by decide)], by rw [k3, hI 6 (by decide)]⟩
theorem lw_eq {T : Nat → Nat} {e a : Nat} : (if kd T e a = 1 then wix 0 (vl T e a) else -1) = nO (-1) (lw T e a) ∧ lw T e a ≤ 101 := by
  unfold lw
  split
  · exact wiN_eq (by decide)
  · exact ⟨rfl, by omega⟩
theorem rm_eq : ∀ k, k < 12 → xRoomL.getD k 0 = nI (rmN k) ∧ rmN k ≤ 99 := by decide
theorem nO_neg {w : Nat} (h : w ≤ 101) (q : nO (-1) w < 0) : w = 0 := by
  rcases Nat.eq_zero_or_pos w with e | e
  · exact e
  · rw [nO_pos (by omega)] at q
    have h2 := Int32.lt_iff_toInt_lt.mp q
    rw [nI_toInt (by omega)] at h2
    exact absurd (show ((w - 1 : Nat) : Int) < 0 from h2) (by omega)
theorem nO_nneg {w : Nat} (q : ¬ nO (-1) w < 0) : 0 < w := by
  rcases Nat.eq_zero_or_pos w with e | e
  · rw [e] at q; exact absurd (show nO (-1) 0 < 0 by decide) q
  · exact e
theorem nar_bI {c : Bool} : narrow .boolean (.int (bI c)) = .int (bI c) := by cases c <;> decide
theorem VW.sz {V : sV} (h : VW V) : ∀ k, k < 12 → V 0 k 0 ≤ 99 := by
  obtain ⟨w0, w1, w2, w3, w4, w5, w6, w7, w8, w9, w10, w11, -⟩ := h
  intro k hk
  rcases (show k = 0 ∨ k = 1 ∨ k = 2 ∨ k = 3 ∨ k = 4 ∨ k = 5 ∨ k = 6 ∨ k = 7 ∨ k = 8 ∨ k = 9 ∨ k = 10 ∨ k = 11 by omega) with rfl | rfl | rfl | rfl | rfl | rfl | rfl | rfl | rfl | rfl | rfl | rfl <;> omega

set_option maxRecDepth 100000 in
set_option maxHeartbeats 4000000 in
theorem c_readLine {T : Nat → Nat} {e : Nat} (hE : e ≤ 1100) (hT : ∀ i, i < e → I 14 0 i = nI (T i)) (hT2 : ∀ i, T i < 256) {s : pS} (hP : PSt T e s I L) (hW : PW s) : Mt G vX6_readLine (d + 7) (0, 0) [.ref (ad 6 0)] (MM ad nb b r I L) (qR2 T e ad nb b r I L (rdLn T e s)) := by
  have hV := hW.1
  have v0 := hV.1
  have v1 := hV.2.1
  have v2 := hV.2.2.1
  have v3 := hV.2.2.2.1
  have v4 := hV.2.2.2.2.1
  have v7 := hV.2.2.2.2.2.2.2.1
  have v9 := hV.2.2.2.2.2.2.2.2.2.1
  have v10 := hV.2.2.2.2.2.2.2.2.2.2.1
  have hn := nx_le (T := T) hP.1
  refine x_start (by decide) (Nat.le_of_ble_eq_true rfl) ?_
  refine x_aload_n dX6_readLine_0 rfl ?_
  refine g_Teller_tokens fX6_34 dX6_readLine_1 ?_
  refine x_ldcS (n := 0) dX6_readLine_4 rfl ?_
  refine x_cvi (c_wordIn (d := d + 2) (i := 0) (kn := kd T e s.2.2) (v := vl T e s.2.2) (by omega) hP.2.1.2.2.2.1 kd_le hP.2.1.2.2.2.2) kX6_77 dX6_readLine_6 rfl (Nat.le_of_ble_eq_true rfl) rfl rfl (Nat.le_of_ble_eq_true rfl) (fun ru Mu hq => ?_)
  obtain ⟨rfl, rfl⟩ := hq
  rw [(lw_eq (T := T) (e := e) (a := s.2.2)).1]
  have hw1 := (lw_eq (T := T) (e := e) (a := s.2.2)).2
  generalize hw : lw T e s.2.2 = w at hw1 ⊢
  refine x_istore_n dX6_readLine_9 (by decide) rfl ?_
  refine x_iload_n dX6_readLine_10 rfl ?_
  refine x_if_lt 20 dX6_readLine_11 (by decide) (fun h11 => ?_) (fun h11 => ?_)
  · have hw0 := nO_neg hw1 h11
    refine x_aload_n dX6_readLine_20 rfl ?_
    refine x_iconst dX6_readLine_21 li_1 ?_
    refine x_aload_n dX6_readLine_22 rfl ?_
    refine g_Teller_tokens fX6_34 dX6_readLine_23 ?_
    refine g_Tokens_at fX6_65 dX6_readLine_26 ?_
    rw [hP.2.1.2.1]
    refine x_cvi (c_wrong (d := d + 6)) kX6_68 dX6_readLine_29 rfl (Nat.le_of_ble_eq_true rfl) rfl rfl (Nat.le_of_ble_eq_true rfl) (fun ru Mu hq => ?_)
    obtain ⟨rfl, rfl⟩ := hq
    refine x_zret dX6_readLine_32 rfl rfl ?_
    refine qR2_no (f := (1, tA T e s.2.2)) ?_ ⟨by rw [xu_nk (by decide), xu_s], xu_s⟩ (fun a c hac => by funext x; rw [xu_ns (by omega), xu_ns (by omega)]) (fun _ _ _ => rfl)
    unfold rdLn
    exact if_pos (by rw [hw]; omega)
  · have hw0 := nO_nneg h11
    rw [nO_pos (by omega)]
    obtain ⟨k, rfl⟩ : ∃ k, w = k + 1 := ⟨w - 1, by omega⟩
    rw [Nat.add_sub_cancel]
    refine x_iload_n dX6_readLine_14 rfl ?_
    refine x_bipush dX6_readLine_15 lb_12 ?_
    refine x_icN_lt 33 dX6_readLine_17 (by decide) (by omega) (by omega) (fun h17 => ?_) (fun h17 => ?_)
    · refine x_iload_n dX6_readLine_33 rfl ?_
      refine x_ifN_ne 60 dX6_readLine_34 (by decide) (by omega) (fun h34 => ?_) (fun h34 => ?_)
      · refine x_iload_n dX6_readLine_60 rfl ?_
        refine x_ifN_eq 88 dX6_readLine_61 (by decide) (by omega) (fun h61 => absurd h61 (by omega)) (fun h61 => ?_)
        refine x_aload_n dX6_readLine_64 rfl ?_
        refine g_Teller_draft fX6_12 dX6_readLine_65 ?_
        refine x_cvi (c_stands (d := d + 6) (V := s.1) (bd := 1) (by omega) (hP.2.2.1.1 0 (by omega)) v0) kX6_81 dX6_readLine_68 rfl (Nat.le_of_ble_eq_true rfl) rfl rfl (Nat.le_of_ble_eq_true rfl) (fun ru Mu hq => ?_)
        obtain ⟨rfl, rfl⟩ := hq
        refine x_if_ne 88 dX6_readLine_71 (by decide) (fun h71 => ?_) (fun h71 => ?_)
        · have h0 : 0 < s.1 0 0 0 := of_decide_eq_true (bI_ne.mp h71)
          refine x_aload_n dX6_readLine_88 rfl ?_
          refine g_Teller_draft fX6_12 dX6_readLine_89 ?_
          refine g_Border_sizes fX6_72 dX6_readLine_92 (by first | exact Nat.le_of_ble_eq_true rfl | assumption | omega) ?_
          refine x_iload_n dX6_readLine_95 rfl ?_
          refine x_iald dX6_readLine_96 rfl rfl (Nat.lt_of_lt_of_le (by first | assumption | omega | decide) (Nat.le_refl 2)) (by omega) ?_
          rw [hP.2.2.1.1 k (by omega)]
          refine x_room dX6_readLine_97 (xm3 142 rfl rfl) ?_
          refine x_iload_n dX6_readLine_100 rfl ?_
          refine x_roomL dX6_readLine_101 rfl (by omega) ?_
          rw [(rm_eq k (by omega)).1]
          have hrk := (rm_eq k (by omega)).2
          have hsk := hV.sz k (by omega)
          refine x_icN_lt 118 dX6_readLine_102 (by decide) (by omega) (by omega) (fun h102 => ?_) (fun h102 => ?_)
          · have hrm : s.1 0 k 0 < rmN k := h102
            refine x_aload_n dX6_readLine_118 rfl ?_
            refine g_Teller_tokens fX6_34 dX6_readLine_119 ?_
            refine x_cvv (c_next (d := d + 6) (a := nx T e s.2.2) hE hT hT2 hn.2 hP.2.1.1 hP.2.1.2.2.1) kX6_62 dX6_readLine_122 rfl (Nat.le_of_ble_eq_true rfl) rfl rfl (Nat.le_of_ble_eq_true rfl) (fun Mu hq => ?_)
            obtain ⟨I1, L1, rfl, k7, f7, l7⟩ := hq
            have hP1 := hP.nx k7 f7 l7
            have hW1 : PW (s.1, s.2.1, nx T e s.2.2) := hW
            refine x_iload_n dX6_readLine_125 rfl ?_
            rcases (show k = 1 ∨ k = 2 ∨ k = 3 ∨ k = 4 ∨ k = 5 ∨ k = 6 ∨ k = 7 ∨ k = 8 ∨ k = 9 ∨ k = 10 ∨ k = 11 by omega) with rfl | rfl | rfl | rfl | rfl | rfl | rfl | rfl | rfl | rfl | rfl
            · refine x_tswIn 189 dX6_readLine_126 (by decide) (by decide) rfl (by decide) ?_
              refine x_aload_n dX6_readLine_189 rfl ?_
              refine x_cvi (c_read_land (d := d) hE (fun i hi => by rw [f7 14 (by decide)]; exact hT i hi) hT2 hP1 hW1 hrm) kX6_90 dX6_readLine_190 rfl (Nat.le_of_ble_eq_true rfl) rfl rfl (Nat.le_of_ble_eq_true rfl) (fun ru Mu hq => ?_)
              refine x_zret dX6_readLine_193 rfl (by rw [hq.1]; exact nar_bI) ?_
              refine qR2_pre f7 l7 ?_ hq
              unfold rdLn
              rw [hw, if_neg (by omega), if_neg (by omega), if_neg (by omega), if_neg (by show ¬ rmN 1 ≤ s.1 0 1 0; omega)]
              rfl
            · refine x_tswIn 194 dX6_readLine_126 (by decide) (by decide) rfl (by decide) ?_
              refine x_aload_n dX6_readLine_194 rfl ?_
              refine x_cvi (c_read_smell (d := d) hE (fun i hi => by rw [f7 14 (by decide)]; exact hT i hi) hT2 hP1 hW1 hrm) kX6_93 dX6_readLine_195 rfl (Nat.le_of_ble_eq_true rfl) rfl rfl (Nat.le_of_ble_eq_true rfl) (fun ru Mu hq => ?_)
              refine x_zret dX6_readLine_198 rfl (by rw [hq.1]; exact nar_bI) ?_
              refine qR2_pre f7 l7 ?_ hq
              unfold rdLn
              rw [hw, if_neg (by omega), if_neg (by omega), if_neg (by omega), if_neg (by show ¬ rmN 2 ≤ s.1 0 2 0; omega)]
              rfl
            · refine x_tswIn 199 dX6_readLine_126 (by decide) (by decide) rfl (by decide) ?_
              refine x_aload_n dX6_readLine_199 rfl ?_
              refine x_cvi (c_read_nose (d := d) hE (fun i hi => by rw [f7 14 (by decide)]; exact hT i hi) hT2 hP1 hW1 hrm) kX6_96 dX6_readLine_200 rfl (Nat.le_of_ble_eq_true rfl) rfl rfl (Nat.le_of_ble_eq_true rfl) (fun ru Mu hq => ?_)
              refine x_zret dX6_readLine_203 rfl (by rw [hq.1]; exact nar_bI) ?_
              refine qR2_pre f7 l7 ?_ hq
              unfold rdLn
              rw [hw, if_neg (by omega), if_neg (by omega), if_neg (by omega), if_neg (by show ¬ rmN 3 ≤ s.1 0 3 0; omega)]
              rfl
            · refine x_tswIn 204 dX6_readLine_126 (by decide) (by decide) rfl (by decide) ?_
              refine x_aload_n dX6_readLine_204 rfl ?_
              refine x_cvi (c_read_place (d := d) hE (fun i hi => by rw [f7 14 (by decide)]; exact hT i hi) hT2 hP1 hW1 hrm) kX6_99 dX6_readLine_205 rfl (Nat.le_of_ble_eq_true rfl) rfl rfl (Nat.le_of_ble_eq_true rfl) (fun ru Mu hq => ?_)
              refine x_zret dX6_readLine_208 rfl (by rw [hq.1]; exact nar_bI) ?_
              refine qR2_pre f7 l7 ?_ hq
              unfold rdLn
              rw [hw, if_neg (by omega), if_neg (by omega), if_neg (by omega), if_neg (by show ¬ rmN 4 ≤ s.1 0 4 0; omega)]
              rfl
            · refine x_tswIn 209 dX6_readLine_126 (by decide) (by decide) rfl (by decide) ?_
              refine x_aload_n dX6_readLine_209 rfl ?_
              refine x_cvi (c_read_path (d := d) hE (fun i hi => by rw [f7 14 (by decide)]; exact hT i hi) hT2 hP1 hW1) kX6_102 dX6_readLine_210 rfl (Nat.le_of_ble_eq_true rfl) rfl rfl (Nat.le_of_ble_eq_true rfl) (fun ru Mu hq => ?_)
              refine x_zret dX6_readLine_213 rfl (by rw [hq.1]; exact nar_bI) ?_
              refine qR2_pre f7 l7 ?_ hq
              unfold rdLn
              rw [hw, if_neg (by omega), if_neg (by omega), if_neg (by omega), if_neg (by show ¬ rmN 5 ≤ s.1 0 5 0; omega)]
              rfl
            · refine x_tswIn 214 dX6_readLine_126 (by decide) (by decide) rfl (by decide) ?_
              refine x_aload_n dX6_readLine_214 rfl ?_
              refine x_bipush dX6_readLine_215 lb_6 ?_
              refine x_iconst dX6_readLine_217 li_4 ?_
              refine x_aload_n dX6_readLine_218 rfl ?_
              refine g_Teller_draft fX6_12 dX6_readLine_219 ?_
              refine g_Border_leaves fX6_105 dX6_readLine_222 (by first | exact Nat.le_of_ble_eq_true rfl | assumption | omega) ?_
              refine x_bipush dX6_readLine_225 lb_60 ?_
              refine x_cvi (c_read_leaves (d := d) hE (fun i hi => by rw [f7 14 (by decide)]; exact hT i hi) hT2 hP1 hW1) kX6_109 dX6_readLine_227 rfl (Nat.le_of_ble_eq_true rfl) rfl rfl (Nat.le_of_ble_eq_true rfl) (fun ru Mu hq => ?_)
              refine x_zret dX6_readLine_230 rfl (by rw [hq.1]; exact nar_bI) ?_
              refine qR2_pre f7 l7 ?_ hq
              unfold rdLn
              rw [hw, if_neg (by omega), if_neg (by omega), if_neg (by omega), if_neg (by show ¬ rmN 6 ≤ s.1 0 6 0; omega)]
              rfl
            · refine x_tswIn 231 dX6_readLine_126 (by decide) (by decide) rfl (by decide) ?_
              refine x_aload_n dX6_readLine_231 rfl ?_
              refine x_cvi (c_read_trav (d := d) hE (fun i hi => by rw [f7 14 (by decide)]; exact hT i hi) hT2 hP1 hW1 hrm) kX6_113 dX6_readLine_232 rfl (Nat.le_of_ble_eq_true rfl) rfl rfl (Nat.le_of_ble_eq_true rfl) (fun ru Mu hq => ?_)
              refine x_zret dX6_readLine_235 rfl (by rw [hq.1]; exact nar_bI) ?_
              refine qR2_pre f7 l7 ?_ hq
              unfold rdLn
              rw [hw, if_neg (by omega), if_neg (by omega), if_neg (by omega), if_neg (by show ¬ rmN 7 ≤ s.1 0 7 0; omega)]
              rfl
            · refine x_tswIn 236 dX6_readLine_126 (by decide) (by decide) rfl (by decide) ?_
              refine x_aload_n dX6_readLine_236 rfl ?_
              refine x_cvi (c_read_walk (d := d) hE (fun i hi => by rw [f7 14 (by decide)]; exact hT i hi) hT2 hP1 hW1) kX6_116 dX6_readLine_237 rfl (Nat.le_of_ble_eq_true rfl) rfl rfl (Nat.le_of_ble_eq_true rfl) (fun ru Mu hq => ?_)
              refine x_zret dX6_readLine_240 rfl (by rw [hq.1]; exact nar_bI) ?_
              refine qR2_pre f7 l7 ?_ hq
              unfold rdLn
              rw [hw, if_neg (by omega), if_neg (by omega), if_neg (by omega), if_neg (by show ¬ rmN 8 ≤ s.1 0 8 0; omega)]
              rfl
            · refine x_tswIn 241 dX6_readLine_126 (by decide) (by decide) rfl (by decide) ?_
              refine x_aload_n dX6_readLine_241 rfl ?_
              refine x_cvi (c_read_asked (d := d) hE (fun i hi => by rw [f7 14 (by decide)]; exact hT i hi) hT2 hP1 hW1 hrm) kX6_119 dX6_readLine_242 rfl (Nat.le_of_ble_eq_true rfl) rfl rfl (Nat.le_of_ble_eq_true rfl) (fun ru Mu hq => ?_)
              refine x_zret dX6_readLine_245 rfl (by rw [hq.1]; exact nar_bI) ?_
              refine qR2_pre f7 l7 ?_ hq
              unfold rdLn
              rw [hw, if_neg (by omega), if_neg (by omega), if_neg (by omega), if_neg (by show ¬ rmN 9 ≤ s.1 0 9 0; omega)]
              rfl
            · refine x_tswIn 246 dX6_readLine_126 (by decide) (by decide) rfl (by decide) ?_
              refine x_aload_n dX6_readLine_246 rfl ?_
              refine x_cvi (c_read_whiff (d := d) hE (fun i hi => by rw [f7 14 (by decide)]; exact hT i hi) hT2 hP1 hW1) kX6_122 dX6_readLine_247 rfl (Nat.le_of_ble_eq_true rfl) rfl rfl (Nat.le_of_ble_eq_true rfl) (fun ru Mu hq => ?_)
              refine x_zret dX6_readLine_250 rfl (by rw [hq.1]; exact nar_bI) ?_
              refine qR2_pre f7 l7 ?_ hq
              unfold rdLn
              rw [hw, if_neg (by omega), if_neg (by omega), if_neg (by omega), if_neg (by show ¬ rmN 10 ≤ s.1 0 10 0; omega)]
              rfl
            · refine x_tswOut 251 dX6_readLine_126 (by decide) (by decide) ?_
              refine x_aload_n dX6_readLine_251 rfl ?_
              refine x_bipush dX6_readLine_252 lb_11 ?_
              refine x_bipush dX6_readLine_254 lb_7 ?_
              refine x_aload_n dX6_readLine_256 rfl ?_
              refine g_Teller_draft fX6_12 dX6_readLine_257 ?_
              refine g_Border_on fX6_125 dX6_readLine_260 (by first | exact Nat.le_of_ble_eq_true rfl | assumption | omega) ?_
              refine x_bipush dX6_readLine_263 lb_99 ?_
              refine x_cvi (c_read_on (d := d) hE (fun i hi => by rw [f7 14 (by decide)]; exact hT i hi) hT2 hP1 hW1) kX6_109 dX6_readLine_265 rfl (Nat.le_of_ble_eq_true rfl) rfl rfl (Nat.le_of_ble_eq_true rfl) (fun ru Mu hq => ?_)
              refine x_zret dX6_readLine_268 rfl (by rw [hq.1]; exact nar_bI) ?_
              refine qR2_pre f7 l7 ?_ hq
              unfold rdLn
              rw [hw, if_neg (by omega), if_neg (by omega), if_neg (by omega), if_neg (by show ¬ rmN 11 ≤ s.1 0 11 0; omega)]
              rfl
          · refine x_aload_n dX6_readLine_105 rfl ?_
            refine x_iconst dX6_readLine_106 li_5 ?_
            refine x_aload_n dX6_readLine_107 rfl ?_
            refine g_Teller_tokens fX6_34 dX6_readLine_108 ?_
            refine g_Tokens_at fX6_65 dX6_readLine_111 ?_
            rw [hP.2.1.2.1]
            refine x_cvi (c_wrong (d := d + 6)) kX6_68 dX6_readLine_114 rfl (Nat.le_of_ble_eq_true rfl) rfl rfl (Nat.le_of_ble_eq_true rfl) (fun ru Mu hq => ?_)
            obtain ⟨rfl, rfl⟩ := hq
            refine x_zret dX6_readLine_117 rfl rfl ?_
            refine qR2_no (f := (5, tA T e s.2.2)) ?_ ⟨by rw [xu_nk (by decide), xu_s], xu_s⟩ (fun a c hac => by funext x; rw [xu_ns (by omega), xu_ns (by omega)]) (fun _ _ _ => rfl)
            unfold rdLn
            rw [hw, if_neg (by omega), if_neg (by omega), if_neg (by omega)]
            exact if_pos h102
        · have hz : s.1 0 0 0 = 0 := Nat.eq_zero_of_not_pos (fun z => absurd (bI_eq.mp h71) (by rw [decide_eq_true z]; decide))
          refine x_aload_n dX6_readLine_74 rfl ?_
          refine x_bipush dX6_readLine_75 lb_6 ?_
          refine x_aload_n dX6_readLine_77 rfl ?_
          refine g_Teller_tokens fX6_34 dX6_readLine_78 ?_
          refine g_Tokens_at fX6_65 dX6_readLine_81 ?_
          rw [hP.2.1.2.1]
          refine x_cvi (c_wrong (d := d + 6)) kX6_68 dX6_readLine_84 rfl (Nat.le_of_ble_eq_true rfl) rfl rfl (Nat.le_of_ble_eq_true rfl) (fun ru Mu hq => ?_)
          obtain ⟨rfl, rfl⟩ := hq
          refine x_zret dX6_readLine_87 rfl rfl ?_
          refine qR2_no (f := (6, tA T e s.2.2)) ?_ ⟨by rw [xu_nk (by decide), xu_s], xu_s⟩ (fun a c hac => by funext x; rw [xu_ns (by omega), xu_ns (by omega)]) (fun _ _ _ => rfl)
          unfold rdLn
          rw [hw, if_neg (by omega), if_neg (by omega)]
          exact if_pos ⟨by omega, hz⟩
      · refine x_aload_n dX6_readLine_37 rfl ?_
        refine g_Teller_draft fX6_12 dX6_readLine_38 ?_
        refine x_cvi (c_stands (d := d + 6) (V := s.1) (bd := 1) (by omega) (hP.2.2.1.1 0 (by omega)) v0) kX6_81 dX6_readLine_41 rfl (Nat.le_of_ble_eq_true rfl) rfl rfl (Nat.le_of_ble_eq_true rfl) (fun ru Mu hq => ?_)
        obtain ⟨rfl, rfl⟩ := hq
        refine x_if_eq 60 dX6_readLine_44 (by decide) (fun h44 => ?_) (fun h44 => ?_)
        · refine x_iload_n dX6_readLine_60 rfl ?_
          refine x_ifN_eq 88 dX6_readLine_61 (by decide) (by omega) (fun h61 => ?_) (fun h61 => absurd h61 (by omega))
          refine x_aload_n dX6_readLine_88 rfl ?_
          refine g_Teller_draft fX6_12 dX6_readLine_89 ?_
          refine g_Border_sizes fX6_72 dX6_readLine_92 (by first | exact Nat.le_of_ble_eq_true rfl | assumption | omega) ?_
          refine x_iload_n dX6_readLine_95 rfl ?_
          refine x_iald dX6_readLine_96 rfl rfl (Nat.lt_of_lt_of_le (by first | assumption | omega | decide) (Nat.le_refl 2)) (by omega) ?_
          rw [hP.2.2.1.1 k (by omega)]
          refine x_room dX6_readLine_97 (xm3 142 rfl rfl) ?_
          refine x_iload_n dX6_readLine_100 rfl ?_
          refine x_roomL dX6_readLine_101 rfl (by omega) ?_
          rw [(rm_eq k (by omega)).1]
          have hrk := (rm_eq k (by omega)).2
          have hsk := hV.sz k (by omega)
          refine x_icN_lt 118 dX6_readLine_102 (by decide) (by omega) (by omega) (fun h102 => ?_) (fun h102 => ?_)
          · have hrm : s.1 0 k 0 < rmN k := h102
            have h0 : s.1 0 0 0 = 0 := Nat.eq_zero_of_not_pos (fun z => absurd (bI_eq.mp h44) (by rw [decide_eq_true z]; decide))
            refine x_aload_n dX6_readLine_118 rfl ?_
            refine g_Teller_tokens fX6_34 dX6_readLine_119 ?_
            refine x_cvv (c_next (d := d + 6) (a := nx T e s.2.2) hE hT hT2 hn.2 hP.2.1.1 hP.2.1.2.2.1) kX6_62 dX6_readLine_122 rfl (Nat.le_of_ble_eq_true rfl) rfl rfl (Nat.le_of_ble_eq_true rfl) (fun Mu hq => ?_)
            obtain ⟨I1, L1, rfl, k7, f7, l7⟩ := hq
            have hP1 := hP.nx k7 f7 l7
            have hW1 : PW (s.1, s.2.1, nx T e s.2.2) := hW
            refine x_iload_n dX6_readLine_125 rfl ?_
            obtain rfl : k = 0 := h34
            · refine x_tswIn 184 dX6_readLine_126 (by decide) (by decide) rfl (by decide) ?_
              refine x_aload_n dX6_readLine_184 rfl ?_
              refine x_cvi (c_readWind (d := d) hE (fun i hi => by rw [f7 14 (by decide)]; exact hT i hi) hT2 hP1 hW1) kX6_87 dX6_readLine_185 rfl (Nat.le_of_ble_eq_true rfl) rfl rfl (Nat.le_of_ble_eq_true rfl) (fun ru Mu hq => ?_)
              refine x_zret dX6_readLine_188 rfl (by rw [hq.1]; exact nar_bI) ?_
              refine qR2_pre f7 l7 ?_ hq
              unfold rdLn
              rw [hw, if_neg (by omega), if_neg (by omega), if_neg (by omega), if_neg (by show ¬ rmN 0 ≤ s.1 0 0 0; omega)]
              rfl
          · refine x_aload_n dX6_readLine_105 rfl ?_
            refine x_iconst dX6_readLine_106 li_5 ?_
            refine x_aload_n dX6_readLine_107 rfl ?_
            refine g_Teller_tokens fX6_34 dX6_readLine_108 ?_
            refine g_Tokens_at fX6_65 dX6_readLine_111 ?_
            rw [hP.2.1.2.1]
            refine x_cvi (c_wrong (d := d + 6)) kX6_68 dX6_readLine_114 rfl (Nat.le_of_ble_eq_true rfl) rfl rfl (Nat.le_of_ble_eq_true rfl) (fun ru Mu hq => ?_)
            obtain ⟨rfl, rfl⟩ := hq
            refine x_zret dX6_readLine_117 rfl rfl ?_
            refine qR2_no (f := (5, tA T e s.2.2)) ?_ ⟨by rw [xu_nk (by decide), xu_s], xu_s⟩ (fun a c hac => by funext x; rw [xu_ns (by omega), xu_ns (by omega)]) (fun _ _ _ => rfl)
            unfold rdLn
            rw [hw, if_neg (by omega), if_neg (fun z => absurd (bI_eq.mp h44) (by rw [decide_eq_true z.2]; decide)), if_neg (by omega)]
            exact if_pos h102
        · refine x_aload_n dX6_readLine_47 rfl ?_
          refine x_iconst dX6_readLine_48 li_3 ?_
          refine x_aload_n dX6_readLine_49 rfl ?_
          refine g_Teller_tokens fX6_34 dX6_readLine_50 ?_
          refine g_Tokens_at fX6_65 dX6_readLine_53 ?_
          rw [hP.2.1.2.1]
          refine x_cvi (c_wrong (d := d + 6)) kX6_68 dX6_readLine_56 rfl (Nat.le_of_ble_eq_true rfl) rfl rfl (Nat.le_of_ble_eq_true rfl) (fun ru Mu hq => ?_)
          obtain ⟨rfl, rfl⟩ := hq
          refine x_zret dX6_readLine_59 rfl rfl ?_
          refine qR2_no (f := (3, tA T e s.2.2)) ?_ ⟨by rw [xu_nk (by decide), xu_s], xu_s⟩ (fun a c hac => by funext x; rw [xu_ns (by omega), xu_ns (by omega)]) (fun _ _ _ => rfl)
          unfold rdLn
          rw [hw, if_neg (by omega)]
          exact if_pos ⟨by omega, of_decide_eq_true (bI_ne.mp h44)⟩
    · refine x_aload_n dX6_readLine_20 rfl ?_
      refine x_iconst dX6_readLine_21 li_1 ?_
      refine x_aload_n dX6_readLine_22 rfl ?_
      refine g_Teller_tokens fX6_34 dX6_readLine_23 ?_
      refine g_Tokens_at fX6_65 dX6_readLine_26 ?_
      rw [hP.2.1.2.1]
      refine x_cvi (c_wrong (d := d + 6)) kX6_68 dX6_readLine_29 rfl (Nat.le_of_ble_eq_true rfl) rfl rfl (Nat.le_of_ble_eq_true rfl) (fun ru Mu hq => ?_)
      obtain ⟨rfl, rfl⟩ := hq
      refine x_zret dX6_readLine_32 rfl rfl ?_
      refine qR2_no (f := (1, tA T e s.2.2)) ?_ ⟨by rw [xu_nk (by decide), xu_s], xu_s⟩ (fun a c hac => by funext x; rw [xu_ns (by omega), xu_ns (by omega)]) (fun _ _ _ => rfl)
      unfold rdLn
      exact if_pos (by rw [hw]; omega)
end Tel15
