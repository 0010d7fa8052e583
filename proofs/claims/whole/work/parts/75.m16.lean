section M16
variable {G : xG} {ad : Nat → Nat → Nat} {nb : Nat} {b r : Option Nat} {L : Nat → Nat → Nat → Int64} {V : sV} {I : Nat → Nat → Nat → Int32} {d : Nat}
variable {to : Nat}
set_option maxRecDepth 100000 in
set_option maxHeartbeats 2000000 in
theorem lp_srch (hV : VW V) {bi : Nat} (hb : b = some bi) (hbn : bi < nb) {N : sN} (hW : NW V N) {t : Nat} (ht : t < V 0 7 0) (hB : YB V bi I) (hN : YN V N I) (hp : ∀ p, p < V 0 4 0 → I 89 0 p = nO (-2) (V 6 p 0)) (hto : to < V 0 4 0) {Wz : List (List Nat)} : ∀ (f : Nat) (P : List Nat) (p : Nat), P.length + f = 6 → 1 ≤ P.length → P.length < V 0 4 0 → (∀ x ∈ P, x < V 0 4 0) → P.getD (P.length - 1) 0 = p → p < V 0 4 0 → P.Nodup → ∀ (n c : Nat) (W : List (List Nat)) (I1 : Nat → Nat → Nat → Int32), V 0 4 0 - c < n → c ≤ V 0 4 0 → (c = 0 ∨ c - 1 ∉ P) → (W ++ exr V to f P p (V 0 4 0 - c) c).length ≤ 65 → SS V (ON N t) (V 9 t 0) W P I I1 → I1 92 0 P.length = nO (-1) c → (∀ I2, SS V (ON N t) (V 9 t 0) (W ++ exr V to f P p (V 0 4 0 - c) c) P I I2 → X G vX13_walksAll (d + 5) (0, 0) 76 [(0, some (.ref (ad 13 0))), (1, some (.int (nI (t)))), (2, some (.int (nI (to)))), (3, some (.int (nI (sbit P)))), (4, some (.int (nI (P.length - 1))))] [] (MM ad nb b r I2 L) (xT G (qV (fun M' => ∃ I', M' = MM ad nb b r I' L ∧ WR V (ON N t) (V 9 t 0) Wz I' ∧ FW I I')))) → X G vX13_walksAll (d + 5) (0, 0) 76 [(0, some (.ref (ad 13 0))), (1, some (.int (nI (t)))), (2, some (.int (nI (to)))), (3, some (.int (nI (if c = 0 then sbit P else sbit P ||| 2 ^ (c - 1))))), (4, some (.int (nI (P.length))))] [] (MM ad nb b r I1 L) (xT G (qV (fun M' => ∃ I', M' = MM ad nb b r I' L ∧ WR V (ON N t) (V 9 t 0) Wz I' ∧ FW I I'))) := by
  have v0 := hV.1
  have v1 := hV.2.1
  have v2 := hV.2.2.1
  have v3 := hV.2.2.2.1
  have v4 := hV.2.2.2.2.1
  have v7 := hV.2.2.2.2.2.2.2.1
  have v9 := hV.2.2.2.2.2.2.2.2.2.1
  have v10 := hV.2.2.2.2.2.2.2.2.2.2.1
  intro f
  induction f with
  | zero => intro P p h6 hP1 hPl; omega
  | succ f ihf =>
    intro P p h6 hP1 hPl hPq hlast hp4 hd n
    induction n with
    | zero => intro c W I1 h0; omega
    | succ n ih =>
      intro c W I1 hn hc hcP h65 hS hk kc
      have hsb := sbit_lt P (fun q hq => by have := hPq q hq; omega)
      have key : X G vX13_walksAll (d + 5) (0, 0) 117 [(0, some (.ref (ad 13 0))), (1, some (.int (nI (t)))), (2, some (.int (nI (to)))), (3, some (.int (nI (sbit P)))), (4, some (.int (nI (P.length))))] [] (MM ad nb b r (xu I1 92 0 P.length (nI c)) L) (xT G (qV (fun M' => ∃ I', M' = MM ad nb b r I' L ∧ WR V (ON N t) (V 9 t 0) Wz I' ∧ FW I I'))) := by
        refine lp_mfind (W := W) (P := P) (p := p) (c0 := c) hV hb hbn hW ht hB hN hp hto hP1 hPl hPq hlast hp4 ?_ (V 0 4 0 + 1) c _ (by omega) (Nat.le_refl c) hc (fun j h1 h2 => absurd h1 (by omega)) (hS.w (Nat.le_refl _)) xu_s
        intro q I2 hcq hq4 hno hok hS2 hk2
        have hB2 := hB.mx hS2.2.1.mx
        refine x_aload_n dX13_walksAll_193 rfl ?_
        refine g_M_way fX13_39 dX13_walksAll_194 ?_
        refine x_iload dX13_walksAll_197 rfl ?_
        refine x_iald dX13_walksAll_199 rfl rfl (Nat.le_of_ble_eq_true rfl) (by first | exact Nat.le_of_ble_eq_true rfl | assumption | omega) ?_
        rw [hk2]
        refine x_aload_n dX13_walksAll_200 rfl ?_
        refine g_M_border hb fX13_397 dX13_walksAll_201 ?_
        refine g_MB_places fX13_230 dX13_walksAll_204 hbn ?_
        refine x_top (y12_4 hB2) ?_
        refine x_icN_lt 216 dX13_walksAll_207 (by decide) (by omega) (by omega) (fun h207 => ?_) (fun h207 => ?_)
        · have hok2 := hok h207
          have hnx := exr_next (V := V) (to := to) (P := P) (p := p) (f := f + 1) (q := q) (V 0 4 0 - c) c hcq (by omega) hno hok2
          rw [show c + (V 0 4 0 - c) - (q + 1) = V 0 4 0 - (q + 1) by omega] at hnx
          have hlen : P.length + 1 = (P ++ [q]).length := by rw [List.length_append]; rfl
          have hPq2 : ∀ x ∈ P ++ [q], x < V 0 4 0 := fun x hx => by
            rcases List.mem_append.mp hx with e | e
            · exact hPq x e
            · rw [List.mem_singleton.mp e]; exact h207
          have hd2 : (P ++ [q]).Nodup := by
            rw [List.nodup_append]
            exact ⟨hd, by simp, fun a ha c hc e => hok2.2 (by rw [List.mem_singleton.mp hc] at e; exact e ▸ ha)⟩
          refine x_iload_n dX13_walksAll_216 rfl ?_
          refine x_iconst dX13_walksAll_217 li_1 ?_
          refine x_aload_n dX13_walksAll_218 rfl ?_
          refine g_M_way fX13_39 dX13_walksAll_219 ?_
          refine x_iload dX13_walksAll_222 rfl ?_
          refine x_iald dX13_walksAll_224 rfl rfl (Nat.le_of_ble_eq_true rfl) (by first | exact Nat.le_of_ble_eq_true rfl | assumption | omega) ?_
          rw [hk2]
          refine x_ishl dX13_walksAll_225 ?_
          rw [sh1 q (by omega)]
          refine x_ior dX13_walksAll_226 ?_
          rw [nI_or]
          refine x_istore_n dX13_walksAll_227 (by decide) rfl ?_
          refine x_aload_n dX13_walksAll_228 rfl ?_
          refine g_M_way fX13_39 dX13_walksAll_229 ?_
          refine x_iload dX13_walksAll_232 rfl ?_
          refine x_iald dX13_walksAll_234 rfl rfl (Nat.le_of_ble_eq_true rfl) (by first | exact Nat.le_of_ble_eq_true rfl | assumption | omega) ?_
          rw [hk2]
          refine x_iload_n dX13_walksAll_235 rfl ?_
          refine x_icN_ne 251 dX13_walksAll_236 (by decide) (by omega) (by omega) (fun h236 => ?_) (fun h236 => ?_)
          · refine x_iload dX13_walksAll_251 rfl ?_
            refine x_iconst dX13_walksAll_253 li_1 ?_
            refine x_iaddN dX13_walksAll_254 ?_
            refine x_aload_n dX13_walksAll_255 rfl ?_
            refine g_M_border hb fX13_397 dX13_walksAll_256 ?_
            refine g_MB_places fX13_230 dX13_walksAll_259 hbn ?_
            refine x_top (y12_4 hB2) ?_
            refine x_icN_ge 76 dX13_walksAll_262 (by decide) (by omega) (by omega) (fun h262 => ?_) (fun h262 => ?_)
            · have hex : ex V to (f + 1) P q = [] := ex_full h236 hd2 hPq2 (by omega)
              have heq : W ++ exr V to (f + 1) P p (V 0 4 0 - (q + 1)) (q + 1) = W ++ exr V to (f + 1) P p (V 0 4 0 - c) c := by rw [hnx, hex, List.nil_append]
              refine x_ls ?_ (ih (q + 1) (W) I2 (by omega) (by omega) (Or.inr (by rw [Nat.add_sub_cancel]; exact (hok h207).2)) (by rw [heq]; exact h65) hS2 (by rw [hk2, nO_pos (by omega), Nat.add_sub_cancel]) (fun I4 hI4 => kc I4 (by rw [← heq]; exact hI4)))
              exact ⟨rfl, rfl, rfl, by rw [if_neg (by omega), Nat.add_sub_cancel]; rfl, rfl, trivial⟩
            · refine x_iincN 1 dX13_walksAll_265 li_1 rfl (by decide) rfl ?_
              refine x_aload_n dX13_walksAll_268 rfl ?_
              refine g_M_way fX13_39 dX13_walksAll_269 ?_
              refine x_iload dX13_walksAll_272 rfl ?_
              refine x_iconst dX13_walksAll_274 li_m1 ?_
              refine x_iast dX13_walksAll_275 rfl rfl (Nat.le_of_ble_eq_true rfl) (by first | exact Nat.le_of_ble_eq_true rfl | assumption | omega) ?_
              refine x_goto 76 dX13_walksAll_276 (by decide) ?_
              have hex : ex V to (f + 1) P q = exr V to f (P ++ [q]) q (V 0 4 0 - 0) 0 := by rw [Nat.sub_zero]; exact ex_exr h236
              have heq : W ++ ex V to (f + 1) P q ++ exr V to (f + 1) P p (V 0 4 0 - (q + 1)) (q + 1) = W ++ exr V to (f + 1) P p (V 0 4 0 - c) c := by rw [hnx, List.append_assoc]
              have hSS : SS V (ON N t) (V 9 t 0) W (P ++ [q]) I (xu I2 92 0 (P.length + 1) (-1)) := ⟨hS2.1.sm (by rw [xu_ns (by decide)]) (fun s a c => by funext x y; rw [xu_ns (by omega)]), hS2.2.1.tr (FW.of (s0 := 92) (fun q hq => by funext x y; rw [xu_ns hq]) (by omega)), fun i hi => by rw [xu_nk (by omega)]; exact pre_app hS2.2.2 hk2 i hi⟩
              refine x_ls ?_ (ihf (P ++ [q]) q (by omega) (by omega) (by omega) hPq2 (by rw [← hlen, Nat.add_sub_cancel, List.getD_eq_getElem?_getD, List.getElem?_concat_length]; rfl) h207 hd2 (V 0 4 0 + 1) 0 W _ (by omega) (by omega) (Or.inl rfl) (by rw [← hex]; have := h65; rw [hnx] at this; simp only [List.length_append] at this ⊢; omega) hSS (by rw [← hlen, xu_s]; rfl) (fun I3 hI3 => ?_))
              · exact ⟨rfl, rfl, rfl, by rw [if_pos rfl, sbit_app]; rfl, by rw [← hlen]; rfl, trivial⟩
              · rw [← hex] at hI3
                obtain ⟨u1, u2⟩ := pre_un hI3.2.2
                refine x_ls ?_ (ih (q + 1) (W ++ ex V to (f + 1) P q) I3 (by omega) (by omega) (Or.inr (by rw [Nat.add_sub_cancel]; exact hok2.2)) (by rw [heq]; exact h65) ⟨hI3.1, hI3.2.1, u1⟩ (by rw [u2, nO_pos (by omega), Nat.add_sub_cancel]) (fun I4 hI4 => kc I4 (by rw [← heq]; exact hI4)))
                exact ⟨rfl, rfl, rfl, by rw [if_neg (by omega), Nat.add_sub_cancel, ← sbit_app]; rfl, by rw [show P.length = (P ++ [q]).length - 1 by omega]; rfl, trivial⟩
          · have hex : ex V to (f + 1) P q = [P ++ [q]] := if_pos h236
            refine x_aload_n dX13_walksAll_239 rfl ?_
            refine x_iload_n dX13_walksAll_240 rfl ?_
            refine x_iload dX13_walksAll_241 rfl ?_
            refine x_iconst dX13_walksAll_243 li_1 ?_
            refine x_iaddN dX13_walksAll_244 ?_
            rw [hlen]
            refine x_cvv (m_ends (d := d) (W := W) (w := P ++ [q]) hV hb hbn hW ht hS2.1.2.1 (by rw [hnx, hex] at h65; simp at h65; omega) (by omega) (by omega) hPq2 hB2 (hN.mx hS2.2.1.mx) (fun p hp4 => by rw [hS2.2.1.1 89 (by decide) (by decide) (by decide)]; exact hp p hp4) (pre_app hS2.2.2 hk2) hS2.1) kX13_453 dX13_walksAll_245 rfl (Nat.le_of_ble_eq_true rfl) rfl rfl (Nat.le_of_ble_eq_true rfl) (fun Mu hq => ?_)
            obtain ⟨I3, rfl, w3, f3⟩ := hq
            have e92 := f3.1 92 (by decide) (by decide) (by decide)
            refine x_goto 76 dX13_walksAll_248 (by decide) ?_
            have heq : W ++ [P ++ [q]] ++ exr V to (f + 1) P p (V 0 4 0 - (q + 1)) (q + 1) = W ++ exr V to (f + 1) P p (V 0 4 0 - c) c := by rw [hnx, hex, List.append_assoc]
            refine x_ls ?_ (ih (q + 1) (W ++ [P ++ [q]]) I3 (by omega) (by omega) (Or.inr (by rw [Nat.add_sub_cancel]; exact (hok h207).2)) (by rw [heq]; exact h65) ⟨w3, hS2.2.1.tr f3.fw, fun i hi => by rw [e92]; exact hS2.2.2 i hi⟩ (by rw [e92, hk2, nO_pos (by omega), Nat.add_sub_cancel]) (fun I4 hI4 => kc I4 (by rw [← heq]; exact hI4)))
            exact ⟨rfl, rfl, rfl, by rw [if_neg (by omega), Nat.add_sub_cancel]; rfl, rfl, trivial⟩
        · refine x_iinc dX13_walksAll_210 rfl rfl (by decide) rfl ?_
          refine x_goto 76 dX13_walksAll_213 (by decide) ?_
          have hq : q = V 0 4 0 := by omega
          refine x_ls ?_ (kc I2 ?_)
          · exact ⟨rfl, rfl, rfl, rfl, by rw [show nI P.length + Int32.ofInt (-1) = nI (P.length - 1) by have := nI_dec (P.length - 1); rwa [show P.length - 1 + 1 = P.length by omega] at this]; rfl, trivial⟩
          · rw [exr_none _ _ (fun j h1 h2 => hno j h1 (by omega)), List.append_nil]; exact hS2
      rcases Nat.eq_zero_or_pos c with z | z
      · subst z
        rw [if_pos rfl]
        refine x_iload dX13_walksAll_76 rfl ?_
        refine x_ifN_le 279 dX13_walksAll_78 (by decide) (by omega) (fun h78 => absurd h78 (by omega)) (fun h78 => ?_)
        refine x_aload_n dX13_walksAll_81 rfl ?_
        refine g_M_way fX13_39 dX13_walksAll_82 ?_
        refine x_iload dX13_walksAll_85 rfl ?_
        refine x_iald dX13_walksAll_87 rfl rfl (Nat.le_of_ble_eq_true rfl) (by first | exact Nat.le_of_ble_eq_true rfl | assumption | omega) ?_
        rw [show I1 92 0 P.length = -1 from hk]
        refine x_iconst dX13_walksAll_88 li_m1 ?_
        refine x_ic_eq 106 dX13_walksAll_89 (by decide) (fun h89 => ?_) (fun h89 => absurd rfl h89)
        refine x_aload_n dX13_walksAll_106 rfl ?_
        refine g_M_way fX13_39 dX13_walksAll_107 ?_
        refine x_iload dX13_walksAll_110 rfl ?_
        refine x_dup2 dX13_walksAll_112 rfl rfl ?_
        refine x_iald dX13_walksAll_113 rfl rfl (Nat.le_of_ble_eq_true rfl) (by first | exact Nat.le_of_ble_eq_true rfl | assumption | omega) ?_
        rw [show I1 92 0 P.length = -1 from hk]
        refine x_iconst dX13_walksAll_114 li_1 ?_
        refine x_iadd dX13_walksAll_115 ?_
        refine x_top (v := nI 0) (by decide) ?_
        refine x_iast dX13_walksAll_116 rfl rfl (Nat.le_of_ble_eq_true rfl) (by first | exact Nat.le_of_ble_eq_true rfl | assumption | omega) ?_
        refine x_ls ?_ key
        exact ⟨rfl, rfl, rfl, rfl, rfl, trivial⟩
      · rw [if_neg (by omega)]
        have hk3 : I1 92 0 P.length = nI (c - 1) := by rw [hk, nO_pos (by omega)]
        have hc5 : c - 1 ∉ P := hcP.resolve_left (by omega)
        have hcl := clr (sbit P) hsb (c - 1) (by omega) (by cases e : (sbit P).testBit (c - 1) with | false => rfl | true => exact absurd ((sbit_in (c - 1) P).mp e) hc5)
        refine x_iload dX13_walksAll_76 rfl ?_
        refine x_ifN_le 279 dX13_walksAll_78 (by decide) (by omega) (fun h78 => absurd h78 (by omega)) (fun h78 => ?_)
        refine x_aload_n dX13_walksAll_81 rfl ?_
        refine g_M_way fX13_39 dX13_walksAll_82 ?_
        refine x_iload dX13_walksAll_85 rfl ?_
        refine x_iald dX13_walksAll_87 rfl rfl (Nat.le_of_ble_eq_true rfl) (by first | exact Nat.le_of_ble_eq_true rfl | assumption | omega) ?_
        rw [hk3]
        refine x_iconst dX13_walksAll_88 li_m1 ?_
        refine x_ic_eq 106 dX13_walksAll_89 (by decide) (fun h89 => absurd h89 (nI_ne_m1 (by omega))) (fun h89 => ?_)
        refine x_iload_n dX13_walksAll_92 rfl ?_
        refine x_iconst dX13_walksAll_93 li_1 ?_
        refine x_aload_n dX13_walksAll_94 rfl ?_
        refine g_M_way fX13_39 dX13_walksAll_95 ?_
        refine x_iload dX13_walksAll_98 rfl ?_
        refine x_iald dX13_walksAll_100 rfl rfl (Nat.le_of_ble_eq_true rfl) (by first | exact Nat.le_of_ble_eq_true rfl | assumption | omega) ?_
        rw [hk3]
        refine x_ishl dX13_walksAll_101 ?_
        refine x_iconst dX13_walksAll_102 li_m1 ?_
        refine x_ixor dX13_walksAll_103 ?_
        refine x_iand dX13_walksAll_104 ?_
        rw [hcl]
        refine x_istore_n dX13_walksAll_105 (by decide) rfl ?_
        refine x_aload_n dX13_walksAll_106 rfl ?_
        refine g_M_way fX13_39 dX13_walksAll_107 ?_
        refine x_iload dX13_walksAll_110 rfl ?_
        refine x_dup2 dX13_walksAll_112 rfl rfl ?_
        refine x_iald dX13_walksAll_113 rfl rfl (Nat.le_of_ble_eq_true rfl) (by first | exact Nat.le_of_ble_eq_true rfl | assumption | omega) ?_
        rw [hk3]
        refine x_iconst dX13_walksAll_114 li_1 ?_
        refine x_iaddN dX13_walksAll_115 ?_
        rw [show c - 1 + 1 = c by omega]
        refine x_iast dX13_walksAll_116 rfl rfl (Nat.le_of_ble_eq_true rfl) (by first | exact Nat.le_of_ble_eq_true rfl | assumption | omega) ?_
        refine x_ls ?_ key
        exact ⟨rfl, rfl, rfl, rfl, rfl, trivial⟩

theorem WR.nil {f : Nat → Nat} {so : Nat} (h31 : I 13 0 31 = nI 0) (h94 : ∀ k, k < 3 → I 94 0 k = nI 0) : WR V f so [] I := by
  have b : ∀ kd, kd < 3 → BA V f so [] kd I := fun kd hk => ⟨by rw [h94 kd hk]; rfl, fun z => absurd rfl z⟩
  exact ⟨h31, fun w hw => absurd hw List.not_mem_nil, fun k hk => absurd hk (Nat.not_lt_zero k), b 0 (by decide), b 1 (by decide), b 2 (by decide)⟩

set_option maxRecDepth 100000 in
set_option maxHeartbeats 600000 in
theorem m_walksAll (hV : VW V) {bi : Nat} (hb : b = some bi) (hbn : bi < nb) {N : sN} (hW : NW V N) {t : Nat} (ht : t < V 0 7 0) (hB : YB V bi I) (hN : YN V N I) (hp : ∀ p, p < V 0 4 0 → I 89 0 p = nO (-2) (V 6 p 0)) (hto : to < V 0 4 0) : Mt G vX13_walksAll (d + 5) (0, 0) [.ref (ad 13 0), .int (nI (t)), .int (nI (to))] (MM ad nb b r I L) (qV (fun M' => ∃ I', M' = MM ad nb b r I' L ∧ WR V (ON N t) (V 9 t 0) (wys V (N t 0) to) I' ∧ FW I I')) := by
  have v0 := hV.1
  have v1 := hV.2.1
  have v2 := hV.2.2.1
  have v3 := hV.2.2.2.1
  have v4 := hV.2.2.2.2.1
  have v7 := hV.2.2.2.2.2.2.2.1
  have v9 := hV.2.2.2.2.2.2.2.2.2.1
  have v10 := hV.2.2.2.2.2.2.2.2.2.2.1
  have hp0 := (hW t ht).1
  have loop7 : ∀ (n : Nat) (k : Nat) (I1 : Nat → Nat → Nat → Int32), 3 - k < n → k ≤ 3 → (∀ j, j < k → I1 94 0 j = nI 0) → (∀ s, s ≠ 94 → I1 s = (xu I 13 0 31 (nI 0)) s) → X G vX13_walksAll (d + 5) (0, 0) 7 [(0, some (.ref (ad 13 0))), (1, some (.int (nI (t)))), (2, some (.int (nI (to)))), (3, some (.int (nI (k))))] [] (MM ad nb b r I1 L) (xT G (qV (fun M' => ∃ I', M' = MM ad nb b r I' L ∧ WR V (ON N t) (V 9 t 0) (wys V (N t 0) to) I' ∧ FW I I'))) := by
    intro n
    induction n with
    | zero => intro k I1 h0; omega
    | succ n ih =>
      intro k I1 hn hk h1 hs
      refine x_iload_n dX13_walksAll_7 rfl ?_
      refine x_iconst dX13_walksAll_8 li_3 ?_
      refine x_icN_ge 25 dX13_walksAll_9 (by decide) (by omega) (by omega) (fun h9 => ?_) (fun h9 => ?_)
      · refine x_aload_n dX13_walksAll_25 rfl ?_
        refine g_M_way fX13_39 dX13_walksAll_26 ?_
        refine x_iconst dX13_walksAll_29 li_0 ?_
        refine x_aload_n dX13_walksAll_30 rfl ?_
        refine g_M_v fX13_17 dX13_walksAll_31 ?_
        refine x_bipush dX13_walksAll_34 lb_24 ?_
        refine x_iload_n dX13_walksAll_36 rfl ?_
        refine x_iaddN dX13_walksAll_37 ?_
        refine x_iald dX13_walksAll_38 rfl rfl (Nat.le_of_ble_eq_true rfl) (by first | exact Nat.le_of_ble_eq_true rfl | assumption | omega) ?_
        rw [hs 85 (by decide), xu_ns (by decide), (hN t ht).2.1]
        refine x_iast dX13_walksAll_39 rfl rfl (Nat.le_of_ble_eq_true rfl) (by first | exact Nat.le_of_ble_eq_true rfl | assumption | omega) ?_
        have fw : FW I (xu I1 92 0 0 (nI (N t 0))) := ⟨fun s a c e => by rw [show (xu I1 92 0 0 (nI (N t 0))) s = I1 s by funext x y; rw [xu_ns (by omega)], hs s (by omega)]; funext x y; rw [xu_ns e], fun k hk => by rw [xu_ns (by decide), hs 13 (by decide), xu_nk hk]⟩
        have w0 : WR V (ON N t) (V 9 t 0) [] (xu I1 92 0 0 (nI (N t 0))) := WR.nil (by rw [xu_ns (by decide), hs 13 (by decide), xu_s]) (fun k hk => by rw [xu_ns (by decide)]; exact h1 k (by omega))
        refine x_aload_n dX13_walksAll_40 rfl ?_
        refine g_M_way fX13_39 dX13_walksAll_41 ?_
        refine x_iconst dX13_walksAll_44 li_0 ?_
        refine x_iald dX13_walksAll_45 rfl rfl (Nat.le_of_ble_eq_true rfl) (by first | exact Nat.le_of_ble_eq_true rfl | assumption | omega) ?_
        rw [xu_s]
        refine x_iload_n dX13_walksAll_46 rfl ?_
        refine x_icN_ne 57 dX13_walksAll_47 (by decide) (by omega) (by omega) (fun h47 => ?_) (fun h47 => ?_)
        · refine x_iconst dX13_walksAll_57 li_1 ?_
          refine x_aload_n dX13_walksAll_58 rfl ?_
          refine g_M_way fX13_39 dX13_walksAll_59 ?_
          refine x_iconst dX13_walksAll_62 li_0 ?_
          refine x_iald dX13_walksAll_63 rfl rfl (Nat.le_of_ble_eq_true rfl) (by first | exact Nat.le_of_ble_eq_true rfl | assumption | omega) ?_
          rw [xu_s]
          refine x_ishl dX13_walksAll_64 ?_
          rw [sh1 _ (by omega)]
          refine x_istore_n dX13_walksAll_65 (by decide) rfl ?_
          refine x_iconst dX13_walksAll_66 li_1 ?_
          refine x_istore dX13_walksAll_67 (by decide) rfl ?_
          refine x_aload_n dX13_walksAll_69 rfl ?_
          refine g_M_way fX13_39 dX13_walksAll_70 ?_
          refine x_iconst dX13_walksAll_73 li_1 ?_
          refine x_iconst dX13_walksAll_74 li_m1 ?_
          refine x_iast dX13_walksAll_75 rfl rfl (Nat.le_of_ble_eq_true rfl) (by first | exact Nat.le_of_ble_eq_true rfl | assumption | omega) ?_
          have ew : wys V (N t 0) to = exr V to 5 [N t 0] (N t 0) (V 0 4 0 - 0) 0 := by rw [Nat.sub_zero]; exact ex_exr (w := []) h47
          have h65 := ex_65 hV hto hp0
          have hS : SS V (ON N t) (V 9 t 0) [] [N t 0] I (xu (xu I1 92 0 0 (nI (N t 0))) 92 0 1 (-1)) := SS.w ⟨w0, fw, fun i hi => by obtain rfl : i = 0 := (by have : i < 1 := hi; omega); rw [xu_s]; rfl⟩ (Nat.le_refl 1)
          refine x_ls ?_ (lp_srch (Wz := wys V (N t 0) to) hV hb hbn hW ht hB hN hp hto 5 [N t 0] (N t 0) rfl (Nat.le_refl 1) (by show 1 < V 0 4 0; omega) (fun x hx => by rw [List.mem_singleton.mp hx]; exact hp0) rfl hp0 (by simp) (V 0 4 0 + 1) 0 [] _ (by omega) (by omega) (Or.inl rfl) (by rw [List.nil_append, ← ew]; exact h65) hS xu_s (fun I2 hI2 => ?_))
          · exact ⟨rfl, rfl, rfl, by rw [if_pos rfl, show sbit [N t 0] = 2 ^ N t 0 from sbit_1 _]; rfl, rfl, trivial⟩
          · rw [List.nil_append, ← ew] at hI2
            refine x_iload dX13_walksAll_76 rfl ?_
            refine x_ifN_le 279 dX13_walksAll_78 (by decide) (show 0 < 2 ^ 31 by decide) (fun h78 => ?_) (fun h78 => absurd (show 0 < 0 from h78) (by decide))
            refine x_vret dX13_walksAll_279 rfl ?_
            exact ⟨rfl, _, rfl, hI2.1, hI2.2.1⟩
        · refine x_aload_n dX13_walksAll_50 rfl ?_
          refine x_iload_n dX13_walksAll_51 rfl ?_
          refine x_iconst dX13_walksAll_52 li_1 ?_
          have e1 : ∀ i, i < [N t 0].length → (xu I1 92 0 0 (nI (N t 0))) 92 0 i = nI ([N t 0].getD i 0) := fun i hi => by
            obtain rfl : i = 0 := by have : i < 1 := hi; omega
            rw [xu_s]; rfl
          refine x_cvv (m_ends (d := d) (W := []) (w := [N t 0]) hV hb hbn hW ht (fun w hw => absurd hw List.not_mem_nil) (by decide) (Nat.le_refl 1) (show 1 ≤ 6 by decide) (fun q hq => by rw [List.mem_singleton.mp hq]; exact hp0) (hB.mx fw.mx) (hN.mx fw.mx) (fun p hp4 => by rw [fw.1 89 (by decide) (by decide) (by decide)]; exact hp p hp4) e1 w0) kX13_453 dX13_walksAll_53 rfl (Nat.le_of_ble_eq_true rfl) rfl rfl (Nat.le_of_ble_eq_true rfl) (fun Mu hq => ?_)
          obtain ⟨I3, rfl, w3, f3⟩ := hq
          refine x_vret dX13_walksAll_56 rfl ?_
          refine ⟨rfl, _, rfl, ?_, fw.tr f3.fw⟩
          rw [show wys V (N t 0) to = [[N t 0]] from if_pos h47]
          exact w3
      · refine x_aload_n dX13_walksAll_12 rfl ?_
        refine g_M_bestSize fX13_45 dX13_walksAll_13 ?_
        refine x_iload_n dX13_walksAll_16 rfl ?_
        refine x_iconst dX13_walksAll_17 li_0 ?_
        refine x_iast dX13_walksAll_18 rfl rfl (Nat.le_of_ble_eq_true rfl) (by first | exact Nat.le_of_ble_eq_true rfl | assumption | omega) ?_
        refine x_iincN 1 dX13_walksAll_19 li_1 rfl (by decide) rfl ?_
        refine x_goto 7 dX13_walksAll_22 (by decide) ?_
        refine x_ls ?_ (ih (k + 1) _ (by omega) (by omega) (fun j hj => ?_) (fun s h1 => ?_))
        · exact ⟨rfl, rfl, rfl, rfl, trivial⟩
        · rw [xu_at]
          by_cases e0 : j = k
          · rw [if_pos e0]
          · rw [if_neg e0]; exact h1 j (by omega)
        · rw [← hs s h1]; funext x y; rw [xu_ns h1]
  refine x_start (by decide) (Nat.le_of_ble_eq_true rfl) ?_
  refine x_aload_n dX13_walksAll_0 rfl ?_
  refine x_iconst dX13_walksAll_1 li_0 ?_
  refine p_M_ways fX13_450 dX13_walksAll_2 ?_
  refine x_iconst dX13_walksAll_5 li_0 ?_
  refine x_istore_n dX13_walksAll_6 (by decide) rfl ?_
  refine x_ls ?_ (loop7 4 0 _ (by omega) (by omega) (fun j hj => absurd hj (Nat.not_lt_zero j)) (fun _ _ => rfl))
  exact ⟨rfl, rfl, rfl, rfl, trivial⟩
end M16
