section M6
variable {G : xG} {ad : Nat → Nat → Nat} {nb : Nat} {b r : Option Nat} {L : Nat → Nat → Nat → Int64} {V : sV} {I : Nat → Nat → Nat → Int32} {d : Nat}
theorem am_1 {c : Nat → Nat} : am c 1 = 0 := by show (if c (am c 0) < c 0 then 0 else am c 0) = 0; split <;> rfl
theorem clm_le {N : sN} {t H l : Nat} (hV : VW V) (hW : NW V N) (ht : t < V 0 7 0) : frl V (str V (ON N t) H 0) l (V 0 2 0) ≤ 594 := by
  have v2 := hV.2.2.1
  have := frl_le2 (V := V) (g := str V (ON N t) H 0) (l := l) (fun s hs => str_le ((hW t ht).2 s (by omega))) (V 0 2 0) (Nat.le_refl _)
  omega
set_option maxRecDepth 100000 in
set_option maxHeartbeats 600000 in
theorem lp_mcl4 (hV : VW V) {bi : Nat} (hb : b = some bi) (hbn : bi < nb) {N : sN} (hW : NW V N) {t H : Nat} (ht : t < V 0 7 0) (hH : H ≤ 99)  : ∀ (n : Nat) (k : Nat) (I1 : Nat → Nat → Nat → Int32), V 0 1 0 - k < n → MX (xu I 13 0 0 (nI 0)) I1 → YB V bi I1 → (∀ l, l < V 0 1 0 → I1 90 0 l = nI ((fun l => frl V (str V (ON N t) H 0) l (V 0 2 0)) l)) → k ≤ V 0 1 0 → 0 < V 0 1 0 → (∀ l, l < k → l ≠ am (fun l => frl V (str V (ON N t) H 0) l (V 0 2 0)) (V 0 1 0) → (fun l => frl V (str V (ON N t) H 0) l (V 0 2 0)) l ≠ (fun l => frl V (str V (ON N t) H 0) l (V 0 2 0)) (am (fun l => frl V (str V (ON N t) H 0) l (V 0 2 0)) (V 0 1 0))) → X G vX13_claim (d + 3) (0, 0) 161 [(0, some (.ref (ad 13 0))), (1, some (.int (nI (t)))), (2, some (.int (nI (H)))), (4, some (.int (nI (am (fun l => frl V (str V (ON N t) H 0) l (V 0 2 0)) (V 0 1 0))))), (5, some (.int (nI (k))))] [] (MM ad nb b r I1 L) (xT G (qM ad nb b r I L (a_claim V N (nI t) (nI H)))) := by
  have v0 := hV.1
  have v1 := hV.2.1
  have v2 := hV.2.2.1
  have v3 := hV.2.2.2.1
  have v4 := hV.2.2.2.2.1
  have v7 := hV.2.2.2.2.2.2.2.1
  have v9 := hV.2.2.2.2.2.2.2.2.2.1
  have v10 := hV.2.2.2.2.2.2.2.2.2.2.1
  have hcb : ∀ l, (fun l => frl V (str V (ON N t) H 0) l (V 0 2 0)) l ≤ 594 := fun l => clm_le hV hW ht
  intro n
  induction n with
  | zero => intro k I1 h0; omega
  | succ n ih =>
    intro k I1 hn hm hB hc hk hl hu
    have hba := am_lt (c := (fun l => frl V (str V (ON N t) H 0) l (V 0 2 0))) (V 0 1 0) hl
    have hcA := hcb (am (fun l => frl V (str V (ON N t) H 0) l (V 0 2 0)) (V 0 1 0))
    have hcK := hcb k
    refine x_iload dX13_claim_161 rfl ?_
    refine x_aload_n dX13_claim_163 rfl ?_
    refine g_M_border hb fX13_397 dX13_claim_164 ?_
    refine g_MB_lands fX13_227 dX13_claim_167 hbn ?_
    refine x_top (y12_1 hB) ?_
    refine x_icN_ge 210 dX13_claim_170 (by decide) (by omega) (by omega) (fun h170 => ?_) (fun h170 => ?_)
    · refine x_aload_n dX13_claim_210 rfl ?_
      refine x_aload_n dX13_claim_211 rfl ?_
      refine g_M_claims fX13_33 dX13_claim_212 ?_
      refine x_iload dX13_claim_215 rfl ?_
      refine x_iald dX13_claim_217 rfl rfl (Nat.le_of_ble_eq_true rfl) (by first | exact Nat.le_of_ble_eq_true rfl | assumption | omega) ?_
      refine x_top (hc _ (by first | assumption | omega)) ?_
      refine x_ifN_ne 226 dX13_claim_218 (by decide) (by omega) (fun h218 => ?_) (fun h218 => ?_)
      · refine x_iload dX13_claim_226 rfl ?_
        refine x_cvi (m_good) kX13_82 dX13_claim_228 rfl (Nat.le_of_ble_eq_true rfl) rfl rfl (Nat.le_of_ble_eq_true rfl) (fun ru Mu hq => ?_)
        obtain ⟨rfl, rfl⟩ := hq
        refine x_iret dX13_claim_231 rfl ?_
        refine qM_ok ?_ hm
        unfold a_claim
        rw [inr_nI (by omega) (by omega), decide_eq_true ht, wth_nI (by omega) (by omega) (by omega), decide_eq_true ⟨Nat.zero_le H, hH⟩, zN_nI (by omega), zN_nI (by omega)]
        simp only [if_true]
        obtain rfl : k = V 0 1 0 := by omega
        first
          | (rcases (clF_am (V := V) (g := str V (ON N t) H 0) (V 0 1 0)).2 with ⟨k1, k2⟩ | ⟨k1, k2⟩
             · exact absurd h218 (by have h3 : 0 < (fun l => frl V (str V (ON N t) H 0) l (V 0 2 0)) (am (fun l => frl V (str V (ON N t) H 0) l (V 0 2 0)) (V 0 1 0)) := k1.2.1; omega)
             · rw [show (clF V (str V (fun s => N t (3 + s)) H 0) (V 0 1 0)).2 = 0 from k2]; rfl)
          | (rcases (clF_am (V := V) (g := str V (ON N t) H 0) (V 0 1 0)).2 with ⟨k1, k2⟩ | ⟨k1, k2⟩
             · rw [show (clF V (str V (fun s => N t (3 + s)) H 0) (V 0 1 0)).2 = am (fun l => frl V (str V (ON N t) H 0) l (V 0 2 0)) (V 0 1 0) + 1 from k2, nO_pos (by omega), Nat.add_sub_cancel]
             · exact absurd ⟨hl, by show 0 < (fun l => frl V (str V (ON N t) H 0) l (V 0 2 0)) (am (fun l => frl V (str V (ON N t) H 0) l (V 0 2 0)) (V 0 1 0)); omega, hu⟩ k1)
      · refine x_bipush dX13_claim_221 lb_m2 ?_
        refine x_goto 228 dX13_claim_223 (by decide) ?_
        refine x_cvi (m_good) kX13_82 dX13_claim_228 rfl (Nat.le_of_ble_eq_true rfl) rfl rfl (Nat.le_of_ble_eq_true rfl) (fun ru Mu hq => ?_)
        obtain ⟨rfl, rfl⟩ := hq
        refine x_iret dX13_claim_231 rfl ?_
        refine qM_ok ?_ hm
        unfold a_claim
        rw [inr_nI (by omega) (by omega), decide_eq_true ht, wth_nI (by omega) (by omega) (by omega), decide_eq_true ⟨Nat.zero_le H, hH⟩, zN_nI (by omega), zN_nI (by omega)]
        simp only [if_true]
        obtain rfl : k = V 0 1 0 := by omega
        first
          | (rcases (clF_am (V := V) (g := str V (ON N t) H 0) (V 0 1 0)).2 with ⟨k1, k2⟩ | ⟨k1, k2⟩
             · exact absurd h218 (by have h3 : 0 < (fun l => frl V (str V (ON N t) H 0) l (V 0 2 0)) (am (fun l => frl V (str V (ON N t) H 0) l (V 0 2 0)) (V 0 1 0)) := k1.2.1; omega)
             · rw [show (clF V (str V (fun s => N t (3 + s)) H 0) (V 0 1 0)).2 = 0 from k2]; rfl)
          | (rcases (clF_am (V := V) (g := str V (ON N t) H 0) (V 0 1 0)).2 with ⟨k1, k2⟩ | ⟨k1, k2⟩
             · rw [show (clF V (str V (fun s => N t (3 + s)) H 0) (V 0 1 0)).2 = am (fun l => frl V (str V (ON N t) H 0) l (V 0 2 0)) (V 0 1 0) + 1 from k2, nO_pos (by omega), Nat.add_sub_cancel]
             · exact absurd ⟨hl, by show 0 < (fun l => frl V (str V (ON N t) H 0) l (V 0 2 0)) (am (fun l => frl V (str V (ON N t) H 0) l (V 0 2 0)) (V 0 1 0)); omega, hu⟩ k1)
    · refine x_iload dX13_claim_173 rfl ?_
      refine x_iload dX13_claim_175 rfl ?_
      refine x_icN_eq 204 dX13_claim_177 (by decide) (by omega) (by omega) (fun h177 => ?_) (fun h177 => ?_)
      · have hu2 : k ≠ am (fun l => frl V (str V (ON N t) H 0) l (V 0 2 0)) (V 0 1 0) → (fun l => frl V (str V (ON N t) H 0) l (V 0 2 0)) k ≠ (fun l => frl V (str V (ON N t) H 0) l (V 0 2 0)) (am (fun l => frl V (str V (ON N t) H 0) l (V 0 2 0)) (V 0 1 0)) := fun z => absurd h177 z
        refine x_iincN 1 dX13_claim_204 li_1 rfl (by decide) rfl ?_
        refine x_goto 161 dX13_claim_207 (by decide) ?_
        refine x_ls ?_ (ih (k + 1) I1 (by omega) hm hB hc (by omega) hl (fun l h1 h2 => ?_))
        · exact ⟨rfl, rfl, rfl, rfl, rfl, trivial⟩
        · rcases (show l = k ∨ l < k by omega) with y | y
          · subst y; exact hu2 h2
          · exact hu l y h2
      · refine x_aload_n dX13_claim_180 rfl ?_
        refine g_M_claims fX13_33 dX13_claim_181 ?_
        refine x_iload dX13_claim_184 rfl ?_
        refine x_iald dX13_claim_186 rfl rfl (Nat.le_of_ble_eq_true rfl) (by first | exact Nat.le_of_ble_eq_true rfl | assumption | omega) ?_
        refine x_top (hc _ (by first | assumption | omega)) ?_
        refine x_aload_n dX13_claim_187 rfl ?_
        refine g_M_claims fX13_33 dX13_claim_188 ?_
        refine x_iload dX13_claim_191 rfl ?_
        refine x_iald dX13_claim_193 rfl rfl (Nat.le_of_ble_eq_true rfl) (by first | exact Nat.le_of_ble_eq_true rfl | assumption | omega) ?_
        refine x_top (hc _ (by first | assumption | omega)) ?_
        refine x_icN_ne 204 dX13_claim_194 (by decide) (by omega) (by omega) (fun h194 => ?_) (fun h194 => ?_)
        · have hu2 : k ≠ am (fun l => frl V (str V (ON N t) H 0) l (V 0 2 0)) (V 0 1 0) → (fun l => frl V (str V (ON N t) H 0) l (V 0 2 0)) k ≠ (fun l => frl V (str V (ON N t) H 0) l (V 0 2 0)) (am (fun l => frl V (str V (ON N t) H 0) l (V 0 2 0)) (V 0 1 0)) := fun _ => h194
          refine x_iincN 1 dX13_claim_204 li_1 rfl (by decide) rfl ?_
          refine x_goto 161 dX13_claim_207 (by decide) ?_
          refine x_ls ?_ (ih (k + 1) I1 (by omega) hm hB hc (by omega) hl (fun l h1 h2 => ?_))
          · exact ⟨rfl, rfl, rfl, rfl, rfl, trivial⟩
          · rcases (show l = k ∨ l < k by omega) with y | y
            · subst y; exact hu2 h2
            · exact hu l y h2
        · refine x_aload_n dX13_claim_197 rfl ?_
          refine x_bipush dX13_claim_198 lb_m2 ?_
          refine x_cvi (m_good) kX13_82 dX13_claim_200 rfl (Nat.le_of_ble_eq_true rfl) rfl rfl (Nat.le_of_ble_eq_true rfl) (fun ru Mu hq => ?_)
          obtain ⟨rfl, rfl⟩ := hq
          refine x_iret dX13_claim_203 rfl ?_
          refine qM_ok ?_ hm
          unfold a_claim
          rw [inr_nI (by omega) (by omega), decide_eq_true ht, wth_nI (by omega) (by omega) (by omega), decide_eq_true ⟨Nat.zero_le H, hH⟩, zN_nI (by omega), zN_nI (by omega)]
          simp only [if_true]
          rcases (clF_am (V := V) (g := str V (ON N t) H 0) (V 0 1 0)).2 with ⟨k1, k2⟩ | ⟨k1, k2⟩
          · exact absurd h194 (k1.2.2 k h170 h177)
          · rw [show (clF V (str V (fun s => N t (3 + s)) H 0) (V 0 1 0)).2 = 0 from k2]; rfl
set_option maxRecDepth 100000 in
set_option maxHeartbeats 600000 in
theorem lp_mcl3 (hV : VW V) {bi : Nat} (hb : b = some bi) (hbn : bi < nb) {N : sN} (hW : NW V N) {t H : Nat} (ht : t < V 0 7 0) (hH : H ≤ 99)  : ∀ (n : Nat) (k : Nat) (I1 : Nat → Nat → Nat → Int32), V 0 1 0 - k < n → MX (xu I 13 0 0 (nI 0)) I1 → YB V bi I1 → (∀ l, l < V 0 1 0 → I1 90 0 l = nI ((fun l => frl V (str V (ON N t) H 0) l (V 0 2 0)) l)) → k ≤ V 0 1 0 → 1 ≤ k → X G vX13_claim (d + 3) (0, 0) 119 [(0, some (.ref (ad 13 0))), (1, some (.int (nI (t)))), (2, some (.int (nI (H)))), (4, some (.int (nI (am (fun l => frl V (str V (ON N t) H 0) l (V 0 2 0)) k)))), (5, some (.int (nI (k))))] [] (MM ad nb b r I1 L) (xT G (qM ad nb b r I L (a_claim V N (nI t) (nI H)))) := by
  have v0 := hV.1
  have v1 := hV.2.1
  have v2 := hV.2.2.1
  have v3 := hV.2.2.2.1
  have v4 := hV.2.2.2.2.1
  have v7 := hV.2.2.2.2.2.2.2.1
  have v9 := hV.2.2.2.2.2.2.2.2.2.1
  have v10 := hV.2.2.2.2.2.2.2.2.2.2.1
  have hcb : ∀ l, (fun l => frl V (str V (ON N t) H 0) l (V 0 2 0)) l ≤ 594 := fun l => clm_le hV hW ht
  intro n
  induction n with
  | zero => intro k I1 h0; omega
  | succ n ih =>
    intro k I1 hn hm hB hc hk hk1
    have hba := am_lt (c := (fun l => frl V (str V (ON N t) H 0) l (V 0 2 0))) k hk1
    have hcA := hcb (am (fun l => frl V (str V (ON N t) H 0) l (V 0 2 0)) k)
    have hcK := hcb k
    refine x_iload dX13_claim_119 rfl ?_
    refine x_aload_n dX13_claim_121 rfl ?_
    refine g_M_border hb fX13_397 dX13_claim_122 ?_
    refine g_MB_lands fX13_227 dX13_claim_125 hbn ?_
    refine x_top (y12_1 hB) ?_
    refine x_icN_ge 158 dX13_claim_128 (by decide) (by omega) (by omega) (fun h128 => ?_) (fun h128 => ?_)
    · refine x_iconst dX13_claim_158 li_0 ?_
      refine x_istore dX13_claim_159 (by decide) rfl ?_
      obtain rfl : k = V 0 1 0 := by omega
      refine x_ls ?_ (lp_mcl4 hV hb hbn hW ht hH (V 0 1 0 + 1) 0 I1 (by omega) hm hB hc (by omega) (by omega) (fun l h => absurd h (Nat.not_lt_zero l)))
      exact ⟨rfl, rfl, rfl, rfl, rfl, trivial⟩
    · refine x_aload_n dX13_claim_131 rfl ?_
      refine g_M_claims fX13_33 dX13_claim_132 ?_
      refine x_iload dX13_claim_135 rfl ?_
      refine x_iald dX13_claim_137 rfl rfl (Nat.le_of_ble_eq_true rfl) (by first | exact Nat.le_of_ble_eq_true rfl | assumption | omega) ?_
      refine x_top (hc _ (by first | assumption | omega)) ?_
      refine x_aload_n dX13_claim_138 rfl ?_
      refine g_M_claims fX13_33 dX13_claim_139 ?_
      refine x_iload dX13_claim_142 rfl ?_
      refine x_iald dX13_claim_144 rfl rfl (Nat.le_of_ble_eq_true rfl) (by first | exact Nat.le_of_ble_eq_true rfl | assumption | omega) ?_
      refine x_top (hc _ (by first | assumption | omega)) ?_
      refine x_icN_le 152 dX13_claim_145 (by decide) (by omega) (by omega) (fun h145 => ?_) (fun h145 => ?_)
      · have ea : some (Value.int (nI (am (fun l => frl V (str V (ON N t) H 0) l (V 0 2 0)) k))) = some (Value.int (nI (am (fun l => frl V (str V (ON N t) H 0) l (V 0 2 0)) (k + 1)))) := by rw [show am (fun l => frl V (str V (ON N t) H 0) l (V 0 2 0)) (k + 1) = am (fun l => frl V (str V (ON N t) H 0) l (V 0 2 0)) k from if_neg (by omega)]
        refine x_iincN 1 dX13_claim_152 li_1 rfl (by decide) rfl ?_
        refine x_goto 119 dX13_claim_155 (by decide) ?_
        refine x_ls ?_ (ih (k + 1) I1 (by omega) hm hB hc (by omega) (by omega))
        exact ⟨rfl, rfl, rfl, ea, rfl, trivial⟩
      · have ea : some (Value.int (nI k)) = some (Value.int (nI (am (fun l => frl V (str V (ON N t) H 0) l (V 0 2 0)) (k + 1)))) := by rw [show am (fun l => frl V (str V (ON N t) H 0) l (V 0 2 0)) (k + 1) = k from if_pos (by omega)]
        refine x_iload dX13_claim_148 rfl ?_
        refine x_istore dX13_claim_150 (by decide) rfl ?_
        refine x_iincN 1 dX13_claim_152 li_1 rfl (by decide) rfl ?_
        refine x_goto 119 dX13_claim_155 (by decide) ?_
        refine x_ls ?_ (ih (k + 1) I1 (by omega) hm hB hc (by omega) (by omega))
        exact ⟨rfl, rfl, rfl, ea, rfl, trivial⟩
set_option maxRecDepth 100000 in
set_option maxHeartbeats 600000 in
theorem lp_mcl2 (hV : VW V) {bi : Nat} (hb : b = some bi) (hbn : bi < nb) {N : sN} (hW : NW V N) {t H : Nat} (ht : t < V 0 7 0) (hH : H ≤ 99)  : ∀ (n : Nat) (k : Nat) (I1 : Nat → Nat → Nat → Int32), V 0 2 0 - k < n → MX (xu I 13 0 0 (nI 0)) I1 → YB V bi I1 → (∀ s, s < V 0 2 0 → I1 88 0 s = nI (xf V (ON N t) H s)) → (∀ l, l < 4 → I1 90 0 l = nI ((fun l => frl V (str V (ON N t) H 0) l k) l)) → k ≤ V 0 2 0 → 0 < V 0 1 0 → X G vX13_claim (d + 3) (0, 0) 53 [(0, some (.ref (ad 13 0))), (1, some (.int (nI (t)))), (2, some (.int (nI (H)))), (4, some (.int (nI (k))))] [] (MM ad nb b r I1 L) (xT G (qM ad nb b r I L (a_claim V N (nI t) (nI H)))) := by
  have v0 := hV.1
  have v1 := hV.2.1
  have v2 := hV.2.2.1
  have v3 := hV.2.2.2.1
  have v4 := hV.2.2.2.2.1
  have v7 := hV.2.2.2.2.2.2.2.1
  have v9 := hV.2.2.2.2.2.2.2.2.2.1
  have v10 := hV.2.2.2.2.2.2.2.2.2.2.1
  have hcb : ∀ l, (fun l => frl V (str V (ON N t) H 0) l (V 0 2 0)) l ≤ 594 := fun l => clm_le hV hW ht
  intro n
  induction n with
  | zero => intro k I1 h0; omega
  | succ n ih =>
    intro k I1 hn hm hB hx hc hk hl
    have hg : ∀ i, i < V 0 2 0 → xf V (ON N t) H i ≤ 198 := fun i hi => xf_le ((hW t ht).2 i (by omega))
    refine x_iload dX13_claim_53 rfl ?_
    refine x_aload_n dX13_claim_55 rfl ?_
    refine g_M_border hb fX13_397 dX13_claim_56 ?_
    refine g_MB_smells fX13_301 dX13_claim_59 hbn ?_
    refine x_top (y12_2 hB) ?_
    refine x_icN_ge 113 dX13_claim_62 (by decide) (by omega) (by omega) (fun h62 => ?_) (fun h62 => ?_)
    · refine x_iconst dX13_claim_113 li_0 ?_
      refine x_istore dX13_claim_114 (by decide) rfl ?_
      refine x_iconst dX13_claim_116 li_1 ?_
      refine x_istore dX13_claim_117 (by decide) rfl ?_
      obtain rfl : k = V 0 2 0 := by omega
      refine x_ls ?_ (lp_mcl3 hV hb hbn hW ht hH (V 0 1 0 + 1) 1 I1 (by omega) hm hB (fun l h => hc l (by omega)) (by omega) (by omega))
      exact ⟨rfl, rfl, rfl, congrArg (fun x => some (Value.int (nI x))) am_1.symm, rfl, trivial⟩
    · have hk2 : k < V 0 2 0 := h62
      have h3k := hV.2.2.2.2.2.2.2.2.2.2.2.2.2.1 k hk2
      refine x_aload_n dX13_claim_65 rfl ?_
      refine g_M_claims fX13_33 dX13_claim_66 ?_
      refine x_aload_n dX13_claim_69 rfl ?_
      refine g_M_border hb fX13_397 dX13_claim_70 ?_
      refine g_MB_from fX13_316 dX13_claim_73 hbn ?_
      refine x_iload dX13_claim_76 rfl ?_
      refine x_iald dX13_claim_78 rfl rfl hbn (by first | exact Nat.le_of_ble_eq_true rfl | assumption | omega) ?_
      refine x_top (y66 hB (by first | assumption | omega)) ?_
      refine x_dup2 dX13_claim_79 rfl rfl ?_
      refine x_iald dX13_claim_80 rfl rfl (Nat.le_of_ble_eq_true rfl) (by first | exact Nat.le_of_ble_eq_true rfl | assumption | omega) ?_
      refine x_top (hc _ (by omega)) ?_
      refine x_aload_n dX13_claim_81 rfl ?_
      refine g_M_border hb fX13_397 dX13_claim_82 ?_
      refine g_MB_kind fX13_313 dX13_claim_85 hbn ?_
      refine x_iload dX13_claim_88 rfl ?_
      refine x_iald dX13_claim_90 rfl rfl hbn (by first | exact Nat.le_of_ble_eq_true rfl | assumption | omega) ?_
      refine x_top (y65 hB (by first | assumption | omega)) ?_
      refine x_iconst dX13_claim_91 li_3 ?_
      refine x_icN_ne 99 dX13_claim_92 (by decide) (by omega) (by omega) (fun h92 => ?_) (fun h92 => ?_)
      · have ev : frl V (str V (ON N t) H 0) (V 3 k 0) k + unc V (fun s => xf V (ON N t) H s / 2) k = frl V (str V (ON N t) H 0) (V 3 k 0) (k + 1) := by show _ = frl V (str V (ON N t) H 0) (V 3 k 0) k + _; rw [if_pos ⟨rfl, h92⟩]; rfl
        refine x_aload_n dX13_claim_99 rfl ?_
        refine x_iload dX13_claim_100 rfl ?_
        refine x_cvi (m_coveredOf (d := d + 2) hV hb hbn hB hx hg hk2) kX13_408 dX13_claim_102 rfl (Nat.le_of_ble_eq_true rfl) rfl rfl (Nat.le_of_ble_eq_true rfl) (fun ru Mu hq => ?_)
        obtain ⟨rfl, rfl⟩ := hq
        refine x_iaddN dX13_claim_105 ?_
        refine x_iast dX13_claim_106 rfl rfl (Nat.le_of_ble_eq_true rfl) (by first | exact Nat.le_of_ble_eq_true rfl | assumption | omega) ?_
        refine x_iincN 1 dX13_claim_107 li_1 rfl (by decide) rfl ?_
        refine x_goto 53 dX13_claim_110 (by decide) ?_
        refine x_ls ?_ (ih (k + 1) _ (by omega) (hm.xu (by unfold msc; omega)) (hB.sm (fun q hq => by funext x y; rw [xu_ns (by omega)])) (fun s hs => by rw [xu_ns (by decide)]; exact hx s hs) (fun l hl4 => ?_) (by omega) hl)
        · exact ⟨rfl, rfl, rfl, rfl, trivial⟩
        · rw [xu_at]
          by_cases e0 : l = V 3 k 0
          · rw [if_pos e0, e0]; exact congrArg nI ev
          · rw [if_neg e0, hc l hl4]; show nI (frl V (str V (ON N t) H 0) l k) = nI (frl V (str V (ON N t) H 0) l k + _); rw [if_neg (fun z => e0 z.1.symm)]; rfl
      · have ev : frl V (str V (ON N t) H 0) (V 3 k 0) k + 0 = frl V (str V (ON N t) H 0) (V 3 k 0) (k + 1) := by show _ = frl V (str V (ON N t) H 0) (V 3 k 0) k + _; rw [if_neg (fun z => z.2 h92)]
        refine x_iconst dX13_claim_95 li_0 ?_
        refine x_goto 105 dX13_claim_96 (by decide) ?_
        refine x_iaddN dX13_claim_105 ?_
        refine x_iast dX13_claim_106 rfl rfl (Nat.le_of_ble_eq_true rfl) (by first | exact Nat.le_of_ble_eq_true rfl | assumption | omega) ?_
        refine x_iincN 1 dX13_claim_107 li_1 rfl (by decide) rfl ?_
        refine x_goto 53 dX13_claim_110 (by decide) ?_
        refine x_ls ?_ (ih (k + 1) _ (by omega) (hm.xu (by unfold msc; omega)) (hB.sm (fun q hq => by funext x y; rw [xu_ns (by omega)])) (fun s hs => by rw [xu_ns (by decide)]; exact hx s hs) (fun l hl4 => ?_) (by omega) hl)
        · exact ⟨rfl, rfl, rfl, rfl, trivial⟩
        · rw [xu_at]
          by_cases e0 : l = V 3 k 0
          · rw [if_pos e0, e0]; exact congrArg nI ev
          · rw [if_neg e0, hc l hl4]; show nI (frl V (str V (ON N t) H 0) l k) = nI (frl V (str V (ON N t) H 0) l k + _); rw [if_neg (fun z => e0 z.1.symm)]; rfl
set_option maxRecDepth 100000 in
set_option maxHeartbeats 600000 in
theorem lp_mcl1 (hV : VW V) {bi : Nat} (hb : b = some bi) (hbn : bi < nb) {N : sN} (hW : NW V N) {t H : Nat} (ht : t < V 0 7 0) (hH : H ≤ 99)  : ∀ (n : Nat) (k : Nat) (I1 : Nat → Nat → Nat → Int32), 4 - k < n → MX (xu I 13 0 0 (nI 0)) I1 → YB V bi I1 → (∀ s, s < V 0 2 0 → I1 88 0 s = nI (xf V (ON N t) H s)) → (∀ l, l < k → I1 90 0 l = nI 0) → k ≤ 4 → 0 < V 0 1 0 → X G vX13_claim (d + 3) (0, 0) 30 [(0, some (.ref (ad 13 0))), (1, some (.int (nI (t)))), (2, some (.int (nI (H)))), (4, some (.int (nI (k))))] [] (MM ad nb b r I1 L) (xT G (qM ad nb b r I L (a_claim V N (nI t) (nI H)))) := by
  have v0 := hV.1
  have v1 := hV.2.1
  have v2 := hV.2.2.1
  have v3 := hV.2.2.2.1
  have v4 := hV.2.2.2.2.1
  have v7 := hV.2.2.2.2.2.2.2.1
  have v9 := hV.2.2.2.2.2.2.2.2.2.1
  have v10 := hV.2.2.2.2.2.2.2.2.2.2.1
  intro n
  induction n with
  | zero => intro k I1 h0; omega
  | succ n ih =>
    intro k I1 hn hm hB hx hc hk hl
    refine x_iload dX13_claim_30 rfl ?_
    refine x_iconst dX13_claim_32 li_4 ?_
    refine x_icN_ge 50 dX13_claim_33 (by decide) (by omega) (by omega) (fun h33 => ?_) (fun h33 => ?_)
    · refine x_iconst dX13_claim_50 li_0 ?_
      refine x_istore dX13_claim_51 (by decide) rfl ?_
      refine x_ls ?_ (lp_mcl2 hV hb hbn hW ht hH (V 0 2 0 + 1) 0 I1 (by omega) hm hB hx (fun l h => hc l (by omega)) (by omega) hl)
      exact ⟨rfl, rfl, rfl, rfl, trivial⟩
    · refine x_aload_n dX13_claim_36 rfl ?_
      refine g_M_claims fX13_33 dX13_claim_37 ?_
      refine x_iload dX13_claim_40 rfl ?_
      refine x_iconst dX13_claim_42 li_0 ?_
      refine x_iast dX13_claim_43 rfl rfl (Nat.le_of_ble_eq_true rfl) (by first | exact Nat.le_of_ble_eq_true rfl | assumption | omega) ?_
      refine x_iincN 1 dX13_claim_44 li_1 rfl (by decide) rfl ?_
      refine x_goto 30 dX13_claim_47 (by decide) ?_
      refine x_ls ?_ (ih (k + 1) _ (by omega) (hm.xu (by unfold msc; omega)) (hB.sm (fun q hq => by funext x y; rw [xu_ns (by omega)])) (fun s hs => by rw [xu_ns (by decide)]; exact hx s hs) (fun l hl4 => ?_) (by omega) hl)
      · exact ⟨rfl, rfl, rfl, rfl, trivial⟩
      · rw [xu_at]
        by_cases e0 : l = k
        · rw [if_pos e0]
        · rw [if_neg e0]; exact hc l (by omega)

theorem bI_one {c : Bool} : bI c = nI (if c = true then 1 else 0) := by cases c <;> rfl

set_option maxRecDepth 100000 in
set_option maxHeartbeats 600000 in
theorem m_claim (hV : VW V) (hO : YO V nb b I) {N : sN} (hW : NW V N) (hN : YN V N I) {z1 z2 : Int32} : Mt G vX13_claim (d + 3) (0, 0) [.ref (ad 13 0), .int (z1), .int (z2)] (MM ad nb b r I L) (qM ad nb b r I L (a_claim V N z1 z2)) := by
  have v0 := hV.1
  have v1 := hV.2.1
  have v2 := hV.2.2.1
  have v3 := hV.2.2.2.1
  have v4 := hV.2.2.2.2.1
  have v7 := hV.2.2.2.2.2.2.2.1
  have v9 := hV.2.2.2.2.2.2.2.2.2.1
  have v10 := hV.2.2.2.2.2.2.2.2.2.2.1
  have hO := hO.sm (I' := (xu I 13 0 0 (nI 0))) (fun q hq => by funext x y; rw [xu_ns (by omega)])
  have hN := hN.sm (I' := (xu I 13 0 0 (nI 0))) (by funext x y; rw [xu_ns (by decide)])
  have hm := MX.rf (I := (xu I 13 0 0 (nI 0)))
  refine x_start (by decide) (Nat.le_of_ble_eq_true rfl) ?_
  refine x_aload_n dX13_claim_0 rfl ?_
  refine x_iconst dX13_claim_1 li_0 ?_
  refine p_M_thrown fX13_72 dX13_claim_2 ?_
  refine x_aload_n dX13_claim_5 rfl ?_
  refine x_aload_n dX13_claim_6 rfl ?_
  refine x_iload_n dX13_claim_7 rfl ?_
  refine x_cvi (m_isTraveller' hV hO) kX13_425 dX13_claim_8 rfl (Nat.le_of_ble_eq_true rfl) rfl rfl (Nat.le_of_ble_eq_true rfl) (fun ru Mu hq => ?_)
  obtain ⟨rfl, rfl⟩ := hq
  rw [bI_one]
  have hk0 : (if inr z1 (V 0 7 0) = true then 1 else 0) = 1 → ∃ t bi, z1 = nI t ∧ t < V 0 7 0 ∧ b = some bi ∧ bi < nb ∧ YB V bi (xu I 13 0 0 (nI 0)) := fun z => by
    have k1 : inr z1 (V 0 7 0) = true := by
      cases hq : inr z1 (V 0 7 0) with
      | true => rfl
      | false => rw [hq] at z; exact absurd z (by decide)
    obtain ⟨t, ht, et⟩ := inr_of k1 (by omega)
    obtain ⟨bi, hb, hbn, hB⟩ := hO.some (show V 0 7 0 ≠ 0 by omega) (by decide)
    exact ⟨t, bi, et, ht, hb, hbn, hB⟩
  refine x_iload_n dX13_claim_11 rfl ?_
  refine x_iload_n dX13_claim_12 rfl ?_
  refine x_cvi (m_asks (d := d) hV hW hN (c := if inr z1 (V 0 7 0) = true then 1 else 0) (by split <;> omega) hk0) kX13_436 dX13_claim_13 rfl (Nat.le_of_ble_eq_true rfl) rfl rfl (Nat.le_of_ble_eq_true rfl) (fun ru Mu hq => ?_)
  obtain ⟨w, I1, rfl, rfl, hm, hw, hx0⟩ := hq
  have hwb : w ≤ 2 := by rw [hw]; repeat (first | omega | split)
  refine x_istore_n dX13_claim_16 (by decide) rfl ?_
  refine x_iload_n dX13_claim_17 rfl ?_
  refine x_ifN_le 27 dX13_claim_18 (by decide) (by omega) (fun h18 => ?_) (fun h18 => ?_)
  · have hw0 : w = 0 := by omega
    have k1 : inr z1 (V 0 7 0) = true := by
      cases hq : inr z1 (V 0 7 0) with
      | true => rfl
      | false => rw [hq] at hw; simp at hw; omega
    obtain ⟨t, ht, rfl⟩ := inr_of k1 (by omega)
    obtain ⟨bi, hb, hbn, hB⟩ := (hO.mx hm).some (show V 0 7 0 ≠ 0 by omega) (by decide)
    obtain ⟨hx, hp, qw⟩ := hx0 hw0
    obtain ⟨H, _, hH, rfl⟩ := wth_of qw (by omega) (by omega)
    rw [zN_nI (by omega), zN_nI (by omega)] at hx
    have hl := (hV.2.2.2.2.2.2.2.2.2.2.2.2.2.2.2.2.2.2.1 t ht).2.1
    refine x_iconst dX13_claim_27 li_0 ?_
    refine x_istore dX13_claim_28 (by decide) rfl ?_
    refine x_ls ?_ (lp_mcl1 hV hb hbn hW ht hH 5 0 I1 (by omega) hm hB hx (fun l h => absurd h (Nat.not_lt_zero l)) (by omega) (by omega))
    exact ⟨rfl, rfl, rfl, rfl, trivial⟩
  · refine x_aload_n dX13_claim_21 rfl ?_
    refine x_iload_n dX13_claim_22 rfl ?_
    refine x_cvi (m_refused) kX13_78 dX13_claim_23 rfl (Nat.le_of_ble_eq_true rfl) rfl rfl (Nat.le_of_ble_eq_true rfl) (fun ru Mu hq => ?_)
    obtain ⟨rfl, rfl⟩ := hq
    refine x_iret dX13_claim_26 rfl ?_
    refine qM_ok ?_ hm
    unfold a_claim
    cases hq : inr z1 (V 0 7 0) with
    | true =>
      rw [hq] at hw
      simp at hw
      by_cases qh : wth z2 0 99 = true
      · rw [if_pos qh] at hw; omega
      · rw [if_neg qh] at hw; rw [if_pos rfl, if_neg qh, hw]
    | false => rw [hq] at hw; simp at hw; rw [if_neg (by decide), hw]
end M6
