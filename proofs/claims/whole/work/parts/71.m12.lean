section M12
variable {G : xG} {ad : Nat → Nat → Nat} {nb : Nat} {b r : Option Nat} {L : Nat → Nat → Nat → Int64} {V : sV} {I : Nat → Nat → Nat → Int32} {d : Nat}
theorem bt {x : BitVec 32} {s : Nat} (hs : s ≤ 24) : ((x.sshiftRight s).setWidth 8).signExtend 32 &&& 255#32 = (x >>> s) &&& 255#32 := by
  apply BitVec.eq_of_getLsbD_eq
  intro i hi
  rw [BitVec.getLsbD_and, BitVec.getLsbD_and]
  by_cases h : i < 8
  · congr 1
    rw [BitVec.getLsbD_signExtend, BitVec.getLsbD_ushiftRight, if_pos h, BitVec.getLsbD_setWidth, BitVec.getLsbD_sshiftRight, if_pos (by omega)]
    simp [h, hi]
  · have : (255#32).getLsbD i = false := by
      have e : (255#32) = (BitVec.allOnes 8).setWidth 32 := by decide
      rw [e, BitVec.getLsbD_setWidth, BitVec.getLsbD_allOnes]
      simp; omega
    rw [this, Bool.and_false, Bool.and_false]
theorem btm {z : Int32} {s : Nat} (hs : s ≤ 24) : ((z >>> (nI s &&& 31)).toInt8.toInt32) &&& nI 255 = (z.toUInt32 >>> ((nI s).toUInt32 &&& Int32.toUInt32 31)).toInt32 &&& nI 255 := by
  apply Int32.toBitVec_inj.mp
  rw [Int32.toBitVec_and, Int32.toBitVec_and]
  have e1 : ((z >>> (nI s &&& 31)).toInt8.toInt32).toBitVec = ((z.toBitVec.sshiftRight s).setWidth 8).signExtend 32 := by
    have : ∀ s, s ≤ 24 → ((nI s &&& 31).toBitVec.smod 32).toNat = s := by decide
    rw [Int8.toBitVec_toInt32, Int32.toBitVec_toInt8, Int32.toBitVec_shiftRight]
    rw [BitVec.sshiftRight', this s hs, BitVec.signExtend_eq_setWidth_of_le (v := 8) (z.toBitVec.sshiftRight s) (by omega)]
  have e2 : (z.toUInt32 >>> ((nI s).toUInt32 &&& Int32.toUInt32 31)).toInt32.toBitVec = z.toBitVec >>> s := by
    have h2 : ∀ s, s ≤ 24 → (((nI s).toUInt32 &&& Int32.toUInt32 31).toBitVec % 32).toNat = s := by decide
    show (z.toUInt32 >>> ((nI s).toUInt32 &&& Int32.toUInt32 31)).toBitVec = _
    rw [UInt32.toBitVec_shiftRight]
    show z.toBitVec >>> (((nI s).toUInt32 &&& Int32.toUInt32 31).toBitVec % 32).toNat = _
    rw [h2 s hs]
  rw [e1, e2]
  exact bt hs
theorem btv {z : Int32} {j : Nat} : vp_nar .byte ((z >>> (nI (24 - 8 * j) &&& 31)).toInt8.toInt32) &&& nI 255 = nI (byN z j) := by
  rw [vp_nar_byte, Int8.toInt8_toInt32, byN_nI]
  exact btm (by omega)
/-- the k-th byte of five words -/
theorem fed_at {T : Nat → Nat} {n k : Nat} {a b c d e : Int32} (hk : k < 20) : fed T n a b c d e (n + k) = byN (if k < 4 then a else if k < 8 then b else if k < 12 then c else if k < 16 then d else e) (k % 4) := by
  unfold fed lyT
  by_cases h4 : k < 4
  · rw [if_neg (by omega), if_neg (by omega), if_neg (by omega), if_neg (by omega), if_pos (by omega), if_pos h4]; congr 1; omega
  · by_cases h8 : k < 8
    · rw [if_neg (by omega), if_neg (by omega), if_neg (by omega), if_pos (by omega), if_neg h4, if_pos h8]; congr 1; omega
    · by_cases h12 : k < 12
      · rw [if_neg (by omega), if_neg (by omega), if_pos (by omega), if_neg h4, if_neg h8, if_pos h12]; congr 1; omega
      · by_cases h16 : k < 16
        · rw [if_neg (by omega), if_pos (by omega), if_neg h4, if_neg h8, if_neg h12, if_pos h16]; congr 1; omega
        · rw [if_pos (by omega), if_neg h4, if_neg h8, if_neg h12, if_neg h16]; congr 1; omega
theorem fed_lo {T : Nat → Nat} {n i : Nat} {a b c d e : Int32} (hi : i < n) : fed T n a b c d e i = T i := by
  unfold fed lyT
  rw [if_neg (by omega), if_neg (by omega), if_neg (by omega), if_neg (by omega), if_neg (by omega)]
def FZ (I I' : Nat → Nat → Nat → Int32) : Prop := (∀ s, s ≠ 84 → s ≠ 13 → I' s = I s) ∧ ∀ k, k ≠ 6 → I' 13 0 k = I 13 0 k

set_option maxRecDepth 100000 in
set_option maxHeartbeats 600000 in
theorem m_feed {T : Nat → Nat} {tn : Nat} (hT : YT T tn I) {z1 z2 z3 z4 z5 : Int32} : Mt G vX13_feed (d) (0, 0) [.ref (ad 13 0), .int (z1), .int (z2), .int (z3), .int (z4), .int (z5)] (MM ad nb b r I L) (qI (fun rr M' => if tn + 20 ≤ 1100 then rr = nI (tn + 20) ∧ ∃ I', M' = MM ad nb b r I' L ∧ YT (fed T tn z1 z2 z3 z4 z5) (tn + 20) I' ∧ FZ (xu I 13 0 0 (nI 0)) I' else rr = -1 ∧ M' = MM ad nb b r (xu I 13 0 0 (nI 0)) L)) := by
  have hn1 := hT.2.1
  have loop23 : ∀ (n : Nat) (k : Nat) (I1 : Nat → Nat → Nat → Int32), 20 - k < n → tn + 20 ≤ 1100 → k ≤ 20 → I1 13 0 6 = nI (tn + k) → (∀ i, i < tn + k → I1 84 0 i &&& nI 255 = nI (fed T tn z1 z2 z3 z4 z5 i)) → FZ (xu I 13 0 0 (nI 0)) I1 → X G vX13_feed (d) (0, 0) 23 [(0, some (.ref (ad 13 0))), (1, some (.int (z1))), (2, some (.int (z2))), (3, some (.int (z3))), (4, some (.int (z4))), (5, some (.int (z5))), (6, some (.int (nI (k))))] [] (MM ad nb b r I1 L) (xT G (qI (fun rr M' => if tn + 20 ≤ 1100 then rr = nI (tn + 20) ∧ ∃ I', M' = MM ad nb b r I' L ∧ YT (fed T tn z1 z2 z3 z4 z5) (tn + 20) I' ∧ FZ (xu I 13 0 0 (nI 0)) I' else rr = -1 ∧ M' = MM ad nb b r (xu I 13 0 0 (nI 0)) L))) := by
    intro n
    induction n with
    | zero => intro k I1 h0; omega
    | succ n ih =>
      intro k I1 hn hn20 hk h6 h1 hz
      refine x_iload dX13_feed_23 rfl ?_
      refine x_bipush dX13_feed_25 lb_20 ?_
      refine x_icN_ge 117 dX13_feed_27 (by decide) (by omega) (by omega) (fun h27 => ?_) (fun h27 => ?_)
      · refine x_aload_n dX13_feed_117 rfl ?_
        refine g_M_taped fX13_390 dX13_feed_118 ?_
        obtain rfl : k = 20 := by omega
        rw [h6]
        refine x_iret dX13_feed_121 rfl ?_
        refine ⟨_, rfl, ?_⟩
        dsimp only
        rw [if_pos hn20]
        exact ⟨rfl, _, rfl, ⟨h6, hn20, h1⟩, hz⟩
      · refine x_iload dX13_feed_30 rfl ?_
        refine x_iconst dX13_feed_32 li_4 ?_
        refine x_icN_ge 40 dX13_feed_33 (by decide) (by omega) (by omega) (fun h33 => ?_) (fun h33 => ?_)
        · refine x_iload dX13_feed_40 rfl ?_
          refine x_bipush dX13_feed_42 lb_8 ?_
          refine x_icN_ge 51 dX13_feed_44 (by decide) (by omega) (by omega) (fun h44 => ?_) (fun h44 => ?_)
          · refine x_iload dX13_feed_51 rfl ?_
            refine x_bipush dX13_feed_53 lb_12 ?_
            refine x_icN_ge 62 dX13_feed_55 (by decide) (by omega) (by omega) (fun h55 => ?_) (fun h55 => ?_)
            · refine x_iload dX13_feed_62 rfl ?_
              refine x_bipush dX13_feed_64 lb_16 ?_
              refine x_icN_ge 74 dX13_feed_66 (by decide) (by omega) (by omega) (fun h66 => ?_) (fun h66 => ?_)
              · have ev : (if k < 4 then z1 else if k < 8 then z2 else if k < 12 then z3 else if k < 16 then z4 else z5) = z5 := by rw [if_neg (by omega), if_neg (by omega), if_neg (by omega), if_neg (by omega)]
                refine x_iload dX13_feed_74 rfl ?_
                refine x_istore dX13_feed_76 (by decide) rfl ?_
                refine x_aload_n dX13_feed_78 rfl ?_
                refine g_M_tape fX13_13 dX13_feed_79 ?_
                refine x_aload_n dX13_feed_82 rfl ?_
                refine g_M_taped fX13_390 dX13_feed_83 ?_
                rw [h6]
                refine x_iload dX13_feed_86 rfl ?_
                refine x_bipush dX13_feed_88 lb_24 ?_
                refine x_bipush dX13_feed_90 lb_8 ?_
                refine x_iload dX13_feed_92 rfl ?_
                refine x_iconst dX13_feed_94 li_4 ?_
                refine x_iremN dX13_feed_95 (by omega) (by omega) (by omega) ?_
                refine x_imulN dX13_feed_96 ?_
                refine x_isubN dX13_feed_97 (by omega) ?_
                refine x_ishr dX13_feed_98 ?_
                refine x_i2b dX13_feed_99 rfl ?_
                refine x_bast dX13_feed_100 rfl rfl (Nat.le_of_ble_eq_true rfl) (by first | exact Nat.le_of_ble_eq_true rfl | assumption | omega) ?_
                refine x_aload_n dX13_feed_101 rfl ?_
                refine x_dup dX13_feed_102 rfl ?_
                refine g_M_taped fX13_390 dX13_feed_103 ?_
                rw [xu_ns (by decide), h6]
                refine x_iconst dX13_feed_106 li_1 ?_
                refine x_iaddN dX13_feed_107 ?_
                refine p_M_taped fX13_390 dX13_feed_108 ?_
                refine x_iincN 1 dX13_feed_111 li_1 rfl (by decide) rfl ?_
                refine x_goto 23 dX13_feed_114 (by decide) ?_
                refine x_ls ?_ (ih (k + 1) _ (by omega) hn20 (by omega) xu_s (fun i hi => ?_) ⟨fun s a c => ?_, fun q hq => ?_⟩)
                · exact ⟨rfl, rfl, rfl, rfl, rfl, rfl, rfl, trivial⟩
                · rw [xu_ns (by decide), xu_at]
                  by_cases e0 : i = tn + k
                  · rw [if_pos e0, e0, btv, fed_at (by omega), ev]
                  · rw [if_neg e0]; exact h1 i (by omega)
                · rw [← hz.1 s a c]; funext x y; rw [xu_ns c, xu_ns a]
                · rw [xu_nk hq, xu_ns (by decide)]; exact hz.2 q hq
              · have ev : (if k < 4 then z1 else if k < 8 then z2 else if k < 12 then z3 else if k < 16 then z4 else z5) = z4 := by rw [if_neg (by omega), if_neg (by omega), if_neg (by omega), if_pos (by omega)]
                refine x_iload dX13_feed_69 rfl ?_
                refine x_goto 76 dX13_feed_71 (by decide) ?_
                refine x_istore dX13_feed_76 (by decide) rfl ?_
                refine x_aload_n dX13_feed_78 rfl ?_
                refine g_M_tape fX13_13 dX13_feed_79 ?_
                refine x_aload_n dX13_feed_82 rfl ?_
                refine g_M_taped fX13_390 dX13_feed_83 ?_
                rw [h6]
                refine x_iload dX13_feed_86 rfl ?_
                refine x_bipush dX13_feed_88 lb_24 ?_
                refine x_bipush dX13_feed_90 lb_8 ?_
                refine x_iload dX13_feed_92 rfl ?_
                refine x_iconst dX13_feed_94 li_4 ?_
                refine x_iremN dX13_feed_95 (by omega) (by omega) (by omega) ?_
                refine x_imulN dX13_feed_96 ?_
                refine x_isubN dX13_feed_97 (by omega) ?_
                refine x_ishr dX13_feed_98 ?_
                refine x_i2b dX13_feed_99 rfl ?_
                refine x_bast dX13_feed_100 rfl rfl (Nat.le_of_ble_eq_true rfl) (by first | exact Nat.le_of_ble_eq_true rfl | assumption | omega) ?_
                refine x_aload_n dX13_feed_101 rfl ?_
                refine x_dup dX13_feed_102 rfl ?_
                refine g_M_taped fX13_390 dX13_feed_103 ?_
                rw [xu_ns (by decide), h6]
                refine x_iconst dX13_feed_106 li_1 ?_
                refine x_iaddN dX13_feed_107 ?_
                refine p_M_taped fX13_390 dX13_feed_108 ?_
                refine x_iincN 1 dX13_feed_111 li_1 rfl (by decide) rfl ?_
                refine x_goto 23 dX13_feed_114 (by decide) ?_
                refine x_ls ?_ (ih (k + 1) _ (by omega) hn20 (by omega) xu_s (fun i hi => ?_) ⟨fun s a c => ?_, fun q hq => ?_⟩)
                · exact ⟨rfl, rfl, rfl, rfl, rfl, rfl, rfl, trivial⟩
                · rw [xu_ns (by decide), xu_at]
                  by_cases e0 : i = tn + k
                  · rw [if_pos e0, e0, btv, fed_at (by omega), ev]
                  · rw [if_neg e0]; exact h1 i (by omega)
                · rw [← hz.1 s a c]; funext x y; rw [xu_ns c, xu_ns a]
                · rw [xu_nk hq, xu_ns (by decide)]; exact hz.2 q hq
            · have ev : (if k < 4 then z1 else if k < 8 then z2 else if k < 12 then z3 else if k < 16 then z4 else z5) = z3 := by rw [if_neg (by omega), if_neg (by omega), if_pos (by omega)]
              refine x_iload_n dX13_feed_58 rfl ?_
              refine x_goto 76 dX13_feed_59 (by decide) ?_
              refine x_istore dX13_feed_76 (by decide) rfl ?_
              refine x_aload_n dX13_feed_78 rfl ?_
              refine g_M_tape fX13_13 dX13_feed_79 ?_
              refine x_aload_n dX13_feed_82 rfl ?_
              refine g_M_taped fX13_390 dX13_feed_83 ?_
              rw [h6]
              refine x_iload dX13_feed_86 rfl ?_
              refine x_bipush dX13_feed_88 lb_24 ?_
              refine x_bipush dX13_feed_90 lb_8 ?_
              refine x_iload dX13_feed_92 rfl ?_
              refine x_iconst dX13_feed_94 li_4 ?_
              refine x_iremN dX13_feed_95 (by omega) (by omega) (by omega) ?_
              refine x_imulN dX13_feed_96 ?_
              refine x_isubN dX13_feed_97 (by omega) ?_
              refine x_ishr dX13_feed_98 ?_
              refine x_i2b dX13_feed_99 rfl ?_
              refine x_bast dX13_feed_100 rfl rfl (Nat.le_of_ble_eq_true rfl) (by first | exact Nat.le_of_ble_eq_true rfl | assumption | omega) ?_
              refine x_aload_n dX13_feed_101 rfl ?_
              refine x_dup dX13_feed_102 rfl ?_
              refine g_M_taped fX13_390 dX13_feed_103 ?_
              rw [xu_ns (by decide), h6]
              refine x_iconst dX13_feed_106 li_1 ?_
              refine x_iaddN dX13_feed_107 ?_
              refine p_M_taped fX13_390 dX13_feed_108 ?_
              refine x_iincN 1 dX13_feed_111 li_1 rfl (by decide) rfl ?_
              refine x_goto 23 dX13_feed_114 (by decide) ?_
              refine x_ls ?_ (ih (k + 1) _ (by omega) hn20 (by omega) xu_s (fun i hi => ?_) ⟨fun s a c => ?_, fun q hq => ?_⟩)
              · exact ⟨rfl, rfl, rfl, rfl, rfl, rfl, rfl, trivial⟩
              · rw [xu_ns (by decide), xu_at]
                by_cases e0 : i = tn + k
                · rw [if_pos e0, e0, btv, fed_at (by omega), ev]
                · rw [if_neg e0]; exact h1 i (by omega)
              · rw [← hz.1 s a c]; funext x y; rw [xu_ns c, xu_ns a]
              · rw [xu_nk hq, xu_ns (by decide)]; exact hz.2 q hq
          · have ev : (if k < 4 then z1 else if k < 8 then z2 else if k < 12 then z3 else if k < 16 then z4 else z5) = z2 := by rw [if_neg (by omega), if_pos (by omega)]
            refine x_iload_n dX13_feed_47 rfl ?_
            refine x_goto 76 dX13_feed_48 (by decide) ?_
            refine x_istore dX13_feed_76 (by decide) rfl ?_
            refine x_aload_n dX13_feed_78 rfl ?_
            refine g_M_tape fX13_13 dX13_feed_79 ?_
            refine x_aload_n dX13_feed_82 rfl ?_
            refine g_M_taped fX13_390 dX13_feed_83 ?_
            rw [h6]
            refine x_iload dX13_feed_86 rfl ?_
            refine x_bipush dX13_feed_88 lb_24 ?_
            refine x_bipush dX13_feed_90 lb_8 ?_
            refine x_iload dX13_feed_92 rfl ?_
            refine x_iconst dX13_feed_94 li_4 ?_
            refine x_iremN dX13_feed_95 (by omega) (by omega) (by omega) ?_
            refine x_imulN dX13_feed_96 ?_
            refine x_isubN dX13_feed_97 (by omega) ?_
            refine x_ishr dX13_feed_98 ?_
            refine x_i2b dX13_feed_99 rfl ?_
            refine x_bast dX13_feed_100 rfl rfl (Nat.le_of_ble_eq_true rfl) (by first | exact Nat.le_of_ble_eq_true rfl | assumption | omega) ?_
            refine x_aload_n dX13_feed_101 rfl ?_
            refine x_dup dX13_feed_102 rfl ?_
            refine g_M_taped fX13_390 dX13_feed_103 ?_
            rw [xu_ns (by decide), h6]
            refine x_iconst dX13_feed_106 li_1 ?_
            refine x_iaddN dX13_feed_107 ?_
            refine p_M_taped fX13_390 dX13_feed_108 ?_
            refine x_iincN 1 dX13_feed_111 li_1 rfl (by decide) rfl ?_
            refine x_goto 23 dX13_feed_114 (by decide) ?_
            refine x_ls ?_ (ih (k + 1) _ (by omega) hn20 (by omega) xu_s (fun i hi => ?_) ⟨fun s a c => ?_, fun q hq => ?_⟩)
            · exact ⟨rfl, rfl, rfl, rfl, rfl, rfl, rfl, trivial⟩
            · rw [xu_ns (by decide), xu_at]
              by_cases e0 : i = tn + k
              · rw [if_pos e0, e0, btv, fed_at (by omega), ev]
              · rw [if_neg e0]; exact h1 i (by omega)
            · rw [← hz.1 s a c]; funext x y; rw [xu_ns c, xu_ns a]
            · rw [xu_nk hq, xu_ns (by decide)]; exact hz.2 q hq
        · have ev : (if k < 4 then z1 else if k < 8 then z2 else if k < 12 then z3 else if k < 16 then z4 else z5) = z1 := by rw [if_pos (by omega)]
          refine x_iload_n dX13_feed_36 rfl ?_
          refine x_goto 76 dX13_feed_37 (by decide) ?_
          refine x_istore dX13_feed_76 (by decide) rfl ?_
          refine x_aload_n dX13_feed_78 rfl ?_
          refine g_M_tape fX13_13 dX13_feed_79 ?_
          refine x_aload_n dX13_feed_82 rfl ?_
          refine g_M_taped fX13_390 dX13_feed_83 ?_
          rw [h6]
          refine x_iload dX13_feed_86 rfl ?_
          refine x_bipush dX13_feed_88 lb_24 ?_
          refine x_bipush dX13_feed_90 lb_8 ?_
          refine x_iload dX13_feed_92 rfl ?_
          refine x_iconst dX13_feed_94 li_4 ?_
          refine x_iremN dX13_feed_95 (by omega) (by omega) (by omega) ?_
          refine x_imulN dX13_feed_96 ?_
          refine x_isubN dX13_feed_97 (by omega) ?_
          refine x_ishr dX13_feed_98 ?_
          refine x_i2b dX13_feed_99 rfl ?_
          refine x_bast dX13_feed_100 rfl rfl (Nat.le_of_ble_eq_true rfl) (by first | exact Nat.le_of_ble_eq_true rfl | assumption | omega) ?_
          refine x_aload_n dX13_feed_101 rfl ?_
          refine x_dup dX13_feed_102 rfl ?_
          refine g_M_taped fX13_390 dX13_feed_103 ?_
          rw [xu_ns (by decide), h6]
          refine x_iconst dX13_feed_106 li_1 ?_
          refine x_iaddN dX13_feed_107 ?_
          refine p_M_taped fX13_390 dX13_feed_108 ?_
          refine x_iincN 1 dX13_feed_111 li_1 rfl (by decide) rfl ?_
          refine x_goto 23 dX13_feed_114 (by decide) ?_
          refine x_ls ?_ (ih (k + 1) _ (by omega) hn20 (by omega) xu_s (fun i hi => ?_) ⟨fun s a c => ?_, fun q hq => ?_⟩)
          · exact ⟨rfl, rfl, rfl, rfl, rfl, rfl, rfl, trivial⟩
          · rw [xu_ns (by decide), xu_at]
            by_cases e0 : i = tn + k
            · rw [if_pos e0, e0, btv, fed_at (by omega), ev]
            · rw [if_neg e0]; exact h1 i (by omega)
          · rw [← hz.1 s a c]; funext x y; rw [xu_ns c, xu_ns a]
          · rw [xu_nk hq, xu_ns (by decide)]; exact hz.2 q hq
  refine x_start (by decide) (Nat.le_of_ble_eq_true rfl) ?_
  refine x_aload_n dX13_feed_0 rfl ?_
  refine x_iconst dX13_feed_1 li_0 ?_
  refine p_M_thrown fX13_72 dX13_feed_2 ?_
  refine x_aload_n dX13_feed_5 rfl ?_
  refine g_M_taped fX13_390 dX13_feed_6 ?_
  rw [xu_nk (by decide), hT.1]
  refine x_bipush dX13_feed_9 lb_20 ?_
  refine x_iaddN dX13_feed_11 ?_
  refine x_sipush dX13_feed_12 lS_1100 ?_
  refine x_icN_le 20 dX13_feed_15 (by decide) (by omega) (by omega) (fun h15 => ?_) (fun h15 => ?_)
  · refine x_iconst dX13_feed_20 li_0 ?_
    refine x_istore dX13_feed_21 (by decide) rfl ?_
    refine x_ls ?_ (loop23 21 0 _ (by omega) (by omega) (by omega) (by rw [xu_nk (by decide)]; exact hT.1) (fun i hi => ?_) ⟨fun _ _ _ => rfl, fun _ _ => rfl⟩)
    · exact ⟨rfl, rfl, rfl, rfl, rfl, rfl, rfl, trivial⟩
    · rw [xu_ns (by decide), hT.2.2 i (by omega), fed_lo (by omega)]
  · refine x_iconst dX13_feed_18 li_m1 ?_
    refine x_iret dX13_feed_19 rfl ?_
    refine ⟨_, rfl, ?_⟩
    dsimp only
    rw [if_neg (by omega)]
    exact ⟨rfl, rfl⟩

/-- LED: the first of whom so many before him have to pay; and one more; 0: none -/
def ldr (P : Nat → Bool) (z : Int32) : Nat → Nat → Nat → Nat
  | 0, _, _ => 0
  | f + 1, t, n => if P t = true then (if nI n = z then t + 1 else ldr P z f (t + 1) (n + 1)) else ldr P z f (t + 1) n
theorem ldr_0 {P : Nat → Bool} {z : Int32} {f t n : Nat} (h : f = 0) : ldr P z f t n = 0 := by subst h; rfl
theorem ldr_s {P : Nat → Bool} {z : Int32} {f t n : Nat} (h : 0 < f) : ldr P z f t n = if P t = true then (if nI n = z then t + 1 else ldr P z (f - 1) (t + 1) (n + 1)) else ldr P z (f - 1) (t + 1) n := by
  obtain ⟨g, rfl⟩ : ∃ g, f = g + 1 := ⟨f - 1, by omega⟩
  rfl
def lds (V : sV) (N : sN) (z : Int32) : Nat := ldr (fun t => decide (0 < dbh V N t (N t 0) 0)) z (V 0 7 0) 0 0
def qLd (V : sV) (N : sN) (ad : Nat → Nat → Nat) (nb : Nat) (b r : Option Nat) (I : Nat → Nat → Nat → Int32) (L : Nat → Nat → Nat → Int64) (z : Int32) : Option Value → xM → Prop := qI (fun rr M' => ∃ I1, MX (xu I 13 0 0 (nI 0)) I1 ∧ if lds V N z = 0 then M' = MM ad nb b r (xu I1 13 0 0 (nI 1)) L else rr = nI (lds V N z - 1) ∧ M' = MM ad nb b r I1 L)

set_option maxRecDepth 100000 in
set_option maxHeartbeats 600000 in
theorem m_led0 (hn : b = none) (hz : ∀ k, k < 12 → V 0 k 0 = 0) {N : sN} {z1 : Int32} : Mt G vX13_led (d + 4) (0, 0) [.ref (ad 13 0), .int (z1)] (MM ad nb b r I L) (qLd V N ad nb b r I L z1) := by
  refine x_start (by decide) (Nat.le_of_ble_eq_true rfl) ?_
  refine x_aload_n dX13_led_0 rfl ?_
  refine x_iconst dX13_led_1 li_0 ?_
  refine p_M_thrown fX13_72 dX13_led_2 ?_
  refine x_iconst dX13_led_5 li_0 ?_
  refine x_istore_n dX13_led_6 (by decide) rfl ?_
  refine x_aload_n dX13_led_7 rfl ?_
  refine g_M_borderN hn fX13_397 dX13_led_8 ?_
  refine x_ifnullN 18 dX13_led_11 (by decide) ?_
  refine x_iconst dX13_led_18 li_0 ?_
  refine x_istore_n dX13_led_19 (by decide) rfl ?_
  refine x_aload_n dX13_led_20 rfl ?_
  refine g_M_borderN hn fX13_397 dX13_led_21 ?_
  refine x_ifnullN 79 dX13_led_24 (by decide) ?_
  refine x_aload_n dX13_led_79 rfl ?_
  refine x_iconst dX13_led_80 li_1 ?_
  refine p_M_thrown fX13_72 dX13_led_81 ?_
  refine x_iconst dX13_led_84 li_0 ?_
  refine x_iret dX13_led_85 rfl ?_
  refine ⟨_, rfl, _, MX.rf, ?_⟩
  rw [if_pos (show lds V N z1 = 0 from ldr_0 (hz 7 (by decide)))]
set_option maxRecDepth 100000 in
set_option maxHeartbeats 600000 in
theorem m_led1 (hV : VW V) {bi : Nat} (hb : b = some bi) (hbn : bi < nb) {N : sN} (hW : NW V N) (hB : YB V bi I) (h0 : 0 < V 0 0 0) (hN : YN V N I) {z1 : Int32} : Mt G vX13_led (d + 4) (0, 0) [.ref (ad 13 0), .int (z1)] (MM ad nb b r I L) (qLd V N ad nb b r I L z1) := by
  have v0 := hV.1
  have v1 := hV.2.1
  have v2 := hV.2.2.1
  have v3 := hV.2.2.2.1
  have v4 := hV.2.2.2.2.1
  have v7 := hV.2.2.2.2.2.2.2.1
  have v9 := hV.2.2.2.2.2.2.2.2.2.1
  have v10 := hV.2.2.2.2.2.2.2.2.2.2.1
  have hB := hB.sm (I' := (xu I 13 0 0 (nI 0))) (fun q hq => by funext x y; rw [xu_ns (by omega)])
  have hN := hN.sm (I' := (xu I 13 0 0 (nI 0))) (by funext x y; rw [xu_ns (by decide)])
  have hm := MX.rf (I := (xu I 13 0 0 (nI 0)))
  have loop20 : ∀ (n : Nat) (k c : Nat) (I1 : Nat → Nat → Nat → Int32), V 0 7 0 - k < n → k ≤ V 0 7 0 → c ≤ k → MX (xu I 13 0 0 (nI 0)) I1 → (∀ p, p < V 0 4 0 → I1 89 0 p = nO (-2) (V 6 p 0)) → ldr (fun t => decide (0 < dbh V N t (N t 0) 0)) z1 (V 0 7 0 - k) k c = lds V N z1 → X G vX13_led (d + 4) (0, 0) 20 [(0, some (.ref (ad 13 0))), (1, some (.int (z1))), (2, some (.int (nI (c)))), (3, some (.int (nI (k))))] [] (MM ad nb b r I1 L) (xT G (qLd V N ad nb b r I L z1)) := by
    intro n
    induction n with
    | zero => intro k c I1 h0; omega
    | succ n ih =>
      intro k c I1 hn hk hc hm hp hs
      have hB1 := hB.mx hm
      have hN1 := hN.mx hm
      refine x_aload_n dX13_led_20 rfl ?_
      refine g_M_border hb fX13_397 dX13_led_21 ?_
      refine x_ifnull dX13_led_24 ?_
      refine x_iload_n dX13_led_27 rfl ?_
      refine x_aload_n dX13_led_28 rfl ?_
      refine g_M_border hb fX13_397 dX13_led_29 ?_
      refine g_MB_travellers fX13_343 dX13_led_32 hbn ?_
      refine x_top (y12_7 hB1) ?_
      refine x_icN_ge 79 dX13_led_35 (by decide) (by omega) (by omega) (fun h35 => ?_) (fun h35 => ?_)
      · refine x_aload_n dX13_led_79 rfl ?_
        refine x_iconst dX13_led_80 li_1 ?_
        refine p_M_thrown fX13_72 dX13_led_81 ?_
        refine x_iconst dX13_led_84 li_0 ?_
        refine x_iret dX13_led_85 rfl ?_
        refine ⟨_, rfl, _, hm, ?_⟩
        rw [if_pos (by rw [← hs]; exact ldr_0 (by omega))]
      · refine x_aload_n dX13_led_38 rfl ?_
        refine x_iload_n dX13_led_39 rfl ?_
        refine x_cvv (m_tries (d := d + 3) (t := k) (by omega)) kX13_428 dX13_led_40 rfl (Nat.le_of_ble_eq_true rfl) rfl rfl (Nat.le_of_ble_eq_true rfl) (fun Mu hq => ?_)
        obtain ⟨I2, rfl, t1, t2⟩ := hq
        have m2 := hm.tr (MX.of t2 (by unfold msc; omega))
        have hk2 : k < V 0 7 0 := h35
        have hp0 := (hW k hk2).1
        refine x_aload_n dX13_led_43 rfl ?_
        refine x_iload_n dX13_led_44 rfl ?_
        refine x_aload_n dX13_led_45 rfl ?_
        refine g_M_v fX13_17 dX13_led_46 ?_
        refine x_bipush dX13_led_49 lb_24 ?_
        refine x_iload_n dX13_led_51 rfl ?_
        refine x_iaddN dX13_led_52 ?_
        refine x_iald dX13_led_53 rfl rfl (Nat.le_of_ble_eq_true rfl) (by first | exact Nat.le_of_ble_eq_true rfl | assumption | omega) ?_
        rw [((hN.mx m2) k hk2).2.1]
        refine x_cvi (m_dutyAt (d := d) (g := ON N k) hV hb hbn (hB.mx m2) (fun s hs => by rw [t1 s (by omega)]; exact (hN1 k hk2).1 s (by omega)) (fun s hs => (hW k hk2).2 s (by omega)) (nz := fun p => V 6 p 0) (fun p hp4 => by rw [t2 89 (by decide)]; exact hp p hp4) (fun p hp => (hV.2.2.2.2.2.2.2.2.2.2.2.2.2.2.2.1 p hp).2) hk2 hp0) kX13_442 dX13_led_54 rfl (Nat.le_of_ble_eq_true rfl) rfl rfl (Nat.le_of_ble_eq_true rfl) (fun ru Mu hq => ?_)
        obtain ⟨rfl, rfl⟩ := hq
        rw [show dgn V (fun s => ON N k s / 2) (V 9 k 0) (N k 0) (V 6 (N k 0) 0) = dbh V N k (N k 0) 0 by
          show _ = dgn V (str V (ON N k) 0 0) (V 9 k 0) (N k 0) (V 6 (N k 0) 0)
          refine dgn_cg (fun s _ => ?_)
          unfold str
          rw [Nat.mul_zero]
          rfl]
        have hdl : dbh V N k (N k 0) 0 ≤ 10692 := dtn_le hV (fun s hs => (hW k hk2).2 s hs)
        refine x_ifN_ne 63 dX13_led_57 (by decide) (by omega) (fun h57 => ?_) (fun h57 => ?_)
        · refine x_iload_n dX13_led_63 rfl ?_
          refine x_iload_n dX13_led_64 rfl ?_
          refine x_ic_ne 70 dX13_led_65 (by decide) (fun h65 => ?_) (fun h65 => ?_)
          · refine x_iincN 1 dX13_led_70 li_1 rfl (by decide) rfl ?_
            refine x_iincN 1 dX13_led_73 li_1 rfl (by decide) rfl ?_
            refine x_goto 20 dX13_led_76 (by decide) ?_
            first
              | (refine x_ls ?_ (ih (k + 1) (c + 1) I2 (by omega) (by omega) (by omega) m2 (fun p hp4 => by rw [t2 89 (by decide)]; exact hp p hp4) (by rw [← hs, ldr_s (f := V 0 7 0 - k) (by omega), if_pos (decide_eq_true h57), if_neg h65, show V 0 7 0 - k - 1 = V 0 7 0 - (k + 1) by omega])); exact ⟨rfl, rfl, rfl, rfl, trivial⟩)
              | (refine x_ls ?_ (ih (k + 1) c I2 (by omega) (by omega) (by omega) m2 (fun p hp4 => by rw [t2 89 (by decide)]; exact hp p hp4) (by rw [← hs, ldr_s (f := V 0 7 0 - k) (by omega), if_neg (by rw [decide_eq_false (by omega)]; decide), show V 0 7 0 - k - 1 = V 0 7 0 - (k + 1) by omega])); exact ⟨rfl, rfl, rfl, rfl, trivial⟩)
          · refine x_iload_n dX13_led_68 rfl ?_
            refine x_iret dX13_led_69 rfl ?_
            refine ⟨_, rfl, _, m2, ?_⟩
            have e1 : lds V N z1 = k + 1 := by rw [← hs, ldr_s (by omega), if_pos (decide_eq_true (by omega)), if_pos h65]
            rw [e1, if_neg (by omega), Nat.add_sub_cancel]
            exact ⟨rfl, rfl⟩
        · refine x_goto 73 dX13_led_60 (by decide) ?_
          refine x_iincN 1 dX13_led_73 li_1 rfl (by decide) rfl ?_
          refine x_goto 20 dX13_led_76 (by decide) ?_
          first
            | (refine x_ls ?_ (ih (k + 1) (c + 1) I2 (by omega) (by omega) (by omega) m2 (fun p hp4 => by rw [t2 89 (by decide)]; exact hp p hp4) (by rw [← hs, ldr_s (f := V 0 7 0 - k) (by omega), if_pos (decide_eq_true h57), if_neg h65, show V 0 7 0 - k - 1 = V 0 7 0 - (k + 1) by omega])); exact ⟨rfl, rfl, rfl, rfl, trivial⟩)
            | (refine x_ls ?_ (ih (k + 1) c I2 (by omega) (by omega) (by omega) m2 (fun p hp4 => by rw [t2 89 (by decide)]; exact hp p hp4) (by rw [← hs, ldr_s (f := V 0 7 0 - k) (by omega), if_neg (by rw [decide_eq_false (by omega)]; decide), show V 0 7 0 - k - 1 = V 0 7 0 - (k + 1) by omega])); exact ⟨rfl, rfl, rfl, rfl, trivial⟩)
  refine x_start (by decide) (Nat.le_of_ble_eq_true rfl) ?_
  refine x_aload_n dX13_led_0 rfl ?_
  refine x_iconst dX13_led_1 li_0 ?_
  refine p_M_thrown fX13_72 dX13_led_2 ?_
  refine x_iconst dX13_led_5 li_0 ?_
  refine x_istore_n dX13_led_6 (by decide) rfl ?_
  refine x_aload_n dX13_led_7 rfl ?_
  refine g_M_border hb fX13_397 dX13_led_8 ?_
  refine x_ifnull dX13_led_11 ?_
  refine x_aload_n dX13_led_14 rfl ?_
  refine x_cvv (m_posted (d := d + 3) hV hb hbn hB) kX13_433 dX13_led_15 rfl (Nat.le_of_ble_eq_true rfl) rfl rfl (Nat.le_of_ble_eq_true rfl) (fun Mu hq => ?_)
  obtain ⟨I1, rfl, k1, k2⟩ := hq
  have m1 := hm.tr (MX.of k2 (by unfold msc; omega))
  refine x_iconst dX13_led_18 li_0 ?_
  refine x_istore_n dX13_led_19 (by decide) rfl ?_
  refine x_ls ?_ (loop20 (V 0 7 0 + 1) 0 0 I1 (by omega) (by omega) (by omega) m1 k1 (by rw [Nat.sub_zero]; rfl))
  exact ⟨rfl, rfl, rfl, rfl, trivial⟩
theorem m_led (hV : VW V) (hO : YO V nb b I) {N : sN} (hW : NW V N) (hN : YN V N I) {z1 : Int32} : Mt G vX13_led (d + 4) (0, 0) [.ref (ad 13 0), .int z1] (MM ad nb b r I L) (qLd V N ad nb b r I L z1) := by
  rcases hO with ⟨hn, hz⟩ | ⟨bi, hb, hbn, hB, h0⟩
  · exact m_led0 hn hz
  · exact m_led1 hV hb hbn hW hB h0 hN
end M12
