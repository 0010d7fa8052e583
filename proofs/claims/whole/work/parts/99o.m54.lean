section M54
set_option maxRecDepth 100000 in
set_option maxHeartbeats 4000000 in
theorem ct_X2_init_4 {G : xG} {d : Nat} {M : xM} {a0 : Nat} (g9 : GSt 4 M) (ha0 : M.1 2 0 = a0) : Mt G vX2_init (d + 1) (38, 210) [.ref a0] M (qV (fun M' => GSt 40 M' ∧ KA 4 M M')) := by
  refine x_start (by decide) (Nat.le_of_ble_eq_true rfl) ?_
  have kc : KA 4 M M := KA.rf
  refine x_aload_n dX2_init_0 rfl ?_
  refine x_objinit dX2_init_1 (xm1 38 rfl rfl) (Nat.le_of_ble_eq_true rfl) ?_
  refine x_aload_n dX2_init_4 rfl ?_
  refine x_bipush dX2_init_5 lb_12 ?_
  refine r_arr (n := 4) (g := 16) (i := 0) (t := 0) (N := 12) (b1 := 37) (b2 := 198) g9 (by decide +kernel) rfl (by decide +kernel) dX2_init_7 rfl (by decide) rfl (by decide) (xm1 148 rfl rfl) (by decide +kernel) (fun M1 g9 hk => ?_)
  have ha0 := (hk 2 0 (by decide +kernel)).trans ha0
  have kc := kc.tr hk (fun s => cnt_mn (by decide))
  generalize hx0 : M1.1 16 0 = x0
  refine r_put (n := 5) (g := 2) (i := 0) (k := 0) (t := (16, 0)) g9 (by decide +kernel) rfl (by decide +kernel) (by decide +kernel) ha0 hx0 fsX2_9 dX2_init_9 rfl rfl rfl rfl (fun M2 g9 hk => ?_)
  have ha0 := (hk 2 0 (by decide +kernel)).trans ha0
  have hx0 := (hk 16 0 (by decide +kernel)).trans hx0
  have kc := kc.tr hk (fun s => cnt_mn (by decide))
  refine x_aload_n dX2_init_12 rfl ?_
  refine x_iconst dX2_init_13 li_4 ?_
  refine r_arr (n := 6) (g := 17) (i := 0) (t := 0) (N := 4) (b1 := 36) (b2 := 194) g9 (by decide +kernel) rfl (by decide +kernel) dX2_init_14 rfl (by decide) rfl (by decide) (xm1 148 rfl rfl) (by decide +kernel) (fun M3 g9 hk => ?_)
  have ha0 := (hk 2 0 (by decide +kernel)).trans ha0
  have kc := kc.tr hk (fun s => cnt_mn (by decide))
  generalize hx1 : M3.1 17 0 = x1
  refine r_put (n := 7) (g := 2) (i := 0) (k := 1) (t := (17, 0)) g9 (by decide +kernel) rfl (by decide +kernel) (by decide +kernel) ha0 hx1 fsX2_15 dX2_init_16 rfl rfl rfl rfl (fun M4 g9 hk => ?_)
  have ha0 := (hk 2 0 (by decide +kernel)).trans ha0
  have hx1 := (hk 17 0 (by decide +kernel)).trans hx1
  have kc := kc.tr hk (fun s => cnt_mn (by decide))
  refine x_aload_n dX2_init_19 rfl ?_
  refine x_bipush dX2_init_20 lb_6 ?_
  refine r_arr (n := 8) (g := 18) (i := 0) (t := 0) (N := 6) (b1 := 35) (b2 := 188) g9 (by decide +kernel) rfl (by decide +kernel) dX2_init_22 rfl (by decide) rfl (by decide) (xm1 148 rfl rfl) (by decide +kernel) (fun M5 g9 hk => ?_)
  have ha0 := (hk 2 0 (by decide +kernel)).trans ha0
  have kc := kc.tr hk (fun s => cnt_mn (by decide))
  generalize hx2 : M5.1 18 0 = x2
  refine r_put (n := 9) (g := 2) (i := 0) (k := 2) (t := (18, 0)) g9 (by decide +kernel) rfl (by decide +kernel) (by decide +kernel) ha0 hx2 fsX2_18 dX2_init_24 rfl rfl rfl rfl (fun M6 g9 hk => ?_)
  have ha0 := (hk 2 0 (by decide +kernel)).trans ha0
  have hx2 := (hk 18 0 (by decide +kernel)).trans hx2
  have kc := kc.tr hk (fun s => cnt_mn (by decide))
  refine x_aload_n dX2_init_27 rfl ?_
  refine x_bipush dX2_init_28 lb_6 ?_
  refine r_arr (n := 10) (g := 19) (i := 0) (t := 0) (N := 6) (b1 := 34) (b2 := 182) g9 (by decide +kernel) rfl (by decide +kernel) dX2_init_30 rfl (by decide) rfl (by decide) (xm1 148 rfl rfl) (by decide +kernel) (fun M7 g9 hk => ?_)
  have ha0 := (hk 2 0 (by decide +kernel)).trans ha0
  have kc := kc.tr hk (fun s => cnt_mn (by decide))
  generalize hx3 : M7.1 19 0 = x3
  refine r_put (n := 11) (g := 2) (i := 0) (k := 3) (t := (19, 0)) g9 (by decide +kernel) rfl (by decide +kernel) (by decide +kernel) ha0 hx3 fsX2_21 dX2_init_32 rfl rfl rfl rfl (fun M8 g9 hk => ?_)
  have ha0 := (hk 2 0 (by decide +kernel)).trans ha0
  have hx3 := (hk 19 0 (by decide +kernel)).trans hx3
  have kc := kc.tr hk (fun s => cnt_mn (by decide))
  refine x_aload_n dX2_init_35 rfl ?_
  refine x_iconst dX2_init_36 li_4 ?_
  refine r_arr (n := 12) (g := 20) (i := 0) (t := 0) (N := 4) (b1 := 33) (b2 := 178) g9 (by decide +kernel) rfl (by decide +kernel) dX2_init_37 rfl (by decide) rfl (by decide) (xm1 148 rfl rfl) (by decide +kernel) (fun M9 g9 hk => ?_)
  have ha0 := (hk 2 0 (by decide +kernel)).trans ha0
  have kc := kc.tr hk (fun s => cnt_mn (by decide))
  generalize hx4 : M9.1 20 0 = x4
  refine r_put (n := 13) (g := 2) (i := 0) (k := 4) (t := (20, 0)) g9 (by decide +kernel) rfl (by decide +kernel) (by decide +kernel) ha0 hx4 fsX2_24 dX2_init_39 rfl rfl rfl rfl (fun M10 g9 hk => ?_)
  have ha0 := (hk 2 0 (by decide +kernel)).trans ha0
  have hx4 := (hk 20 0 (by decide +kernel)).trans hx4
  have kc := kc.tr hk (fun s => cnt_mn (by decide))
  refine x_aload_n dX2_init_42 rfl ?_
  refine x_bipush dX2_init_43 lb_6 ?_
  refine r_arr (n := 14) (g := 21) (i := 0) (t := 0) (N := 6) (b1 := 32) (b2 := 172) g9 (by decide +kernel) rfl (by decide +kernel) dX2_init_45 rfl (by decide) rfl (by decide) (xm1 148 rfl rfl) (by decide +kernel) (fun M11 g9 hk => ?_)
  have ha0 := (hk 2 0 (by decide +kernel)).trans ha0
  have kc := kc.tr hk (fun s => cnt_mn (by decide))
  generalize hx5 : M11.1 21 0 = x5
  refine r_put (n := 15) (g := 2) (i := 0) (k := 5) (t := (21, 0)) g9 (by decide +kernel) rfl (by decide +kernel) (by decide +kernel) ha0 hx5 fsX2_27 dX2_init_47 rfl rfl rfl rfl (fun M12 g9 hk => ?_)
  have ha0 := (hk 2 0 (by decide +kernel)).trans ha0
  have hx5 := (hk 21 0 (by decide +kernel)).trans hx5
  have kc := kc.tr hk (fun s => cnt_mn (by decide))
  refine x_aload_n dX2_init_50 rfl ?_
  refine x_bipush dX2_init_51 lb_6 ?_
  refine r_arr (n := 16) (g := 22) (i := 0) (t := 0) (N := 6) (b1 := 31) (b2 := 166) g9 (by decide +kernel) rfl (by decide +kernel) dX2_init_53 rfl (by decide) rfl (by decide) (xm1 148 rfl rfl) (by decide +kernel) (fun M13 g9 hk => ?_)
  have ha0 := (hk 2 0 (by decide +kernel)).trans ha0
  have kc := kc.tr hk (fun s => cnt_mn (by decide))
  generalize hx6 : M13.1 22 0 = x6
  refine r_put (n := 17) (g := 2) (i := 0) (k := 6) (t := (22, 0)) g9 (by decide +kernel) rfl (by decide +kernel) (by decide +kernel) ha0 hx6 fsX2_30 dX2_init_55 rfl rfl rfl rfl (fun M14 g9 hk => ?_)
  have ha0 := (hk 2 0 (by decide +kernel)).trans ha0
  have hx6 := (hk 22 0 (by decide +kernel)).trans hx6
  have kc := kc.tr hk (fun s => cnt_mn (by decide))
  refine x_aload_n dX2_init_58 rfl ?_
  refine x_bipush dX2_init_59 lb_6 ?_
  refine x_bipush dX2_init_61 lb_6 ?_
  refine r_mna (n := 18) (g := 30) (i := 0) (g2 := 31) (N := 6) (K := 6) (b1 := 24) (b2 := 124) g9 (by decide +kernel) rfl rfl (by decide +kernel) (by decide +kernel) (fun k => by rw [show cnE 18 30 = 0 by decide +kernel, show cnE 18 31 = 0 by decide +kernel]; show (if k < 6 then some (31, k + 6 * 0) else none) = if k < 6 then some (31, 0 + k) else none; rw [show k + 6 * 0 = 0 + k by omega]) dX2_init_63 (xm1 39 rfl rfl) (xm1 148 rfl rfl) rfl rfl (by decide) (by decide) (by decide) (by decide +kernel) (fun M15 g9 hk => ?_)
  have ha0 := (hk 2 0 (by decide +kernel)).trans ha0
  have kc := kc.tr hk (fun s => cnt_mn (by decide))
  generalize hx7 : M15.1 30 0 = x7
  refine r_put (n := 19) (g := 2) (i := 0) (k := 7) (t := (30, 0)) g9 (by decide +kernel) rfl (by decide +kernel) (by decide +kernel) ha0 hx7 fsX2_35 dX2_init_67 rfl rfl rfl rfl (fun M16 g9 hk => ?_)
  have ha0 := (hk 2 0 (by decide +kernel)).trans ha0
  have hx7 := (hk 30 0 (by decide +kernel)).trans hx7
  have kc := kc.tr hk (fun s => cnt_mn (by decide))
  refine x_aload_n dX2_init_70 rfl ?_
  refine x_bipush dX2_init_71 lb_6 ?_
  refine x_bipush dX2_init_73 lb_6 ?_
  refine r_mna (n := 20) (g := 32) (i := 0) (g2 := 33) (N := 6) (K := 6) (b1 := 17) (b2 := 82) g9 (by decide +kernel) rfl rfl (by decide +kernel) (by decide +kernel) (fun k => by rw [show cnE 20 32 = 0 by decide +kernel, show cnE 20 33 = 0 by decide +kernel]; show (if k < 6 then some (33, k + 6 * 0) else none) = if k < 6 then some (33, 0 + k) else none; rw [show k + 6 * 0 = 0 + k by omega]) dX2_init_75 (xm1 39 rfl rfl) (xm1 148 rfl rfl) rfl rfl (by decide) (by decide) (by decide) (by decide +kernel) (fun M17 g9 hk => ?_)
  have ha0 := (hk 2 0 (by decide +kernel)).trans ha0
  have kc := kc.tr hk (fun s => cnt_mn (by decide))
  generalize hx8 : M17.1 32 0 = x8
  refine r_put (n := 21) (g := 2) (i := 0) (k := 8) (t := (32, 0)) g9 (by decide +kernel) rfl (by decide +kernel) (by decide +kernel) ha0 hx8 fsX2_38 dX2_init_79 rfl rfl rfl rfl (fun M18 g9 hk => ?_)
  have ha0 := (hk 2 0 (by decide +kernel)).trans ha0
  have hx8 := (hk 32 0 (by decide +kernel)).trans hx8
  have kc := kc.tr hk (fun s => cnt_mn (by decide))
  refine x_aload_n dX2_init_82 rfl ?_
  refine x_iconst dX2_init_83 li_4 ?_
  refine r_arr (n := 22) (g := 23) (i := 0) (t := 0) (N := 4) (b1 := 16) (b2 := 78) g9 (by decide +kernel) rfl (by decide +kernel) dX2_init_84 rfl (by decide) rfl (by decide) (xm1 148 rfl rfl) (by decide +kernel) (fun M19 g9 hk => ?_)
  have ha0 := (hk 2 0 (by decide +kernel)).trans ha0
  have kc := kc.tr hk (fun s => cnt_mn (by decide))
  generalize hx9 : M19.1 23 0 = x9
  refine r_put (n := 23) (g := 2) (i := 0) (k := 9) (t := (23, 0)) g9 (by decide +kernel) rfl (by decide +kernel) (by decide +kernel) ha0 hx9 fsX2_41 dX2_init_86 rfl rfl rfl rfl (fun M20 g9 hk => ?_)
  have ha0 := (hk 2 0 (by decide +kernel)).trans ha0
  have hx9 := (hk 23 0 (by decide +kernel)).trans hx9
  have kc := kc.tr hk (fun s => cnt_mn (by decide))
  refine x_aload_n dX2_init_89 rfl ?_
  refine x_iconst dX2_init_90 li_4 ?_
  refine r_arr (n := 24) (g := 24) (i := 0) (t := 0) (N := 4) (b1 := 15) (b2 := 74) g9 (by decide +kernel) rfl (by decide +kernel) dX2_init_91 rfl (by decide) rfl (by decide) (xm1 148 rfl rfl) (by decide +kernel) (fun M21 g9 hk => ?_)
  have ha0 := (hk 2 0 (by decide +kernel)).trans ha0
  have kc := kc.tr hk (fun s => cnt_mn (by decide))
  generalize hx10 : M21.1 24 0 = x10
  refine r_put (n := 25) (g := 2) (i := 0) (k := 10) (t := (24, 0)) g9 (by decide +kernel) rfl (by decide +kernel) (by decide +kernel) ha0 hx10 fsX2_44 dX2_init_93 rfl rfl rfl rfl (fun M22 g9 hk => ?_)
  have ha0 := (hk 2 0 (by decide +kernel)).trans ha0
  have hx10 := (hk 24 0 (by decide +kernel)).trans hx10
  have kc := kc.tr hk (fun s => cnt_mn (by decide))
  refine x_aload_n dX2_init_96 rfl ?_
  refine x_iconst dX2_init_97 li_4 ?_
  refine r_arr (n := 26) (g := 25) (i := 0) (t := 0) (N := 4) (b1 := 14) (b2 := 70) g9 (by decide +kernel) rfl (by decide +kernel) dX2_init_98 rfl (by decide) rfl (by decide) (xm1 148 rfl rfl) (by decide +kernel) (fun M23 g9 hk => ?_)
  have ha0 := (hk 2 0 (by decide +kernel)).trans ha0
  have kc := kc.tr hk (fun s => cnt_mn (by decide))
  generalize hx11 : M23.1 25 0 = x11
  refine r_put (n := 27) (g := 2) (i := 0) (k := 11) (t := (25, 0)) g9 (by decide +kernel) rfl (by decide +kernel) (by decide +kernel) ha0 hx11 fsX2_47 dX2_init_100 rfl rfl rfl rfl (fun M24 g9 hk => ?_)
  have ha0 := (hk 2 0 (by decide +kernel)).trans ha0
  have hx11 := (hk 25 0 (by decide +kernel)).trans hx11
  have kc := kc.tr hk (fun s => cnt_mn (by decide))
  refine x_aload_n dX2_init_103 rfl ?_
  refine x_iconst dX2_init_104 li_4 ?_
  refine x_bipush dX2_init_105 lb_6 ?_
  refine r_mna (n := 28) (g := 34) (i := 0) (g2 := 35) (N := 4) (K := 6) (b1 := 9) (b2 := 42) g9 (by decide +kernel) rfl rfl (by decide +kernel) (by decide +kernel) (fun k => by rw [show cnE 28 34 = 0 by decide +kernel, show cnE 28 35 = 0 by decide +kernel]; show (if k < 4 then some (35, k + 4 * 0) else none) = if k < 4 then some (35, 0 + k) else none; rw [show k + 4 * 0 = 0 + k by omega]) dX2_init_107 (xm1 39 rfl rfl) (xm1 148 rfl rfl) rfl rfl (by decide) (by decide) (by decide) (by decide +kernel) (fun M25 g9 hk => ?_)
  have ha0 := (hk 2 0 (by decide +kernel)).trans ha0
  have kc := kc.tr hk (fun s => cnt_mn (by decide))
  generalize hx12 : M25.1 34 0 = x12
  refine r_put (n := 29) (g := 2) (i := 0) (k := 12) (t := (34, 0)) g9 (by decide +kernel) rfl (by decide +kernel) (by decide +kernel) ha0 hx12 fsX2_50 dX2_init_111 rfl rfl rfl rfl (fun M26 g9 hk => ?_)
  have ha0 := (hk 2 0 (by decide +kernel)).trans ha0
  have hx12 := (hk 34 0 (by decide +kernel)).trans hx12
  have kc := kc.tr hk (fun s => cnt_mn (by decide))
  refine x_aload_n dX2_init_114 rfl ?_
  refine x_iconst dX2_init_115 li_4 ?_
  refine r_arr (n := 30) (g := 26) (i := 0) (t := 0) (N := 4) (b1 := 8) (b2 := 38) g9 (by decide +kernel) rfl (by decide +kernel) dX2_init_116 rfl (by decide) rfl (by decide) (xm1 148 rfl rfl) (by decide +kernel) (fun M27 g9 hk => ?_)
  have ha0 := (hk 2 0 (by decide +kernel)).trans ha0
  have kc := kc.tr hk (fun s => cnt_mn (by decide))
  generalize hx13 : M27.1 26 0 = x13
  refine r_put (n := 31) (g := 2) (i := 0) (k := 13) (t := (26, 0)) g9 (by decide +kernel) rfl (by decide +kernel) (by decide +kernel) ha0 hx13 fsX2_53 dX2_init_118 rfl rfl rfl rfl (fun M28 g9 hk => ?_)
  have ha0 := (hk 2 0 (by decide +kernel)).trans ha0
  have hx13 := (hk 26 0 (by decide +kernel)).trans hx13
  have kc := kc.tr hk (fun s => cnt_mn (by decide))
  refine x_aload_n dX2_init_121 rfl ?_
  refine x_iconst dX2_init_122 li_4 ?_
  refine x_iconst dX2_init_123 li_5 ?_
  refine r_mna (n := 32) (g := 36) (i := 0) (g2 := 37) (N := 4) (K := 5) (b1 := 3) (b2 := 14) g9 (by decide +kernel) rfl rfl (by decide +kernel) (by decide +kernel) (fun k => by rw [show cnE 32 36 = 0 by decide +kernel, show cnE 32 37 = 0 by decide +kernel]; show (if k < 4 then some (37, k + 4 * 0) else none) = if k < 4 then some (37, 0 + k) else none; rw [show k + 4 * 0 = 0 + k by omega]) dX2_init_124 (xm1 39 rfl rfl) (xm1 148 rfl rfl) rfl rfl (by decide) (by decide) (by decide) (by decide +kernel) (fun M29 g9 hk => ?_)
  have ha0 := (hk 2 0 (by decide +kernel)).trans ha0
  have kc := kc.tr hk (fun s => cnt_mn (by decide))
  generalize hx14 : M29.1 36 0 = x14
  refine r_put (n := 33) (g := 2) (i := 0) (k := 14) (t := (36, 0)) g9 (by decide +kernel) rfl (by decide +kernel) (by decide +kernel) ha0 hx14 fsX2_56 dX2_init_128 rfl rfl rfl rfl (fun M30 g9 hk => ?_)
  have ha0 := (hk 2 0 (by decide +kernel)).trans ha0
  have hx14 := (hk 36 0 (by decide +kernel)).trans hx14
  have kc := kc.tr hk (fun s => cnt_mn (by decide))
  refine x_aload_n dX2_init_131 rfl ?_
  refine x_iconst dX2_init_132 li_4 ?_
  refine r_arr (n := 34) (g := 27) (i := 0) (t := 0) (N := 4) (b1 := 2) (b2 := 10) g9 (by decide +kernel) rfl (by decide +kernel) dX2_init_133 rfl (by decide) rfl (by decide) (xm1 148 rfl rfl) (by decide +kernel) (fun M31 g9 hk => ?_)
  have ha0 := (hk 2 0 (by decide +kernel)).trans ha0
  have kc := kc.tr hk (fun s => cnt_mn (by decide))
  generalize hx15 : M31.1 27 0 = x15
  refine r_put (n := 35) (g := 2) (i := 0) (k := 15) (t := (27, 0)) g9 (by decide +kernel) rfl (by decide +kernel) (by decide +kernel) ha0 hx15 fsX2_59 dX2_init_135 rfl rfl rfl rfl (fun M32 g9 hk => ?_)
  have ha0 := (hk 2 0 (by decide +kernel)).trans ha0
  have hx15 := (hk 27 0 (by decide +kernel)).trans hx15
  have kc := kc.tr hk (fun s => cnt_mn (by decide))
  refine x_aload_n dX2_init_138 rfl ?_
  refine x_iconst dX2_init_139 li_4 ?_
  refine r_arr (n := 36) (g := 28) (i := 0) (t := 0) (N := 4) (b1 := 1) (b2 := 6) g9 (by decide +kernel) rfl (by decide +kernel) dX2_init_140 rfl (by decide) rfl (by decide) (xm1 148 rfl rfl) (by decide +kernel) (fun M33 g9 hk => ?_)
  have ha0 := (hk 2 0 (by decide +kernel)).trans ha0
  have kc := kc.tr hk (fun s => cnt_mn (by decide))
  generalize hx16 : M33.1 28 0 = x16
  refine r_put (n := 37) (g := 2) (i := 0) (k := 16) (t := (28, 0)) g9 (by decide +kernel) rfl (by decide +kernel) (by decide +kernel) ha0 hx16 fsX2_62 dX2_init_142 rfl rfl rfl rfl (fun M34 g9 hk => ?_)
  have ha0 := (hk 2 0 (by decide +kernel)).trans ha0
  have hx16 := (hk 28 0 (by decide +kernel)).trans hx16
  have kc := kc.tr hk (fun s => cnt_mn (by decide))
  refine x_aload_n dX2_init_145 rfl ?_
  refine x_bipush dX2_init_146 lb_6 ?_
  refine r_arr (n := 38) (g := 29) (i := 0) (t := 0) (N := 6) (b1 := 0) (b2 := 0) g9 (by decide +kernel) rfl (by decide +kernel) dX2_init_148 rfl (by decide) rfl (by decide) (xm1 148 rfl rfl) (by decide +kernel) (fun M35 g9 hk => ?_)
  have ha0 := (hk 2 0 (by decide +kernel)).trans ha0
  have kc := kc.tr hk (fun s => cnt_mn (by decide))
  generalize hx17 : M35.1 29 0 = x17
  refine r_put (n := 39) (g := 2) (i := 0) (k := 17) (t := (29, 0)) g9 (by decide +kernel) rfl (by decide +kernel) (by decide +kernel) ha0 hx17 fsX2_65 dX2_init_150 rfl rfl rfl rfl (fun M36 g9 hk => ?_)
  have ha0 := (hk 2 0 (by decide +kernel)).trans ha0
  have hx17 := (hk 29 0 (by decide +kernel)).trans hx17
  have kc := kc.tr hk (fun s => cnt_mn (by decide))
  refine x_vret dX2_init_153 rfl ?_
  exact ⟨rfl, g9, kc⟩
set_option maxRecDepth 100000 in
set_option maxHeartbeats 4000000 in
theorem ct_X2_init_43 {G : xG} {d : Nat} {M : xM} {a0 : Nat} (g9 : GSt 43 M) (ha0 : M.1 2 1 = a0) : Mt G vX2_init (d + 1) (38, 210) [.ref a0] M (qV (fun M' => GSt 79 M' ∧ KA 43 M M')) := by
  refine x_start (by decide) (Nat.le_of_ble_eq_true rfl) ?_
  have kc : KA 43 M M := KA.rf
  refine x_aload_n dX2_init_0 rfl ?_
  refine x_objinit dX2_init_1 (xm1 38 rfl rfl) (Nat.le_of_ble_eq_true rfl) ?_
  refine x_aload_n dX2_init_4 rfl ?_
  refine x_bipush dX2_init_5 lb_12 ?_
  refine r_arr (n := 43) (g := 16) (i := 1) (t := 0) (N := 12) (b1 := 37) (b2 := 198) g9 (by decide +kernel) rfl (by decide +kernel) dX2_init_7 rfl (by decide) rfl (by decide) (xm1 148 rfl rfl) (by decide +kernel) (fun M1 g9 hk => ?_)
  have ha0 := (hk 2 1 (by decide +kernel)).trans ha0
  have kc := kc.tr hk (fun s => cnt_mn (by decide))
  generalize hx0 : M1.1 16 1 = x0
  refine r_put (n := 44) (g := 2) (i := 1) (k := 0) (t := (16, 1)) g9 (by decide +kernel) rfl (by decide +kernel) (by decide +kernel) ha0 hx0 fsX2_9 dX2_init_9 rfl rfl rfl rfl (fun M2 g9 hk => ?_)
  have ha0 := (hk 2 1 (by decide +kernel)).trans ha0
  have hx0 := (hk 16 1 (by decide +kernel)).trans hx0
  have kc := kc.tr hk (fun s => cnt_mn (by decide))
  refine x_aload_n dX2_init_12 rfl ?_
  refine x_iconst dX2_init_13 li_4 ?_
  refine r_arr (n := 45) (g := 17) (i := 1) (t := 0) (N := 4) (b1 := 36) (b2 := 194) g9 (by decide +kernel) rfl (by decide +kernel) dX2_init_14 rfl (by decide) rfl (by decide) (xm1 148 rfl rfl) (by decide +kernel) (fun M3 g9 hk => ?_)
  have ha0 := (hk 2 1 (by decide +kernel)).trans ha0
  have kc := kc.tr hk (fun s => cnt_mn (by decide))
  generalize hx1 : M3.1 17 1 = x1
  refine r_put (n := 46) (g := 2) (i := 1) (k := 1) (t := (17, 1)) g9 (by decide +kernel) rfl (by decide +kernel) (by decide +kernel) ha0 hx1 fsX2_15 dX2_init_16 rfl rfl rfl rfl (fun M4 g9 hk => ?_)
  have ha0 := (hk 2 1 (by decide +kernel)).trans ha0
  have hx1 := (hk 17 1 (by decide +kernel)).trans hx1
  have kc := kc.tr hk (fun s => cnt_mn (by decide))
  refine x_aload_n dX2_init_19 rfl ?_
  refine x_bipush dX2_init_20 lb_6 ?_
  refine r_arr (n := 47) (g := 18) (i := 1) (t := 0) (N := 6) (b1 := 35) (b2 := 188) g9 (by decide +kernel) rfl (by decide +kernel) dX2_init_22 rfl (by decide) rfl (by decide) (xm1 148 rfl rfl) (by decide +kernel) (fun M5 g9 hk => ?_)
  have ha0 := (hk 2 1 (by decide +kernel)).trans ha0
  have kc := kc.tr hk (fun s => cnt_mn (by decide))
  generalize hx2 : M5.1 18 1 = x2
  refine r_put (n := 48) (g := 2) (i := 1) (k := 2) (t := (18, 1)) g9 (by decide +kernel) rfl (by decide +kernel) (by decide +kernel) ha0 hx2 fsX2_18 dX2_init_24 rfl rfl rfl rfl (fun M6 g9 hk => ?_)
  have ha0 := (hk 2 1 (by decide +kernel)).trans ha0
  have hx2 := (hk 18 1 (by decide +kernel)).trans hx2
  have kc := kc.tr hk (fun s => cnt_mn (by decide))
  refine x_aload_n dX2_init_27 rfl ?_
  refine x_bipush dX2_init_28 lb_6 ?_
  refine r_arr (n := 49) (g := 19) (i := 1) (t := 0) (N := 6) (b1 := 34) (b2 := 182) g9 (by decide +kernel) rfl (by decide +kernel) dX2_init_30 rfl (by decide) rfl (by decide) (xm1 148 rfl rfl) (by decide +kernel) (fun M7 g9 hk => ?_)
  have ha0 := (hk 2 1 (by decide +kernel)).trans ha0
  have kc := kc.tr hk (fun s => cnt_mn (by decide))
  generalize hx3 : M7.1 19 1 = x3
  refine r_put (n := 50) (g := 2) (i := 1) (k := 3) (t := (19, 1)) g9 (by decide +kernel) rfl (by decide +kernel) (by decide +kernel) ha0 hx3 fsX2_21 dX2_init_32 rfl rfl rfl rfl (fun M8 g9 hk => ?_)
  have ha0 := (hk 2 1 (by decide +kernel)).trans ha0
  have hx3 := (hk 19 1 (by decide +kernel)).trans hx3
  have kc := kc.tr hk (fun s => cnt_mn (by decide))
  refine x_aload_n dX2_init_35 rfl ?_
  refine x_iconst dX2_init_36 li_4 ?_
  refine r_arr (n := 51) (g := 20) (i := 1) (t := 0) (N := 4) (b1 := 33) (b2 := 178) g9 (by decide +kernel) rfl (by decide +kernel) dX2_init_37 rfl (by decide) rfl (by decide) (xm1 148 rfl rfl) (by decide +kernel) (fun M9 g9 hk => ?_)
  have ha0 := (hk 2 1 (by decide +kernel)).trans ha0
  have kc := kc.tr hk (fun s => cnt_mn (by decide))
  generalize hx4 : M9.1 20 1 = x4
  refine r_put (n := 52) (g := 2) (i := 1) (k := 4) (t := (20, 1)) g9 (by decide +kernel) rfl (by decide +kernel) (by decide +kernel) ha0 hx4 fsX2_24 dX2_init_39 rfl rfl rfl rfl (fun M10 g9 hk => ?_)
  have ha0 := (hk 2 1 (by decide +kernel)).trans ha0
  have hx4 := (hk 20 1 (by decide +kernel)).trans hx4
  have kc := kc.tr hk (fun s => cnt_mn (by decide))
  refine x_aload_n dX2_init_42 rfl ?_
  refine x_bipush dX2_init_43 lb_6 ?_
  refine r_arr (n := 53) (g := 21) (i := 1) (t := 0) (N := 6) (b1 := 32) (b2 := 172) g9 (by decide +kernel) rfl (by decide +kernel) dX2_init_45 rfl (by decide) rfl (by decide) (xm1 148 rfl rfl) (by decide +kernel) (fun M11 g9 hk => ?_)
  have ha0 := (hk 2 1 (by decide +kernel)).trans ha0
  have kc := kc.tr hk (fun s => cnt_mn (by decide))
  generalize hx5 : M11.1 21 1 = x5
  refine r_put (n := 54) (g := 2) (i := 1) (k := 5) (t := (21, 1)) g9 (by decide +kernel) rfl (by decide +kernel) (by decide +kernel) ha0 hx5 fsX2_27 dX2_init_47 rfl rfl rfl rfl (fun M12 g9 hk => ?_)
  have ha0 := (hk 2 1 (by decide +kernel)).trans ha0
  have hx5 := (hk 21 1 (by decide +kernel)).trans hx5
  have kc := kc.tr hk (fun s => cnt_mn (by decide))
  refine x_aload_n dX2_init_50 rfl ?_
  refine x_bipush dX2_init_51 lb_6 ?_
  refine r_arr (n := 55) (g := 22) (i := 1) (t := 0) (N := 6) (b1 := 31) (b2 := 166) g9 (by decide +kernel) rfl (by decide +kernel) dX2_init_53 rfl (by decide) rfl (by decide) (xm1 148 rfl rfl) (by decide +kernel) (fun M13 g9 hk => ?_)
  have ha0 := (hk 2 1 (by decide +kernel)).trans ha0
  have kc := kc.tr hk (fun s => cnt_mn (by decide))
  generalize hx6 : M13.1 22 1 = x6
  refine r_put (n := 56) (g := 2) (i := 1) (k := 6) (t := (22, 1)) g9 (by decide +kernel) rfl (by decide +kernel) (by decide +kernel) ha0 hx6 fsX2_30 dX2_init_55 rfl rfl rfl rfl (fun M14 g9 hk => ?_)
  have ha0 := (hk 2 1 (by decide +kernel)).trans ha0
  have hx6 := (hk 22 1 (by decide +kernel)).trans hx6
  have kc := kc.tr hk (fun s => cnt_mn (by decide))
  refine x_aload_n dX2_init_58 rfl ?_
  refine x_bipush dX2_init_59 lb_6 ?_
  refine x_bipush dX2_init_61 lb_6 ?_
  refine r_mna (n := 57) (g := 30) (i := 1) (g2 := 31) (N := 6) (K := 6) (b1 := 24) (b2 := 124) g9 (by decide +kernel) rfl rfl (by decide +kernel) (by decide +kernel) (fun k => by rw [show cnE 57 30 = 1 by decide +kernel, show cnE 57 31 = 6 by decide +kernel]; show (if k < 6 then some (31, k + 6 * 1) else none) = if k < 6 then some (31, 6 + k) else none; rw [show k + 6 * 1 = 6 + k by omega]) dX2_init_63 (xm1 39 rfl rfl) (xm1 148 rfl rfl) rfl rfl (by decide) (by decide) (by decide) (by decide +kernel) (fun M15 g9 hk => ?_)
  have ha0 := (hk 2 1 (by decide +kernel)).trans ha0
  have kc := kc.tr hk (fun s => cnt_mn (by decide))
  generalize hx7 : M15.1 30 1 = x7
  refine r_put (n := 58) (g := 2) (i := 1) (k := 7) (t := (30, 1)) g9 (by decide +kernel) rfl (by decide +kernel) (by decide +kernel) ha0 hx7 fsX2_35 dX2_init_67 rfl rfl rfl rfl (fun M16 g9 hk => ?_)
  have ha0 := (hk 2 1 (by decide +kernel)).trans ha0
  have hx7 := (hk 30 1 (by decide +kernel)).trans hx7
  have kc := kc.tr hk (fun s => cnt_mn (by decide))
  refine x_aload_n dX2_init_70 rfl ?_
  refine x_bipush dX2_init_71 lb_6 ?_
  refine x_bipush dX2_init_73 lb_6 ?_
  refine r_mna (n := 59) (g := 32) (i := 1) (g2 := 33) (N := 6) (K := 6) (b1 := 17) (b2 := 82) g9 (by decide +kernel) rfl rfl (by decide +kernel) (by decide +kernel) (fun k => by rw [show cnE 59 32 = 1 by decide +kernel, show cnE 59 33 = 6 by decide +kernel]; show (if k < 6 then some (33, k + 6 * 1) else none) = if k < 6 then some (33, 6 + k) else none; rw [show k + 6 * 1 = 6 + k by omega]) dX2_init_75 (xm1 39 rfl rfl) (xm1 148 rfl rfl) rfl rfl (by decide) (by decide) (by decide) (by decide +kernel) (fun M17 g9 hk => ?_)
  have ha0 := (hk 2 1 (by decide +kernel)).trans ha0
  have kc := kc.tr hk (fun s => cnt_mn (by decide))
  generalize hx8 : M17.1 32 1 = x8
  refine r_put (n := 60) (g := 2) (i := 1) (k := 8) (t := (32, 1)) g9 (by decide +kernel) rfl (by decide +kernel) (by decide +kernel) ha0 hx8 fsX2_38 dX2_init_79 rfl rfl rfl rfl (fun M18 g9 hk => ?_)
  have ha0 := (hk 2 1 (by decide +kernel)).trans ha0
  have hx8 := (hk 32 1 (by decide +kernel)).trans hx8
  have kc := kc.tr hk (fun s => cnt_mn (by decide))
  refine x_aload_n dX2_init_82 rfl ?_
  refine x_iconst dX2_init_83 li_4 ?_
  refine r_arr (n := 61) (g := 23) (i := 1) (t := 0) (N := 4) (b1 := 16) (b2 := 78) g9 (by decide +kernel) rfl (by decide +kernel) dX2_init_84 rfl (by decide) rfl (by decide) (xm1 148 rfl rfl) (by decide +kernel) (fun M19 g9 hk => ?_)
  have ha0 := (hk 2 1 (by decide +kernel)).trans ha0
  have kc := kc.tr hk (fun s => cnt_mn (by decide))
  generalize hx9 : M19.1 23 1 = x9
  refine r_put (n := 62) (g := 2) (i := 1) (k := 9) (t := (23, 1)) g9 (by decide +kernel) rfl (by decide +kernel) (by decide +kernel) ha0 hx9 fsX2_41 dX2_init_86 rfl rfl rfl rfl (fun M20 g9 hk => ?_)
  have ha0 := (hk 2 1 (by decide +kernel)).trans ha0
  have hx9 := (hk 23 1 (by decide +kernel)).trans hx9
  have kc := kc.tr hk (fun s => cnt_mn (by decide))
  refine x_aload_n dX2_init_89 rfl ?_
  refine x_iconst dX2_init_90 li_4 ?_
  refine r_arr (n := 63) (g := 24) (i := 1) (t := 0) (N := 4) (b1 := 15) (b2 := 74) g9 (by decide +kernel) rfl (by decide +kernel) dX2_init_91 rfl (by decide) rfl (by decide) (xm1 148 rfl rfl) (by decide +kernel) (fun M21 g9 hk => ?_)
  have ha0 := (hk 2 1 (by decide +kernel)).trans ha0
  have kc := kc.tr hk (fun s => cnt_mn (by decide))
  generalize hx10 : M21.1 24 1 = x10
  refine r_put (n := 64) (g := 2) (i := 1) (k := 10) (t := (24, 1)) g9 (by decide +kernel) rfl (by decide +kernel) (by decide +kernel) ha0 hx10 fsX2_44 dX2_init_93 rfl rfl rfl rfl (fun M22 g9 hk => ?_)
  have ha0 := (hk 2 1 (by decide +kernel)).trans ha0
  have hx10 := (hk 24 1 (by decide +kernel)).trans hx10
  have kc := kc.tr hk (fun s => cnt_mn (by decide))
  refine x_aload_n dX2_init_96 rfl ?_
  refine x_iconst dX2_init_97 li_4 ?_
  refine r_arr (n := 65) (g := 25) (i := 1) (t := 0) (N := 4) (b1 := 14) (b2 := 70) g9 (by decide +kernel) rfl (by decide +kernel) dX2_init_98 rfl (by decide) rfl (by decide) (xm1 148 rfl rfl) (by decide +kernel) (fun M23 g9 hk => ?_)
  have ha0 := (hk 2 1 (by decide +kernel)).trans ha0
  have kc := kc.tr hk (fun s => cnt_mn (by decide))
  generalize hx11 : M23.1 25 1 = x11
  refine r_put (n := 66) (g := 2) (i := 1) (k := 11) (t := (25, 1)) g9 (by decide +kernel) rfl (by decide +kernel) (by decide +kernel) ha0 hx11 fsX2_47 dX2_init_100 rfl rfl rfl rfl (fun M24 g9 hk => ?_)
  have ha0 := (hk 2 1 (by decide +kernel)).trans ha0
  have hx11 := (hk 25 1 (by decide +kernel)).trans hx11
  have kc := kc.tr hk (fun s => cnt_mn (by decide))
  refine x_aload_n dX2_init_103 rfl ?_
  refine x_iconst dX2_init_104 li_4 ?_
  refine x_bipush dX2_init_105 lb_6 ?_
  refine r_mna (n := 67) (g := 34) (i := 1) (g2 := 35) (N := 4) (K := 6) (b1 := 9) (b2 := 42) g9 (by decide +kernel) rfl rfl (by decide +kernel) (by decide +kernel) (fun k => by rw [show cnE 67 34 = 1 by decide +kernel, show cnE 67 35 = 4 by decide +kernel]; show (if k < 4 then some (35, k + 4 * 1) else none) = if k < 4 then some (35, 4 + k) else none; rw [show k + 4 * 1 = 4 + k by omega]) dX2_init_107 (xm1 39 rfl rfl) (xm1 148 rfl rfl) rfl rfl (by decide) (by decide) (by decide) (by decide +kernel) (fun M25 g9 hk => ?_)
  have ha0 := (hk 2 1 (by decide +kernel)).trans ha0
  have kc := kc.tr hk (fun s => cnt_mn (by decide))
  generalize hx12 : M25.1 34 1 = x12
  refine r_put (n := 68) (g := 2) (i := 1) (k := 12) (t := (34, 1)) g9 (by decide +kernel) rfl (by decide +kernel) (by decide +kernel) ha0 hx12 fsX2_50 dX2_init_111 rfl rfl rfl rfl (fun M26 g9 hk => ?_)
  have ha0 := (hk 2 1 (by decide +kernel)).trans ha0
  have hx12 := (hk 34 1 (by decide +kernel)).trans hx12
  have kc := kc.tr hk (fun s => cnt_mn (by decide))
  refine x_aload_n dX2_init_114 rfl ?_
  refine x_iconst dX2_init_115 li_4 ?_
  refine r_arr (n := 69) (g := 26) (i := 1) (t := 0) (N := 4) (b1 := 8) (b2 := 38) g9 (by decide +kernel) rfl (by decide +kernel) dX2_init_116 rfl (by decide) rfl (by decide) (xm1 148 rfl rfl) (by decide +kernel) (fun M27 g9 hk => ?_)
  have ha0 := (hk 2 1 (by decide +kernel)).trans ha0
  have kc := kc.tr hk (fun s => cnt_mn (by decide))
  generalize hx13 : M27.1 26 1 = x13
  refine r_put (n := 70) (g := 2) (i := 1) (k := 13) (t := (26, 1)) g9 (by decide +kernel) rfl (by decide +kernel) (by decide +kernel) ha0 hx13 fsX2_53 dX2_init_118 rfl rfl rfl rfl (fun M28 g9 hk => ?_)
  have ha0 := (hk 2 1 (by decide +kernel)).trans ha0
  have hx13 := (hk 26 1 (by decide +kernel)).trans hx13
  have kc := kc.tr hk (fun s => cnt_mn (by decide))
  refine x_aload_n dX2_init_121 rfl ?_
  refine x_iconst dX2_init_122 li_4 ?_
  refine x_iconst dX2_init_123 li_5 ?_
  refine r_mna (n := 71) (g := 36) (i := 1) (g2 := 37) (N := 4) (K := 5) (b1 := 3) (b2 := 14) g9 (by decide +kernel) rfl rfl (by decide +kernel) (by decide +kernel) (fun k => by rw [show cnE 71 36 = 1 by decide +kernel, show cnE 71 37 = 4 by decide +kernel]; show (if k < 4 then some (37, k + 4 * 1) else none) = if k < 4 then some (37, 4 + k) else none; rw [show k + 4 * 1 = 4 + k by omega]) dX2_init_124 (xm1 39 rfl rfl) (xm1 148 rfl rfl) rfl rfl (by decide) (by decide) (by decide) (by decide +kernel) (fun M29 g9 hk => ?_)
  have ha0 := (hk 2 1 (by decide +kernel)).trans ha0
  have kc := kc.tr hk (fun s => cnt_mn (by decide))
  generalize hx14 : M29.1 36 1 = x14
  refine r_put (n := 72) (g := 2) (i := 1) (k := 14) (t := (36, 1)) g9 (by decide +kernel) rfl (by decide +kernel) (by decide +kernel) ha0 hx14 fsX2_56 dX2_init_128 rfl rfl rfl rfl (fun M30 g9 hk => ?_)
  have ha0 := (hk 2 1 (by decide +kernel)).trans ha0
  have hx14 := (hk 36 1 (by decide +kernel)).trans hx14
  have kc := kc.tr hk (fun s => cnt_mn (by decide))
  refine x_aload_n dX2_init_131 rfl ?_
  refine x_iconst dX2_init_132 li_4 ?_
  refine r_arr (n := 73) (g := 27) (i := 1) (t := 0) (N := 4) (b1 := 2) (b2 := 10) g9 (by decide +kernel) rfl (by decide +kernel) dX2_init_133 rfl (by decide) rfl (by decide) (xm1 148 rfl rfl) (by decide +kernel) (fun M31 g9 hk => ?_)
  have ha0 := (hk 2 1 (by decide +kernel)).trans ha0
  have kc := kc.tr hk (fun s => cnt_mn (by decide))
  generalize hx15 : M31.1 27 1 = x15
  refine r_put (n := 74) (g := 2) (i := 1) (k := 15) (t := (27, 1)) g9 (by decide +kernel) rfl (by decide +kernel) (by decide +kernel) ha0 hx15 fsX2_59 dX2_init_135 rfl rfl rfl rfl (fun M32 g9 hk => ?_)
  have ha0 := (hk 2 1 (by decide +kernel)).trans ha0
  have hx15 := (hk 27 1 (by decide +kernel)).trans hx15
  have kc := kc.tr hk (fun s => cnt_mn (by decide))
  refine x_aload_n dX2_init_138 rfl ?_
  refine x_iconst dX2_init_139 li_4 ?_
  refine r_arr (n := 75) (g := 28) (i := 1) (t := 0) (N := 4) (b1 := 1) (b2 := 6) g9 (by decide +kernel) rfl (by decide +kernel) dX2_init_140 rfl (by decide) rfl (by decide) (xm1 148 rfl rfl) (by decide +kernel) (fun M33 g9 hk => ?_)
  have ha0 := (hk 2 1 (by decide +kernel)).trans ha0
  have kc := kc.tr hk (fun s => cnt_mn (by decide))
  generalize hx16 : M33.1 28 1 = x16
  refine r_put (n := 76) (g := 2) (i := 1) (k := 16) (t := (28, 1)) g9 (by decide +kernel) rfl (by decide +kernel) (by decide +kernel) ha0 hx16 fsX2_62 dX2_init_142 rfl rfl rfl rfl (fun M34 g9 hk => ?_)
  have ha0 := (hk 2 1 (by decide +kernel)).trans ha0
  have hx16 := (hk 28 1 (by decide +kernel)).trans hx16
  have kc := kc.tr hk (fun s => cnt_mn (by decide))
  refine x_aload_n dX2_init_145 rfl ?_
  refine x_bipush dX2_init_146 lb_6 ?_
  refine r_arr (n := 77) (g := 29) (i := 1) (t := 0) (N := 6) (b1 := 0) (b2 := 0) g9 (by decide +kernel) rfl (by decide +kernel) dX2_init_148 rfl (by decide) rfl (by decide) (xm1 148 rfl rfl) (by decide +kernel) (fun M35 g9 hk => ?_)
  have ha0 := (hk 2 1 (by decide +kernel)).trans ha0
  have kc := kc.tr hk (fun s => cnt_mn (by decide))
  generalize hx17 : M35.1 29 1 = x17
  refine r_put (n := 78) (g := 2) (i := 1) (k := 17) (t := (29, 1)) g9 (by decide +kernel) rfl (by decide +kernel) (by decide +kernel) ha0 hx17 fsX2_65 dX2_init_150 rfl rfl rfl rfl (fun M36 g9 hk => ?_)
  have ha0 := (hk 2 1 (by decide +kernel)).trans ha0
  have hx17 := (hk 29 1 (by decide +kernel)).trans hx17
  have kc := kc.tr hk (fun s => cnt_mn (by decide))
  refine x_vret dX2_init_153 rfl ?_
  exact ⟨rfl, g9, kc⟩
set_option maxRecDepth 100000 in
set_option maxHeartbeats 4000000 in
theorem ct_X7_init_87 {G : xG} {d : Nat} {M : xM} {a0 a1 : Nat} (g9 : GSt 87 M) (ha0 : M.1 7 0 = a0) (ha1 : M.1 14 0 = a1) : Mt G vX7_init (d + 1) (0, 0) [.ref a0, .ref a1] M (qV (fun M' => GSt 88 M' ∧ KA 87 M M')) := by
  refine x_start (by decide) (Nat.le_of_ble_eq_true rfl) ?_
  have kc : KA 87 M M := KA.rf
  refine x_aload_n dX7_init_0 rfl ?_
  refine x_objinit dX7_init_1 (xm1 162 rfl rfl) (Nat.le_of_ble_eq_true rfl) ?_
  refine x_aload_n dX7_init_4 rfl ?_
  refine x_aload_n dX7_init_5 rfl ?_
  refine r_put (n := 87) (g := 7) (i := 0) (k := 0) (t := (14, 0)) g9 (by decide +kernel) rfl (by decide +kernel) (by decide +kernel) ha0 ha1 fsX7_9 dX7_init_6 rfl rfl rfl rfl (fun M1 g9 hk => ?_)
  have ha0 := (hk 7 0 (by decide +kernel)).trans ha0
  have ha1 := (hk 14 0 (by decide +kernel)).trans ha1
  have kc := kc.tr hk (fun s => cnt_mn (by decide))
  refine x_vret dX7_init_9 rfl ?_
  exact ⟨rfl, g9, kc⟩
set_option maxRecDepth 100000 in
set_option maxHeartbeats 4000000 in
theorem ct_X6_init_42 {G : xG} {d : Nat} {M : xM} {a0 a1 : Nat} (g9 : GSt 42 M) (ha0 : M.1 6 0 = a0) (ha1 : M.1 14 0 = a1) : Mt G vX6_init (d + 2) (43, 306) [.ref a0, .ref a1] M (qV (fun M' => GSt 89 M' ∧ KA 42 M M')) := by
  refine x_start (by decide) (Nat.le_of_ble_eq_true rfl) ?_
  have kc : KA 42 M M := KA.rf
  refine x_aload_n dX6_init_0 rfl ?_
  refine x_objinit dX6_init_1 (xm1 154 rfl rfl) (Nat.le_of_ble_eq_true rfl) ?_
  refine x_aload_n dX6_init_4 rfl ?_
  refine r_obj (n := 42) (g := 2) (i := 1) (cn := 2) (T := TX2) (N := 18) (b1 := 42) (b2 := 288) g9 (by decide +kernel) rfl (by decide +kernel) dX6_init_5 (xm1 155 rfl rfl) (xm1 34 rfl rfl) (xm1 2 rfl rfl) rfl rfl (by decide +kernel) rfl (by decide +kernel) (fun M1 g9 hk => ?_)
  have ha0 := (hk 6 0 (by decide +kernel)).trans ha0
  have ha1 := (hk 14 0 (by decide +kernel)).trans ha1
  have kc := kc.tr hk (fun s => cnt_mn (by decide))
  generalize hx0 : M1.1 2 1 = x0
  refine x_dup dX6_init_8 rfl ?_
  refine x_civ (b1 := 4) (b2 := 78) (ct_X2_init_43 (d := d + 0) g9 hx0) kX6_11 dX6_init_9 rfl rfl (Nat.le_of_ble_eq_true rfl) (fun M2 hq => ?_)
  obtain ⟨g9, hk⟩ := hq
  have ha0 := (hk 6 0 (by decide +kernel)).trans ha0
  have ha1 := (hk 14 0 (by decide +kernel)).trans ha1
  have hx0 := (hk 2 1 (by decide +kernel)).trans hx0
  have kc := kc.tr hk (fun s => cnt_mn (by decide))
  refine r_put (n := 79) (g := 6) (i := 0) (k := 0) (t := (2, 1)) g9 (by decide +kernel) rfl (by decide +kernel) (by decide +kernel) ha0 hx0 fsX6_12 dX6_init_12 rfl rfl rfl rfl (fun M3 g9 hk => ?_)
  have ha0 := (hk 6 0 (by decide +kernel)).trans ha0
  have ha1 := (hk 14 0 (by decide +kernel)).trans ha1
  have hx0 := (hk 2 1 (by decide +kernel)).trans hx0
  have kc := kc.tr hk (fun s => cnt_mn (by decide))
  refine x_aload_n dX6_init_15 rfl ?_
  refine x_bipush dX6_init_16 lb_24 ?_
  refine r_arr (n := 80) (g := 38) (i := 0) (t := 2) (N := 24) (b1 := 3) (b2 := 54) g9 (by decide +kernel) rfl (by decide +kernel) dX6_init_18 rfl (by decide) rfl (by decide) (xm1 185 rfl rfl) (by decide +kernel) (fun M4 g9 hk => ?_)
  have ha0 := (hk 6 0 (by decide +kernel)).trans ha0
  have ha1 := (hk 14 0 (by decide +kernel)).trans ha1
  have kc := kc.tr hk (fun s => cnt_mn (by decide))
  generalize hx1 : M4.1 38 0 = x1
  refine r_put (n := 81) (g := 6) (i := 0) (k := 4) (t := (38, 0)) g9 (by decide +kernel) rfl (by decide +kernel) (by decide +kernel) ha0 hx1 fsX6_18 dX6_init_20 rfl rfl rfl rfl (fun M5 g9 hk => ?_)
  have ha0 := (hk 6 0 (by decide +kernel)).trans ha0
  have ha1 := (hk 14 0 (by decide +kernel)).trans ha1
  have hx1 := (hk 38 0 (by decide +kernel)).trans hx1
  have kc := kc.tr hk (fun s => cnt_mn (by decide))
  refine x_aload_n dX6_init_23 rfl ?_
  refine x_bipush dX6_init_24 lb_24 ?_
  refine r_arr (n := 82) (g := 39) (i := 0) (t := 0) (N := 24) (b1 := 2) (b2 := 30) g9 (by decide +kernel) rfl (by decide +kernel) dX6_init_26 rfl (by decide) rfl (by decide) (xm1 148 rfl rfl) (by decide +kernel) (fun M6 g9 hk => ?_)
  have ha0 := (hk 6 0 (by decide +kernel)).trans ha0
  have ha1 := (hk 14 0 (by decide +kernel)).trans ha1
  have kc := kc.tr hk (fun s => cnt_mn (by decide))
  generalize hx2 : M6.1 39 0 = x2
  refine r_put (n := 83) (g := 6) (i := 0) (k := 5) (t := (39, 0)) g9 (by decide +kernel) rfl (by decide +kernel) (by decide +kernel) ha0 hx2 fsX6_22 dX6_init_28 rfl rfl rfl rfl (fun M7 g9 hk => ?_)
  have ha0 := (hk 6 0 (by decide +kernel)).trans ha0
  have ha1 := (hk 14 0 (by decide +kernel)).trans ha1
  have hx2 := (hk 39 0 (by decide +kernel)).trans hx2
  have kc := kc.tr hk (fun s => cnt_mn (by decide))
  refine x_aload_n dX6_init_31 rfl ?_
  refine x_bipush dX6_init_32 lb_24 ?_
  refine r_arr (n := 84) (g := 40) (i := 0) (t := 0) (N := 24) (b1 := 1) (b2 := 6) g9 (by decide +kernel) rfl (by decide +kernel) dX6_init_34 rfl (by decide) rfl (by decide) (xm1 148 rfl rfl) (by decide +kernel) (fun M8 g9 hk => ?_)
  have ha0 := (hk 6 0 (by decide +kernel)).trans ha0
  have ha1 := (hk 14 0 (by decide +kernel)).trans ha1
  have kc := kc.tr hk (fun s => cnt_mn (by decide))
  generalize hx3 : M8.1 40 0 = x3
  refine r_put (n := 85) (g := 6) (i := 0) (k := 6) (t := (40, 0)) g9 (by decide +kernel) rfl (by decide +kernel) (by decide +kernel) ha0 hx3 fsX6_26 dX6_init_36 rfl rfl rfl rfl (fun M9 g9 hk => ?_)
  have ha0 := (hk 6 0 (by decide +kernel)).trans ha0
  have ha1 := (hk 14 0 (by decide +kernel)).trans ha1
  have hx3 := (hk 40 0 (by decide +kernel)).trans hx3
  have kc := kc.tr hk (fun s => cnt_mn (by decide))
  refine x_aload_n dX6_init_39 rfl ?_
  refine r_obj (n := 86) (g := 7) (i := 0) (cn := 7) (T := TX7) (N := 6) (b1 := 0) (b2 := 0) g9 (by decide +kernel) rfl (by decide +kernel) dX6_init_40 (xm1 157 rfl rfl) (xm1 158 rfl rfl) (xm1 4 rfl rfl) rfl rfl (by decide +kernel) rfl (by decide +kernel) (fun M10 g9 hk => ?_)
  have ha0 := (hk 6 0 (by decide +kernel)).trans ha0
  have ha1 := (hk 14 0 (by decide +kernel)).trans ha1
  have kc := kc.tr hk (fun s => cnt_mn (by decide))
  generalize hx4 : M10.1 7 0 = x4
  refine x_dup dX6_init_43 rfl ?_
  refine x_aload_n dX6_init_44 rfl ?_
  refine x_civ (b1 := 0) (b2 := 0) (ct_X7_init_87 (d := d + 0) g9 hx4 ha1) kX6_31 dX6_init_45 rfl rfl (Nat.le_of_ble_eq_true rfl) (fun M11 hq => ?_)
  obtain ⟨g9, hk⟩ := hq
  have ha0 := (hk 6 0 (by decide +kernel)).trans ha0
  have ha1 := (hk 14 0 (by decide +kernel)).trans ha1
  have hx4 := (hk 7 0 (by decide +kernel)).trans hx4
  have kc := kc.tr hk (fun s => cnt_mn (by decide))
  refine r_put (n := 88) (g := 6) (i := 0) (k := 3) (t := (7, 0)) g9 (by decide +kernel) rfl (by decide +kernel) (by decide +kernel) ha0 hx4 fsX6_34 dX6_init_48 rfl rfl rfl rfl (fun M12 g9 hk => ?_)
  have ha0 := (hk 6 0 (by decide +kernel)).trans ha0
  have ha1 := (hk 14 0 (by decide +kernel)).trans ha1
  have hx4 := (hk 7 0 (by decide +kernel)).trans hx4
  have kc := kc.tr hk (fun s => cnt_mn (by decide))
  refine x_vret dX6_init_51 rfl ?_
  exact ⟨rfl, g9, kc⟩
set_option maxRecDepth 100000 in
set_option maxHeartbeats 4000000 in
theorem ct_X1_init_91 {G : xG} {d : Nat} {M : xM} {a0 a1 : Nat} (g9 : GSt 91 M) (ha0 : M.1 1 0 = a0) (ha1 : M.1 2 0 = a1) : Mt G vX1_init (d + 1) (1, 6) [.ref a0, .ref a1] M (qV (fun M' => GSt 94 M' ∧ KA 91 M M')) := by
  refine x_start (by decide) (Nat.le_of_ble_eq_true rfl) ?_
  have kc : KA 91 M M := KA.rf
  refine x_aload_n dX1_init_0 rfl ?_
  refine x_objinit dX1_init_1 (xm1 225 rfl rfl) (Nat.le_of_ble_eq_true rfl) ?_
  refine x_aload_n dX1_init_4 rfl ?_
  refine x_bipush dX1_init_5 lb_6 ?_
  refine r_arr (n := 91) (g := 41) (i := 0) (t := 0) (N := 6) (b1 := 0) (b2 := 0) g9 (by decide +kernel) rfl (by decide +kernel) dX1_init_7 rfl (by decide) rfl (by decide) (xm1 148 rfl rfl) (by decide +kernel) (fun M1 g9 hk => ?_)
  have ha0 := (hk 1 0 (by decide +kernel)).trans ha0
  have ha1 := (hk 2 0 (by decide +kernel)).trans ha1
  have kc := kc.tr hk (fun s => cnt_mn (by decide))
  generalize hx0 : M1.1 41 0 = x0
  refine r_put (n := 92) (g := 1) (i := 0) (k := 1) (t := (41, 0)) g9 (by decide +kernel) rfl (by decide +kernel) (by decide +kernel) ha0 hx0 fsX1_9 dX1_init_9 rfl rfl rfl rfl (fun M2 g9 hk => ?_)
  have ha0 := (hk 1 0 (by decide +kernel)).trans ha0
  have ha1 := (hk 2 0 (by decide +kernel)).trans ha1
  have hx0 := (hk 41 0 (by decide +kernel)).trans hx0
  have kc := kc.tr hk (fun s => cnt_mn (by decide))
  refine x_aload_n dX1_init_12 rfl ?_
  refine x_aload_n dX1_init_13 rfl ?_
  refine r_put (n := 93) (g := 1) (i := 0) (k := 0) (t := (2, 0)) g9 (by decide +kernel) rfl (by decide +kernel) (by decide +kernel) ha0 ha1 fsX1_15 dX1_init_14 rfl rfl rfl rfl (fun M3 g9 hk => ?_)
  have ha0 := (hk 1 0 (by decide +kernel)).trans ha0
  have ha1 := (hk 2 0 (by decide +kernel)).trans ha1
  have kc := kc.tr hk (fun s => cnt_mn (by decide))
  refine x_vret dX1_init_17 rfl ?_
  exact ⟨rfl, g9, kc⟩
set_option maxRecDepth 100000 in
set_option maxHeartbeats 4000000 in
theorem ct_X4_init_98 {G : xG} {d : Nat} {M : xM} {a0 : Nat} (g9 : GSt 98 M) (ha0 : M.1 4 0 = a0) : Mt G vX4_init (d + 1) (1, 6) [.ref a0] M (qV (fun M' => GSt 100 M' ∧ KA 98 M M')) := by
  refine x_start (by decide) (Nat.le_of_ble_eq_true rfl) ?_
  have kc : KA 98 M M := KA.rf
  refine x_aload_n dX4_init_0 rfl ?_
  refine x_objinit dX4_init_1 (xm2 12 rfl rfl) (Nat.le_of_ble_eq_true rfl) ?_
  refine x_aload_n dX4_init_4 rfl ?_
  refine x_bipush dX4_init_5 lb_6 ?_
  refine r_arr (n := 98) (g := 43) (i := 0) (t := 0) (N := 6) (b1 := 0) (b2 := 0) g9 (by decide +kernel) rfl (by decide +kernel) dX4_init_7 rfl (by decide) rfl (by decide) (xm1 148 rfl rfl) (by decide +kernel) (fun M1 g9 hk => ?_)
  have ha0 := (hk 4 0 (by decide +kernel)).trans ha0
  have kc := kc.tr hk (fun s => cnt_mn (by decide))
  generalize hx0 : M1.1 43 0 = x0
  refine r_put (n := 99) (g := 4) (i := 0) (k := 3) (t := (43, 0)) g9 (by decide +kernel) rfl (by decide +kernel) (by decide +kernel) ha0 hx0 fsX4_9 dX4_init_9 rfl rfl rfl rfl (fun M2 g9 hk => ?_)
  have ha0 := (hk 4 0 (by decide +kernel)).trans ha0
  have hx0 := (hk 43 0 (by decide +kernel)).trans hx0
  have kc := kc.tr hk (fun s => cnt_mn (by decide))
  refine x_vret dX4_init_12 rfl ?_
  exact ⟨rfl, g9, kc⟩
set_option maxRecDepth 100000 in
set_option maxHeartbeats 4000000 in
theorem ct_X4_init_102 {G : xG} {d : Nat} {M : xM} {a0 : Nat} (g9 : GSt 102 M) (ha0 : M.1 4 1 = a0) : Mt G vX4_init (d + 1) (1, 6) [.ref a0] M (qV (fun M' => GSt 104 M' ∧ KA 102 M M')) := by
  refine x_start (by decide) (Nat.le_of_ble_eq_true rfl) ?_
  have kc : KA 102 M M := KA.rf
  refine x_aload_n dX4_init_0 rfl ?_
  refine x_objinit dX4_init_1 (xm2 12 rfl rfl) (Nat.le_of_ble_eq_true rfl) ?_
  refine x_aload_n dX4_init_4 rfl ?_
  refine x_bipush dX4_init_5 lb_6 ?_
  refine r_arr (n := 102) (g := 43) (i := 1) (t := 0) (N := 6) (b1 := 0) (b2 := 0) g9 (by decide +kernel) rfl (by decide +kernel) dX4_init_7 rfl (by decide) rfl (by decide) (xm1 148 rfl rfl) (by decide +kernel) (fun M1 g9 hk => ?_)
  have ha0 := (hk 4 1 (by decide +kernel)).trans ha0
  have kc := kc.tr hk (fun s => cnt_mn (by decide))
  generalize hx0 : M1.1 43 1 = x0
  refine r_put (n := 103) (g := 4) (i := 1) (k := 3) (t := (43, 1)) g9 (by decide +kernel) rfl (by decide +kernel) (by decide +kernel) ha0 hx0 fsX4_9 dX4_init_9 rfl rfl rfl rfl (fun M2 g9 hk => ?_)
  have ha0 := (hk 4 1 (by decide +kernel)).trans ha0
  have hx0 := (hk 43 1 (by decide +kernel)).trans hx0
  have kc := kc.tr hk (fun s => cnt_mn (by decide))
  refine x_vret dX4_init_12 rfl ?_
  exact ⟨rfl, g9, kc⟩
set_option maxRecDepth 100000 in
set_option maxHeartbeats 4000000 in
theorem ct_X4_init_106 {G : xG} {d : Nat} {M : xM} {a0 : Nat} (g9 : GSt 106 M) (ha0 : M.1 4 2 = a0) : Mt G vX4_init (d + 1) (1, 6) [.ref a0] M (qV (fun M' => GSt 108 M' ∧ KA 106 M M')) := by
  refine x_start (by decide) (Nat.le_of_ble_eq_true rfl) ?_
  have kc : KA 106 M M := KA.rf
  refine x_aload_n dX4_init_0 rfl ?_
  refine x_objinit dX4_init_1 (xm2 12 rfl rfl) (Nat.le_of_ble_eq_true rfl) ?_
  refine x_aload_n dX4_init_4 rfl ?_
  refine x_bipush dX4_init_5 lb_6 ?_
  refine r_arr (n := 106) (g := 43) (i := 2) (t := 0) (N := 6) (b1 := 0) (b2 := 0) g9 (by decide +kernel) rfl (by decide +kernel) dX4_init_7 rfl (by decide) rfl (by decide) (xm1 148 rfl rfl) (by decide +kernel) (fun M1 g9 hk => ?_)
  have ha0 := (hk 4 2 (by decide +kernel)).trans ha0
  have kc := kc.tr hk (fun s => cnt_mn (by decide))
  generalize hx0 : M1.1 43 2 = x0
  refine r_put (n := 107) (g := 4) (i := 2) (k := 3) (t := (43, 2)) g9 (by decide +kernel) rfl (by decide +kernel) (by decide +kernel) ha0 hx0 fsX4_9 dX4_init_9 rfl rfl rfl rfl (fun M2 g9 hk => ?_)
  have ha0 := (hk 4 2 (by decide +kernel)).trans ha0
  have hx0 := (hk 43 2 (by decide +kernel)).trans hx0
  have kc := kc.tr hk (fun s => cnt_mn (by decide))
  refine x_vret dX4_init_12 rfl ?_
  exact ⟨rfl, g9, kc⟩
set_option maxRecDepth 100000 in
set_option maxHeartbeats 4000000 in
theorem ct_X4_init_110 {G : xG} {d : Nat} {M : xM} {a0 : Nat} (g9 : GSt 110 M) (ha0 : M.1 4 3 = a0) : Mt G vX4_init (d + 1) (1, 6) [.ref a0] M (qV (fun M' => GSt 112 M' ∧ KA 110 M M')) := by
  refine x_start (by decide) (Nat.le_of_ble_eq_true rfl) ?_
  have kc : KA 110 M M := KA.rf
  refine x_aload_n dX4_init_0 rfl ?_
  refine x_objinit dX4_init_1 (xm2 12 rfl rfl) (Nat.le_of_ble_eq_true rfl) ?_
  refine x_aload_n dX4_init_4 rfl ?_
  refine x_bipush dX4_init_5 lb_6 ?_
  refine r_arr (n := 110) (g := 43) (i := 3) (t := 0) (N := 6) (b1 := 0) (b2 := 0) g9 (by decide +kernel) rfl (by decide +kernel) dX4_init_7 rfl (by decide) rfl (by decide) (xm1 148 rfl rfl) (by decide +kernel) (fun M1 g9 hk => ?_)
  have ha0 := (hk 4 3 (by decide +kernel)).trans ha0
  have kc := kc.tr hk (fun s => cnt_mn (by decide))
  generalize hx0 : M1.1 43 3 = x0
  refine r_put (n := 111) (g := 4) (i := 3) (k := 3) (t := (43, 3)) g9 (by decide +kernel) rfl (by decide +kernel) (by decide +kernel) ha0 hx0 fsX4_9 dX4_init_9 rfl rfl rfl rfl (fun M2 g9 hk => ?_)
  have ha0 := (hk 4 3 (by decide +kernel)).trans ha0
  have hx0 := (hk 43 3 (by decide +kernel)).trans hx0
  have kc := kc.tr hk (fun s => cnt_mn (by decide))
  refine x_vret dX4_init_12 rfl ?_
  exact ⟨rfl, g9, kc⟩
set_option maxRecDepth 100000 in
set_option maxHeartbeats 4000000 in
theorem ct_X0_people_96 {G : xG} {d : Nat} {M : xM} (g9 : GSt 96 M) : Mt G vX0_people (d + 2) (9, 44) [.int (nI 4)] M (qR (fun r M' => r = M'.1 44 0 ∧ GSt 113 M' ∧ KA 96 M M')) := by
  refine x_start (by decide) (Nat.le_of_ble_eq_true rfl) ?_
  have kc : KA 96 M M := KA.rf
  refine x_iload_n dX0_people_0 rfl ?_
  refine r_anew (n := 96) (g := 44) (i := 0) (N := 4) (b1 := 8) (b2 := 40) g9 (by decide +kernel) rfl (by decide +kernel) dX0_people_1 (xm2 6 rfl rfl) rfl (by decide) (by decide +kernel) (fun M1 g9 hk => ?_)
  have kc := kc.tr hk (fun s => cnt_mn (by decide))
  generalize hx0 : M1.1 44 0 = x0
  refine x_astore_n dX0_people_4 (by decide) rfl ?_
  refine x_iconst dX0_people_5 li_0 ?_
  refine x_istore_n dX0_people_6 (by decide) rfl ?_
  refine x_iload_n dX0_people_7 rfl ?_
  refine x_iload_n dX0_people_8 rfl ?_
  refine x_icN_ge 28 dX0_people_9 (by decide) (by decide) (by decide) (fun h9 => absurd h9 (by decide)) (fun h9 => ?_)
  refine x_aload_n dX0_people_12 rfl ?_
  refine x_iload_n dX0_people_13 rfl ?_
  refine r_obj (n := 97) (g := 4) (i := 0) (cn := 4) (T := TX4) (N := 4) (b1 := 7) (b2 := 36) g9 (by decide +kernel) rfl (by decide +kernel) dX0_people_14 (xm2 6 rfl rfl) (xm2 8 rfl rfl) (xm1 7 rfl rfl) rfl rfl (by decide +kernel) rfl (by decide +kernel) (fun M2 g9 hk => ?_)
  have hx0 := (hk 44 0 (by decide +kernel)).trans hx0
  have kc := kc.tr hk (fun s => cnt_mn (by decide))
  generalize hx1 : M2.1 4 0 = x1
  refine x_dup dX0_people_17 rfl ?_
  refine x_civ (b1 := 6) (b2 := 30) (ct_X4_init_98 (d := d + 0) g9 hx1) kX0_35 dX0_people_18 rfl rfl (Nat.le_of_ble_eq_true rfl) (fun M3 hq => ?_)
  obtain ⟨g9, hk⟩ := hq
  have hx0 := (hk 44 0 (by decide +kernel)).trans hx0
  have hx1 := (hk 4 0 (by decide +kernel)).trans hx1
  have kc := kc.tr hk (fun s => cnt_mn (by decide))
  refine r_aast (n := 100) (g := 44) (i := 0) (k := 0) (j := 0) (N := 4) g9 (by decide +kernel) rfl (by decide +kernel) (by decide +kernel) hx0 hx1 dX0_people_21 rfl (by decide) (by decide) (fun M4 g9 hk => ?_)
  have hx0 := (hk 44 0 (by decide +kernel)).trans hx0
  have hx1 := (hk 4 0 (by decide +kernel)).trans hx1
  have kc := kc.tr hk (fun s => cnt_mn (by decide))
  refine x_iincN 1 dX0_people_22 li_1 rfl (by decide) rfl ?_
  refine x_goto 7 dX0_people_25 (by decide) ?_
  refine x_iload_n dX0_people_7 rfl ?_
  refine x_iload_n dX0_people_8 rfl ?_
  refine x_icN_ge 28 dX0_people_9 (by decide) (by decide) (by decide) (fun h9 => absurd h9 (by decide)) (fun h9 => ?_)
  refine x_aload_n dX0_people_12 rfl ?_
  refine x_iload_n dX0_people_13 rfl ?_
  refine r_obj (n := 101) (g := 4) (i := 1) (cn := 4) (T := TX4) (N := 4) (b1 := 5) (b2 := 26) g9 (by decide +kernel) rfl (by decide +kernel) dX0_people_14 (xm2 6 rfl rfl) (xm2 8 rfl rfl) (xm1 7 rfl rfl) rfl rfl (by decide +kernel) rfl (by decide +kernel) (fun M5 g9 hk => ?_)
  have hx0 := (hk 44 0 (by decide +kernel)).trans hx0
  have kc := kc.tr hk (fun s => cnt_mn (by decide))
  generalize hx2 : M5.1 4 1 = x2
  refine x_dup dX0_people_17 rfl ?_
  refine x_civ (b1 := 4) (b2 := 20) (ct_X4_init_102 (d := d + 0) g9 hx2) kX0_35 dX0_people_18 rfl rfl (Nat.le_of_ble_eq_true rfl) (fun M6 hq => ?_)
  obtain ⟨g9, hk⟩ := hq
  have hx0 := (hk 44 0 (by decide +kernel)).trans hx0
  have hx2 := (hk 4 1 (by decide +kernel)).trans hx2
  have kc := kc.tr hk (fun s => cnt_mn (by decide))
  refine r_aast (n := 104) (g := 44) (i := 0) (k := 1) (j := 1) (N := 4) g9 (by decide +kernel) rfl (by decide +kernel) (by decide +kernel) hx0 hx2 dX0_people_21 rfl (by decide) (by decide) (fun M7 g9 hk => ?_)
  have hx0 := (hk 44 0 (by decide +kernel)).trans hx0
  have hx2 := (hk 4 1 (by decide +kernel)).trans hx2
  have kc := kc.tr hk (fun s => cnt_mn (by decide))
  refine x_iincN 1 dX0_people_22 li_1 rfl (by decide) rfl ?_
  refine x_goto 7 dX0_people_25 (by decide) ?_
  refine x_iload_n dX0_people_7 rfl ?_
  refine x_iload_n dX0_people_8 rfl ?_
  refine x_icN_ge 28 dX0_people_9 (by decide) (by decide) (by decide) (fun h9 => absurd h9 (by decide)) (fun h9 => ?_)
  refine x_aload_n dX0_people_12 rfl ?_
  refine x_iload_n dX0_people_13 rfl ?_
  refine r_obj (n := 105) (g := 4) (i := 2) (cn := 4) (T := TX4) (N := 4) (b1 := 3) (b2 := 16) g9 (by decide +kernel) rfl (by decide +kernel) dX0_people_14 (xm2 6 rfl rfl) (xm2 8 rfl rfl) (xm1 7 rfl rfl) rfl rfl (by decide +kernel) rfl (by decide +kernel) (fun M8 g9 hk => ?_)
  have hx0 := (hk 44 0 (by decide +kernel)).trans hx0
  have kc := kc.tr hk (fun s => cnt_mn (by decide))
  generalize hx3 : M8.1 4 2 = x3
  refine x_dup dX0_people_17 rfl ?_
  refine x_civ (b1 := 2) (b2 := 10) (ct_X4_init_106 (d := d + 0) g9 hx3) kX0_35 dX0_people_18 rfl rfl (Nat.le_of_ble_eq_true rfl) (fun M9 hq => ?_)
  obtain ⟨g9, hk⟩ := hq
  have hx0 := (hk 44 0 (by decide +kernel)).trans hx0
  have hx3 := (hk 4 2 (by decide +kernel)).trans hx3
  have kc := kc.tr hk (fun s => cnt_mn (by decide))
  refine r_aast (n := 108) (g := 44) (i := 0) (k := 2) (j := 2) (N := 4) g9 (by decide +kernel) rfl (by decide +kernel) (by decide +kernel) hx0 hx3 dX0_people_21 rfl (by decide) (by decide) (fun M10 g9 hk => ?_)
  have hx0 := (hk 44 0 (by decide +kernel)).trans hx0
  have hx3 := (hk 4 2 (by decide +kernel)).trans hx3
  have kc := kc.tr hk (fun s => cnt_mn (by decide))
  refine x_iincN 1 dX0_people_22 li_1 rfl (by decide) rfl ?_
  refine x_goto 7 dX0_people_25 (by decide) ?_
  refine x_iload_n dX0_people_7 rfl ?_
  refine x_iload_n dX0_people_8 rfl ?_
  refine x_icN_ge 28 dX0_people_9 (by decide) (by decide) (by decide) (fun h9 => absurd h9 (by decide)) (fun h9 => ?_)
  refine x_aload_n dX0_people_12 rfl ?_
  refine x_iload_n dX0_people_13 rfl ?_
  refine r_obj (n := 109) (g := 4) (i := 3) (cn := 4) (T := TX4) (N := 4) (b1 := 1) (b2 := 6) g9 (by decide +kernel) rfl (by decide +kernel) dX0_people_14 (xm2 6 rfl rfl) (xm2 8 rfl rfl) (xm1 7 rfl rfl) rfl rfl (by decide +kernel) rfl (by decide +kernel) (fun M11 g9 hk => ?_)
  have hx0 := (hk 44 0 (by decide +kernel)).trans hx0
  have kc := kc.tr hk (fun s => cnt_mn (by decide))
  generalize hx4 : M11.1 4 3 = x4
  refine x_dup dX0_people_17 rfl ?_
  refine x_civ (b1 := 0) (b2 := 0) (ct_X4_init_110 (d := d + 0) g9 hx4) kX0_35 dX0_people_18 rfl rfl (Nat.le_of_ble_eq_true rfl) (fun M12 hq => ?_)
  obtain ⟨g9, hk⟩ := hq
  have hx0 := (hk 44 0 (by decide +kernel)).trans hx0
  have hx4 := (hk 4 3 (by decide +kernel)).trans hx4
  have kc := kc.tr hk (fun s => cnt_mn (by decide))
  refine r_aast (n := 112) (g := 44) (i := 0) (k := 3) (j := 3) (N := 4) g9 (by decide +kernel) rfl (by decide +kernel) (by decide +kernel) hx0 hx4 dX0_people_21 rfl (by decide) (by decide) (fun M13 g9 hk => ?_)
  have hx0 := (hk 44 0 (by decide +kernel)).trans hx0
  have hx4 := (hk 4 3 (by decide +kernel)).trans hx4
  have kc := kc.tr hk (fun s => cnt_mn (by decide))
  refine x_iincN 1 dX0_people_22 li_1 rfl (by decide) rfl ?_
  refine x_goto 7 dX0_people_25 (by decide) ?_
  refine x_iload_n dX0_people_7 rfl ?_
  refine x_iload_n dX0_people_8 rfl ?_
  refine x_icN_ge 28 dX0_people_9 (by decide) (by decide) (by decide) (fun h9 => ?_) (fun h9 => absurd h9 (by decide))
  refine x_aload_n dX0_people_28 rfl ?_
  refine x_aret dX0_people_29 rfl (Or.inr ⟨_, rfl⟩) ?_
  exact ⟨_, rfl, hx0.symm, g9, kc⟩
set_option maxRecDepth 100000 in
set_option maxHeartbeats 4000000 in
theorem ct_X4_init_116 {G : xG} {d : Nat} {M : xM} {a0 : Nat} (g9 : GSt 116 M) (ha0 : M.1 4 4 = a0) : Mt G vX4_init (d + 1) (1, 6) [.ref a0] M (qV (fun M' => GSt 118 M' ∧ KA 116 M M')) := by
  refine x_start (by decide) (Nat.le_of_ble_eq_true rfl) ?_
  have kc : KA 116 M M := KA.rf
  refine x_aload_n dX4_init_0 rfl ?_
  refine x_objinit dX4_init_1 (xm2 12 rfl rfl) (Nat.le_of_ble_eq_true rfl) ?_
  refine x_aload_n dX4_init_4 rfl ?_
  refine x_bipush dX4_init_5 lb_6 ?_
  refine r_arr (n := 116) (g := 43) (i := 4) (t := 0) (N := 6) (b1 := 0) (b2 := 0) g9 (by decide +kernel) rfl (by decide +kernel) dX4_init_7 rfl (by decide) rfl (by decide) (xm1 148 rfl rfl) (by decide +kernel) (fun M1 g9 hk => ?_)
  have ha0 := (hk 4 4 (by decide +kernel)).trans ha0
  have kc := kc.tr hk (fun s => cnt_mn (by decide))
  generalize hx0 : M1.1 43 4 = x0
  refine r_put (n := 117) (g := 4) (i := 4) (k := 3) (t := (43, 4)) g9 (by decide +kernel) rfl (by decide +kernel) (by decide +kernel) ha0 hx0 fsX4_9 dX4_init_9 rfl rfl rfl rfl (fun M2 g9 hk => ?_)
  have ha0 := (hk 4 4 (by decide +kernel)).trans ha0
  have hx0 := (hk 43 4 (by decide +kernel)).trans hx0
  have kc := kc.tr hk (fun s => cnt_mn (by decide))
  refine x_vret dX4_init_12 rfl ?_
  exact ⟨rfl, g9, kc⟩
set_option maxRecDepth 100000 in
set_option maxHeartbeats 4000000 in
theorem ct_X4_init_120 {G : xG} {d : Nat} {M : xM} {a0 : Nat} (g9 : GSt 120 M) (ha0 : M.1 4 5 = a0) : Mt G vX4_init (d + 1) (1, 6) [.ref a0] M (qV (fun M' => GSt 122 M' ∧ KA 120 M M')) := by
  refine x_start (by decide) (Nat.le_of_ble_eq_true rfl) ?_
  have kc : KA 120 M M := KA.rf
  refine x_aload_n dX4_init_0 rfl ?_
  refine x_objinit dX4_init_1 (xm2 12 rfl rfl) (Nat.le_of_ble_eq_true rfl) ?_
  refine x_aload_n dX4_init_4 rfl ?_
  refine x_bipush dX4_init_5 lb_6 ?_
  refine r_arr (n := 120) (g := 43) (i := 5) (t := 0) (N := 6) (b1 := 0) (b2 := 0) g9 (by decide +kernel) rfl (by decide +kernel) dX4_init_7 rfl (by decide) rfl (by decide) (xm1 148 rfl rfl) (by decide +kernel) (fun M1 g9 hk => ?_)
  have ha0 := (hk 4 5 (by decide +kernel)).trans ha0
  have kc := kc.tr hk (fun s => cnt_mn (by decide))
  generalize hx0 : M1.1 43 5 = x0
  refine r_put (n := 121) (g := 4) (i := 5) (k := 3) (t := (43, 5)) g9 (by decide +kernel) rfl (by decide +kernel) (by decide +kernel) ha0 hx0 fsX4_9 dX4_init_9 rfl rfl rfl rfl (fun M2 g9 hk => ?_)
  have ha0 := (hk 4 5 (by decide +kernel)).trans ha0
  have hx0 := (hk 43 5 (by decide +kernel)).trans hx0
  have kc := kc.tr hk (fun s => cnt_mn (by decide))
  refine x_vret dX4_init_12 rfl ?_
  exact ⟨rfl, g9, kc⟩
set_option maxRecDepth 100000 in
set_option maxHeartbeats 4000000 in
theorem ct_X4_init_124 {G : xG} {d : Nat} {M : xM} {a0 : Nat} (g9 : GSt 124 M) (ha0 : M.1 4 6 = a0) : Mt G vX4_init (d + 1) (1, 6) [.ref a0] M (qV (fun M' => GSt 126 M' ∧ KA 124 M M')) := by
  refine x_start (by decide) (Nat.le_of_ble_eq_true rfl) ?_
  have kc : KA 124 M M := KA.rf
  refine x_aload_n dX4_init_0 rfl ?_
  refine x_objinit dX4_init_1 (xm2 12 rfl rfl) (Nat.le_of_ble_eq_true rfl) ?_
  refine x_aload_n dX4_init_4 rfl ?_
  refine x_bipush dX4_init_5 lb_6 ?_
  refine r_arr (n := 124) (g := 43) (i := 6) (t := 0) (N := 6) (b1 := 0) (b2 := 0) g9 (by decide +kernel) rfl (by decide +kernel) dX4_init_7 rfl (by decide) rfl (by decide) (xm1 148 rfl rfl) (by decide +kernel) (fun M1 g9 hk => ?_)
  have ha0 := (hk 4 6 (by decide +kernel)).trans ha0
  have kc := kc.tr hk (fun s => cnt_mn (by decide))
  generalize hx0 : M1.1 43 6 = x0
  refine r_put (n := 125) (g := 4) (i := 6) (k := 3) (t := (43, 6)) g9 (by decide +kernel) rfl (by decide +kernel) (by decide +kernel) ha0 hx0 fsX4_9 dX4_init_9 rfl rfl rfl rfl (fun M2 g9 hk => ?_)
  have ha0 := (hk 4 6 (by decide +kernel)).trans ha0
  have hx0 := (hk 43 6 (by decide +kernel)).trans hx0
  have kc := kc.tr hk (fun s => cnt_mn (by decide))
  refine x_vret dX4_init_12 rfl ?_
  exact ⟨rfl, g9, kc⟩
set_option maxRecDepth 100000 in
set_option maxHeartbeats 4000000 in
theorem ct_X4_init_128 {G : xG} {d : Nat} {M : xM} {a0 : Nat} (g9 : GSt 128 M) (ha0 : M.1 4 7 = a0) : Mt G vX4_init (d + 1) (1, 6) [.ref a0] M (qV (fun M' => GSt 130 M' ∧ KA 128 M M')) := by
  refine x_start (by decide) (Nat.le_of_ble_eq_true rfl) ?_
  have kc : KA 128 M M := KA.rf
  refine x_aload_n dX4_init_0 rfl ?_
  refine x_objinit dX4_init_1 (xm2 12 rfl rfl) (Nat.le_of_ble_eq_true rfl) ?_
  refine x_aload_n dX4_init_4 rfl ?_
  refine x_bipush dX4_init_5 lb_6 ?_
  refine r_arr (n := 128) (g := 43) (i := 7) (t := 0) (N := 6) (b1 := 0) (b2 := 0) g9 (by decide +kernel) rfl (by decide +kernel) dX4_init_7 rfl (by decide) rfl (by decide) (xm1 148 rfl rfl) (by decide +kernel) (fun M1 g9 hk => ?_)
  have ha0 := (hk 4 7 (by decide +kernel)).trans ha0
  have kc := kc.tr hk (fun s => cnt_mn (by decide))
  generalize hx0 : M1.1 43 7 = x0
  refine r_put (n := 129) (g := 4) (i := 7) (k := 3) (t := (43, 7)) g9 (by decide +kernel) rfl (by decide +kernel) (by decide +kernel) ha0 hx0 fsX4_9 dX4_init_9 rfl rfl rfl rfl (fun M2 g9 hk => ?_)
  have ha0 := (hk 4 7 (by decide +kernel)).trans ha0
  have hx0 := (hk 43 7 (by decide +kernel)).trans hx0
  have kc := kc.tr hk (fun s => cnt_mn (by decide))
  refine x_vret dX4_init_12 rfl ?_
  exact ⟨rfl, g9, kc⟩
set_option maxRecDepth 100000 in
set_option maxHeartbeats 4000000 in
theorem ct_X4_init_132 {G : xG} {d : Nat} {M : xM} {a0 : Nat} (g9 : GSt 132 M) (ha0 : M.1 4 8 = a0) : Mt G vX4_init (d + 1) (1, 6) [.ref a0] M (qV (fun M' => GSt 134 M' ∧ KA 132 M M')) := by
  refine x_start (by decide) (Nat.le_of_ble_eq_true rfl) ?_
  have kc : KA 132 M M := KA.rf
  refine x_aload_n dX4_init_0 rfl ?_
  refine x_objinit dX4_init_1 (xm2 12 rfl rfl) (Nat.le_of_ble_eq_true rfl) ?_
  refine x_aload_n dX4_init_4 rfl ?_
  refine x_bipush dX4_init_5 lb_6 ?_
  refine r_arr (n := 132) (g := 43) (i := 8) (t := 0) (N := 6) (b1 := 0) (b2 := 0) g9 (by decide +kernel) rfl (by decide +kernel) dX4_init_7 rfl (by decide) rfl (by decide) (xm1 148 rfl rfl) (by decide +kernel) (fun M1 g9 hk => ?_)
  have ha0 := (hk 4 8 (by decide +kernel)).trans ha0
  have kc := kc.tr hk (fun s => cnt_mn (by decide))
  generalize hx0 : M1.1 43 8 = x0
  refine r_put (n := 133) (g := 4) (i := 8) (k := 3) (t := (43, 8)) g9 (by decide +kernel) rfl (by decide +kernel) (by decide +kernel) ha0 hx0 fsX4_9 dX4_init_9 rfl rfl rfl rfl (fun M2 g9 hk => ?_)
  have ha0 := (hk 4 8 (by decide +kernel)).trans ha0
  have hx0 := (hk 43 8 (by decide +kernel)).trans hx0
  have kc := kc.tr hk (fun s => cnt_mn (by decide))
  refine x_vret dX4_init_12 rfl ?_
  exact ⟨rfl, g9, kc⟩
set_option maxRecDepth 100000 in
set_option maxHeartbeats 4000000 in
theorem ct_X4_init_136 {G : xG} {d : Nat} {M : xM} {a0 : Nat} (g9 : GSt 136 M) (ha0 : M.1 4 9 = a0) : Mt G vX4_init (d + 1) (1, 6) [.ref a0] M (qV (fun M' => GSt 138 M' ∧ KA 136 M M')) := by
  refine x_start (by decide) (Nat.le_of_ble_eq_true rfl) ?_
  have kc : KA 136 M M := KA.rf
  refine x_aload_n dX4_init_0 rfl ?_
  refine x_objinit dX4_init_1 (xm2 12 rfl rfl) (Nat.le_of_ble_eq_true rfl) ?_
  refine x_aload_n dX4_init_4 rfl ?_
  refine x_bipush dX4_init_5 lb_6 ?_
  refine r_arr (n := 136) (g := 43) (i := 9) (t := 0) (N := 6) (b1 := 0) (b2 := 0) g9 (by decide +kernel) rfl (by decide +kernel) dX4_init_7 rfl (by decide) rfl (by decide) (xm1 148 rfl rfl) (by decide +kernel) (fun M1 g9 hk => ?_)
  have ha0 := (hk 4 9 (by decide +kernel)).trans ha0
  have kc := kc.tr hk (fun s => cnt_mn (by decide))
  generalize hx0 : M1.1 43 9 = x0
  refine r_put (n := 137) (g := 4) (i := 9) (k := 3) (t := (43, 9)) g9 (by decide +kernel) rfl (by decide +kernel) (by decide +kernel) ha0 hx0 fsX4_9 dX4_init_9 rfl rfl rfl rfl (fun M2 g9 hk => ?_)
  have ha0 := (hk 4 9 (by decide +kernel)).trans ha0
  have hx0 := (hk 43 9 (by decide +kernel)).trans hx0
  have kc := kc.tr hk (fun s => cnt_mn (by decide))
  refine x_vret dX4_init_12 rfl ?_
  exact ⟨rfl, g9, kc⟩
set_option maxRecDepth 100000 in
set_option maxHeartbeats 4000000 in
theorem ct_X4_init_140 {G : xG} {d : Nat} {M : xM} {a0 : Nat} (g9 : GSt 140 M) (ha0 : M.1 4 10 = a0) : Mt G vX4_init (d + 1) (1, 6) [.ref a0] M (qV (fun M' => GSt 142 M' ∧ KA 140 M M')) := by
  refine x_start (by decide) (Nat.le_of_ble_eq_true rfl) ?_
  have kc : KA 140 M M := KA.rf
  refine x_aload_n dX4_init_0 rfl ?_
  refine x_objinit dX4_init_1 (xm2 12 rfl rfl) (Nat.le_of_ble_eq_true rfl) ?_
  refine x_aload_n dX4_init_4 rfl ?_
  refine x_bipush dX4_init_5 lb_6 ?_
  refine r_arr (n := 140) (g := 43) (i := 10) (t := 0) (N := 6) (b1 := 0) (b2 := 0) g9 (by decide +kernel) rfl (by decide +kernel) dX4_init_7 rfl (by decide) rfl (by decide) (xm1 148 rfl rfl) (by decide +kernel) (fun M1 g9 hk => ?_)
  have ha0 := (hk 4 10 (by decide +kernel)).trans ha0
  have kc := kc.tr hk (fun s => cnt_mn (by decide))
  generalize hx0 : M1.1 43 10 = x0
  refine r_put (n := 141) (g := 4) (i := 10) (k := 3) (t := (43, 10)) g9 (by decide +kernel) rfl (by decide +kernel) (by decide +kernel) ha0 hx0 fsX4_9 dX4_init_9 rfl rfl rfl rfl (fun M2 g9 hk => ?_)
  have ha0 := (hk 4 10 (by decide +kernel)).trans ha0
  have hx0 := (hk 43 10 (by decide +kernel)).trans hx0
  have kc := kc.tr hk (fun s => cnt_mn (by decide))
  refine x_vret dX4_init_12 rfl ?_
  exact ⟨rfl, g9, kc⟩
set_option maxRecDepth 100000 in
set_option maxHeartbeats 4000000 in
theorem ct_X4_init_144 {G : xG} {d : Nat} {M : xM} {a0 : Nat} (g9 : GSt 144 M) (ha0 : M.1 4 11 = a0) : Mt G vX4_init (d + 1) (1, 6) [.ref a0] M (qV (fun M' => GSt 146 M' ∧ KA 144 M M')) := by
  refine x_start (by decide) (Nat.le_of_ble_eq_true rfl) ?_
  have kc : KA 144 M M := KA.rf
  refine x_aload_n dX4_init_0 rfl ?_
  refine x_objinit dX4_init_1 (xm2 12 rfl rfl) (Nat.le_of_ble_eq_true rfl) ?_
  refine x_aload_n dX4_init_4 rfl ?_
  refine x_bipush dX4_init_5 lb_6 ?_
  refine r_arr (n := 144) (g := 43) (i := 11) (t := 0) (N := 6) (b1 := 0) (b2 := 0) g9 (by decide +kernel) rfl (by decide +kernel) dX4_init_7 rfl (by decide) rfl (by decide) (xm1 148 rfl rfl) (by decide +kernel) (fun M1 g9 hk => ?_)
  have ha0 := (hk 4 11 (by decide +kernel)).trans ha0
  have kc := kc.tr hk (fun s => cnt_mn (by decide))
  generalize hx0 : M1.1 43 11 = x0
  refine r_put (n := 145) (g := 4) (i := 11) (k := 3) (t := (43, 11)) g9 (by decide +kernel) rfl (by decide +kernel) (by decide +kernel) ha0 hx0 fsX4_9 dX4_init_9 rfl rfl rfl rfl (fun M2 g9 hk => ?_)
  have ha0 := (hk 4 11 (by decide +kernel)).trans ha0
  have hx0 := (hk 43 11 (by decide +kernel)).trans hx0
  have kc := kc.tr hk (fun s => cnt_mn (by decide))
  refine x_vret dX4_init_12 rfl ?_
  exact ⟨rfl, g9, kc⟩
set_option maxRecDepth 100000 in
set_option maxHeartbeats 4000000 in
theorem ct_X4_init_148 {G : xG} {d : Nat} {M : xM} {a0 : Nat} (g9 : GSt 148 M) (ha0 : M.1 4 12 = a0) : Mt G vX4_init (d + 1) (1, 6) [.ref a0] M (qV (fun M' => GSt 150 M' ∧ KA 148 M M')) := by
  refine x_start (by decide) (Nat.le_of_ble_eq_true rfl) ?_
  have kc : KA 148 M M := KA.rf
  refine x_aload_n dX4_init_0 rfl ?_
  refine x_objinit dX4_init_1 (xm2 12 rfl rfl) (Nat.le_of_ble_eq_true rfl) ?_
  refine x_aload_n dX4_init_4 rfl ?_
  refine x_bipush dX4_init_5 lb_6 ?_
  refine r_arr (n := 148) (g := 43) (i := 12) (t := 0) (N := 6) (b1 := 0) (b2 := 0) g9 (by decide +kernel) rfl (by decide +kernel) dX4_init_7 rfl (by decide) rfl (by decide) (xm1 148 rfl rfl) (by decide +kernel) (fun M1 g9 hk => ?_)
  have ha0 := (hk 4 12 (by decide +kernel)).trans ha0
  have kc := kc.tr hk (fun s => cnt_mn (by decide))
  generalize hx0 : M1.1 43 12 = x0
  refine r_put (n := 149) (g := 4) (i := 12) (k := 3) (t := (43, 12)) g9 (by decide +kernel) rfl (by decide +kernel) (by decide +kernel) ha0 hx0 fsX4_9 dX4_init_9 rfl rfl rfl rfl (fun M2 g9 hk => ?_)
  have ha0 := (hk 4 12 (by decide +kernel)).trans ha0
  have hx0 := (hk 43 12 (by decide +kernel)).trans hx0
  have kc := kc.tr hk (fun s => cnt_mn (by decide))
  refine x_vret dX4_init_12 rfl ?_
  exact ⟨rfl, g9, kc⟩
set_option maxRecDepth 100000 in
set_option maxHeartbeats 4000000 in
theorem ct_X4_init_152 {G : xG} {d : Nat} {M : xM} {a0 : Nat} (g9 : GSt 152 M) (ha0 : M.1 4 13 = a0) : Mt G vX4_init (d + 1) (1, 6) [.ref a0] M (qV (fun M' => GSt 154 M' ∧ KA 152 M M')) := by
  refine x_start (by decide) (Nat.le_of_ble_eq_true rfl) ?_
  have kc : KA 152 M M := KA.rf
  refine x_aload_n dX4_init_0 rfl ?_
  refine x_objinit dX4_init_1 (xm2 12 rfl rfl) (Nat.le_of_ble_eq_true rfl) ?_
  refine x_aload_n dX4_init_4 rfl ?_
  refine x_bipush dX4_init_5 lb_6 ?_
  refine r_arr (n := 152) (g := 43) (i := 13) (t := 0) (N := 6) (b1 := 0) (b2 := 0) g9 (by decide +kernel) rfl (by decide +kernel) dX4_init_7 rfl (by decide) rfl (by decide) (xm1 148 rfl rfl) (by decide +kernel) (fun M1 g9 hk => ?_)
  have ha0 := (hk 4 13 (by decide +kernel)).trans ha0
  have kc := kc.tr hk (fun s => cnt_mn (by decide))
  generalize hx0 : M1.1 43 13 = x0
  refine r_put (n := 153) (g := 4) (i := 13) (k := 3) (t := (43, 13)) g9 (by decide +kernel) rfl (by decide +kernel) (by decide +kernel) ha0 hx0 fsX4_9 dX4_init_9 rfl rfl rfl rfl (fun M2 g9 hk => ?_)
  have ha0 := (hk 4 13 (by decide +kernel)).trans ha0
  have hx0 := (hk 43 13 (by decide +kernel)).trans hx0
  have kc := kc.tr hk (fun s => cnt_mn (by decide))
  refine x_vret dX4_init_12 rfl ?_
  exact ⟨rfl, g9, kc⟩
set_option maxRecDepth 100000 in
set_option maxHeartbeats 4000000 in
theorem ct_X4_init_156 {G : xG} {d : Nat} {M : xM} {a0 : Nat} (g9 : GSt 156 M) (ha0 : M.1 4 14 = a0) : Mt G vX4_init (d + 1) (1, 6) [.ref a0] M (qV (fun M' => GSt 158 M' ∧ KA 156 M M')) := by
  refine x_start (by decide) (Nat.le_of_ble_eq_true rfl) ?_
  have kc : KA 156 M M := KA.rf
  refine x_aload_n dX4_init_0 rfl ?_
  refine x_objinit dX4_init_1 (xm2 12 rfl rfl) (Nat.le_of_ble_eq_true rfl) ?_
  refine x_aload_n dX4_init_4 rfl ?_
  refine x_bipush dX4_init_5 lb_6 ?_
  refine r_arr (n := 156) (g := 43) (i := 14) (t := 0) (N := 6) (b1 := 0) (b2 := 0) g9 (by decide +kernel) rfl (by decide +kernel) dX4_init_7 rfl (by decide) rfl (by decide) (xm1 148 rfl rfl) (by decide +kernel) (fun M1 g9 hk => ?_)
  have ha0 := (hk 4 14 (by decide +kernel)).trans ha0
  have kc := kc.tr hk (fun s => cnt_mn (by decide))
  generalize hx0 : M1.1 43 14 = x0
  refine r_put (n := 157) (g := 4) (i := 14) (k := 3) (t := (43, 14)) g9 (by decide +kernel) rfl (by decide +kernel) (by decide +kernel) ha0 hx0 fsX4_9 dX4_init_9 rfl rfl rfl rfl (fun M2 g9 hk => ?_)
  have ha0 := (hk 4 14 (by decide +kernel)).trans ha0
  have hx0 := (hk 43 14 (by decide +kernel)).trans hx0
  have kc := kc.tr hk (fun s => cnt_mn (by decide))
  refine x_vret dX4_init_12 rfl ?_
  exact ⟨rfl, g9, kc⟩
set_option maxRecDepth 100000 in
set_option maxHeartbeats 4000000 in
theorem ct_X4_init_160 {G : xG} {d : Nat} {M : xM} {a0 : Nat} (g9 : GSt 160 M) (ha0 : M.1 4 15 = a0) : Mt G vX4_init (d + 1) (1, 6) [.ref a0] M (qV (fun M' => GSt 162 M' ∧ KA 160 M M')) := by
  refine x_start (by decide) (Nat.le_of_ble_eq_true rfl) ?_
  have kc : KA 160 M M := KA.rf
  refine x_aload_n dX4_init_0 rfl ?_
  refine x_objinit dX4_init_1 (xm2 12 rfl rfl) (Nat.le_of_ble_eq_true rfl) ?_
  refine x_aload_n dX4_init_4 rfl ?_
  refine x_bipush dX4_init_5 lb_6 ?_
  refine r_arr (n := 160) (g := 43) (i := 15) (t := 0) (N := 6) (b1 := 0) (b2 := 0) g9 (by decide +kernel) rfl (by decide +kernel) dX4_init_7 rfl (by decide) rfl (by decide) (xm1 148 rfl rfl) (by decide +kernel) (fun M1 g9 hk => ?_)
  have ha0 := (hk 4 15 (by decide +kernel)).trans ha0
  have kc := kc.tr hk (fun s => cnt_mn (by decide))
  generalize hx0 : M1.1 43 15 = x0
  refine r_put (n := 161) (g := 4) (i := 15) (k := 3) (t := (43, 15)) g9 (by decide +kernel) rfl (by decide +kernel) (by decide +kernel) ha0 hx0 fsX4_9 dX4_init_9 rfl rfl rfl rfl (fun M2 g9 hk => ?_)
  have ha0 := (hk 4 15 (by decide +kernel)).trans ha0
  have hx0 := (hk 43 15 (by decide +kernel)).trans hx0
  have kc := kc.tr hk (fun s => cnt_mn (by decide))
  refine x_vret dX4_init_12 rfl ?_
  exact ⟨rfl, g9, kc⟩
set_option maxRecDepth 100000 in
set_option maxHeartbeats 4000000 in
theorem ct_X4_init_164 {G : xG} {d : Nat} {M : xM} {a0 : Nat} (g9 : GSt 164 M) (ha0 : M.1 4 16 = a0) : Mt G vX4_init (d + 1) (1, 6) [.ref a0] M (qV (fun M' => GSt 166 M' ∧ KA 164 M M')) := by
  refine x_start (by decide) (Nat.le_of_ble_eq_true rfl) ?_
  have kc : KA 164 M M := KA.rf
  refine x_aload_n dX4_init_0 rfl ?_
  refine x_objinit dX4_init_1 (xm2 12 rfl rfl) (Nat.le_of_ble_eq_true rfl) ?_
  refine x_aload_n dX4_init_4 rfl ?_
  refine x_bipush dX4_init_5 lb_6 ?_
  refine r_arr (n := 164) (g := 43) (i := 16) (t := 0) (N := 6) (b1 := 0) (b2 := 0) g9 (by decide +kernel) rfl (by decide +kernel) dX4_init_7 rfl (by decide) rfl (by decide) (xm1 148 rfl rfl) (by decide +kernel) (fun M1 g9 hk => ?_)
  have ha0 := (hk 4 16 (by decide +kernel)).trans ha0
  have kc := kc.tr hk (fun s => cnt_mn (by decide))
  generalize hx0 : M1.1 43 16 = x0
  refine r_put (n := 165) (g := 4) (i := 16) (k := 3) (t := (43, 16)) g9 (by decide +kernel) rfl (by decide +kernel) (by decide +kernel) ha0 hx0 fsX4_9 dX4_init_9 rfl rfl rfl rfl (fun M2 g9 hk => ?_)
  have ha0 := (hk 4 16 (by decide +kernel)).trans ha0
  have hx0 := (hk 43 16 (by decide +kernel)).trans hx0
  have kc := kc.tr hk (fun s => cnt_mn (by decide))
  refine x_vret dX4_init_12 rfl ?_
  exact ⟨rfl, g9, kc⟩
set_option maxRecDepth 100000 in
set_option maxHeartbeats 4000000 in
theorem ct_X4_init_168 {G : xG} {d : Nat} {M : xM} {a0 : Nat} (g9 : GSt 168 M) (ha0 : M.1 4 17 = a0) : Mt G vX4_init (d + 1) (1, 6) [.ref a0] M (qV (fun M' => GSt 170 M' ∧ KA 168 M M')) := by
  refine x_start (by decide) (Nat.le_of_ble_eq_true rfl) ?_
  have kc : KA 168 M M := KA.rf
  refine x_aload_n dX4_init_0 rfl ?_
  refine x_objinit dX4_init_1 (xm2 12 rfl rfl) (Nat.le_of_ble_eq_true rfl) ?_
  refine x_aload_n dX4_init_4 rfl ?_
  refine x_bipush dX4_init_5 lb_6 ?_
  refine r_arr (n := 168) (g := 43) (i := 17) (t := 0) (N := 6) (b1 := 0) (b2 := 0) g9 (by decide +kernel) rfl (by decide +kernel) dX4_init_7 rfl (by decide) rfl (by decide) (xm1 148 rfl rfl) (by decide +kernel) (fun M1 g9 hk => ?_)
  have ha0 := (hk 4 17 (by decide +kernel)).trans ha0
  have kc := kc.tr hk (fun s => cnt_mn (by decide))
  generalize hx0 : M1.1 43 17 = x0
  refine r_put (n := 169) (g := 4) (i := 17) (k := 3) (t := (43, 17)) g9 (by decide +kernel) rfl (by decide +kernel) (by decide +kernel) ha0 hx0 fsX4_9 dX4_init_9 rfl rfl rfl rfl (fun M2 g9 hk => ?_)
  have ha0 := (hk 4 17 (by decide +kernel)).trans ha0
  have hx0 := (hk 43 17 (by decide +kernel)).trans hx0
  have kc := kc.tr hk (fun s => cnt_mn (by decide))
  refine x_vret dX4_init_12 rfl ?_
  exact ⟨rfl, g9, kc⟩
set_option maxRecDepth 100000 in
set_option maxHeartbeats 4000000 in
theorem ct_X4_init_172 {G : xG} {d : Nat} {M : xM} {a0 : Nat} (g9 : GSt 172 M) (ha0 : M.1 4 18 = a0) : Mt G vX4_init (d + 1) (1, 6) [.ref a0] M (qV (fun M' => GSt 174 M' ∧ KA 172 M M')) := by
  refine x_start (by decide) (Nat.le_of_ble_eq_true rfl) ?_
  have kc : KA 172 M M := KA.rf
  refine x_aload_n dX4_init_0 rfl ?_
  refine x_objinit dX4_init_1 (xm2 12 rfl rfl) (Nat.le_of_ble_eq_true rfl) ?_
  refine x_aload_n dX4_init_4 rfl ?_
  refine x_bipush dX4_init_5 lb_6 ?_
  refine r_arr (n := 172) (g := 43) (i := 18) (t := 0) (N := 6) (b1 := 0) (b2 := 0) g9 (by decide +kernel) rfl (by decide +kernel) dX4_init_7 rfl (by decide) rfl (by decide) (xm1 148 rfl rfl) (by decide +kernel) (fun M1 g9 hk => ?_)
  have ha0 := (hk 4 18 (by decide +kernel)).trans ha0
  have kc := kc.tr hk (fun s => cnt_mn (by decide))
  generalize hx0 : M1.1 43 18 = x0
  refine r_put (n := 173) (g := 4) (i := 18) (k := 3) (t := (43, 18)) g9 (by decide +kernel) rfl (by decide +kernel) (by decide +kernel) ha0 hx0 fsX4_9 dX4_init_9 rfl rfl rfl rfl (fun M2 g9 hk => ?_)
  have ha0 := (hk 4 18 (by decide +kernel)).trans ha0
  have hx0 := (hk 43 18 (by decide +kernel)).trans hx0
  have kc := kc.tr hk (fun s => cnt_mn (by decide))
  refine x_vret dX4_init_12 rfl ?_
  exact ⟨rfl, g9, kc⟩
set_option maxRecDepth 100000 in
set_option maxHeartbeats 4000000 in
theorem ct_X4_init_176 {G : xG} {d : Nat} {M : xM} {a0 : Nat} (g9 : GSt 176 M) (ha0 : M.1 4 19 = a0) : Mt G vX4_init (d + 1) (1, 6) [.ref a0] M (qV (fun M' => GSt 178 M' ∧ KA 176 M M')) := by
  refine x_start (by decide) (Nat.le_of_ble_eq_true rfl) ?_
  have kc : KA 176 M M := KA.rf
  refine x_aload_n dX4_init_0 rfl ?_
  refine x_objinit dX4_init_1 (xm2 12 rfl rfl) (Nat.le_of_ble_eq_true rfl) ?_
  refine x_aload_n dX4_init_4 rfl ?_
  refine x_bipush dX4_init_5 lb_6 ?_
  refine r_arr (n := 176) (g := 43) (i := 19) (t := 0) (N := 6) (b1 := 0) (b2 := 0) g9 (by decide +kernel) rfl (by decide +kernel) dX4_init_7 rfl (by decide) rfl (by decide) (xm1 148 rfl rfl) (by decide +kernel) (fun M1 g9 hk => ?_)
  have ha0 := (hk 4 19 (by decide +kernel)).trans ha0
  have kc := kc.tr hk (fun s => cnt_mn (by decide))
  generalize hx0 : M1.1 43 19 = x0
  refine r_put (n := 177) (g := 4) (i := 19) (k := 3) (t := (43, 19)) g9 (by decide +kernel) rfl (by decide +kernel) (by decide +kernel) ha0 hx0 fsX4_9 dX4_init_9 rfl rfl rfl rfl (fun M2 g9 hk => ?_)
  have ha0 := (hk 4 19 (by decide +kernel)).trans ha0
  have hx0 := (hk 43 19 (by decide +kernel)).trans hx0
  have kc := kc.tr hk (fun s => cnt_mn (by decide))
  refine x_vret dX4_init_12 rfl ?_
  exact ⟨rfl, g9, kc⟩
set_option maxRecDepth 100000 in
set_option maxHeartbeats 4000000 in
theorem ct_X0_people_114 {G : xG} {d : Nat} {M : xM} (g9 : GSt 114 M) : Mt G vX0_people (d + 2) (33, 176) [.int (nI 16)] M (qR (fun r M' => r = M'.1 45 0 ∧ GSt 179 M' ∧ KA 114 M M')) := by
  refine x_start (by decide) (Nat.le_of_ble_eq_true rfl) ?_
  have kc : KA 114 M M := KA.rf
  refine x_iload_n dX0_people_0 rfl ?_
  refine r_anew (n := 114) (g := 45) (i := 0) (N := 16) (b1 := 32) (b2 := 160) g9 (by decide +kernel) rfl (by decide +kernel) dX0_people_1 (xm2 6 rfl rfl) rfl (by decide) (by decide +kernel) (fun M1 g9 hk => ?_)
  have kc := kc.tr hk (fun s => cnt_mn (by decide))
  generalize hx0 : M1.1 45 0 = x0
  refine x_astore_n dX0_people_4 (by decide) rfl ?_
  refine x_iconst dX0_people_5 li_0 ?_
  refine x_istore_n dX0_people_6 (by decide) rfl ?_
  refine x_iload_n dX0_people_7 rfl ?_
  refine x_iload_n dX0_people_8 rfl ?_
  refine x_icN_ge 28 dX0_people_9 (by decide) (by decide) (by decide) (fun h9 => absurd h9 (by decide)) (fun h9 => ?_)
  refine x_aload_n dX0_people_12 rfl ?_
  refine x_iload_n dX0_people_13 rfl ?_
  refine r_obj (n := 115) (g := 4) (i := 4) (cn := 4) (T := TX4) (N := 4) (b1 := 31) (b2 := 156) g9 (by decide +kernel) rfl (by decide +kernel) dX0_people_14 (xm2 6 rfl rfl) (xm2 8 rfl rfl) (xm1 7 rfl rfl) rfl rfl (by decide +kernel) rfl (by decide +kernel) (fun M2 g9 hk => ?_)
  have hx0 := (hk 45 0 (by decide +kernel)).trans hx0
  have kc := kc.tr hk (fun s => cnt_mn (by decide))
  generalize hx1 : M2.1 4 4 = x1
  refine x_dup dX0_people_17 rfl ?_
  refine x_civ (b1 := 30) (b2 := 150) (ct_X4_init_116 (d := d + 0) g9 hx1) kX0_35 dX0_people_18 rfl rfl (Nat.le_of_ble_eq_true rfl) (fun M3 hq => ?_)
  obtain ⟨g9, hk⟩ := hq
  have hx0 := (hk 45 0 (by decide +kernel)).trans hx0
  have hx1 := (hk 4 4 (by decide +kernel)).trans hx1
  have kc := kc.tr hk (fun s => cnt_mn (by decide))
  refine r_aast (n := 118) (g := 45) (i := 0) (k := 0) (j := 4) (N := 16) g9 (by decide +kernel) rfl (by decide +kernel) (by decide +kernel) hx0 hx1 dX0_people_21 rfl (by decide) (by decide) (fun M4 g9 hk => ?_)
  have hx0 := (hk 45 0 (by decide +kernel)).trans hx0
  have hx1 := (hk 4 4 (by decide +kernel)).trans hx1
  have kc := kc.tr hk (fun s => cnt_mn (by decide))
  refine x_iincN 1 dX0_people_22 li_1 rfl (by decide) rfl ?_
  refine x_goto 7 dX0_people_25 (by decide) ?_
  refine x_iload_n dX0_people_7 rfl ?_
  refine x_iload_n dX0_people_8 rfl ?_
  refine x_icN_ge 28 dX0_people_9 (by decide) (by decide) (by decide) (fun h9 => absurd h9 (by decide)) (fun h9 => ?_)
  refine x_aload_n dX0_people_12 rfl ?_
  refine x_iload_n dX0_people_13 rfl ?_
  refine r_obj (n := 119) (g := 4) (i := 5) (cn := 4) (T := TX4) (N := 4) (b1 := 29) (b2 := 146) g9 (by decide +kernel) rfl (by decide +kernel) dX0_people_14 (xm2 6 rfl rfl) (xm2 8 rfl rfl) (xm1 7 rfl rfl) rfl rfl (by decide +kernel) rfl (by decide +kernel) (fun M5 g9 hk => ?_)
  have hx0 := (hk 45 0 (by decide +kernel)).trans hx0
  have kc := kc.tr hk (fun s => cnt_mn (by decide))
  generalize hx2 : M5.1 4 5 = x2
  refine x_dup dX0_people_17 rfl ?_
  refine x_civ (b1 := 28) (b2 := 140) (ct_X4_init_120 (d := d + 0) g9 hx2) kX0_35 dX0_people_18 rfl rfl (Nat.le_of_ble_eq_true rfl) (fun M6 hq => ?_)
  obtain ⟨g9, hk⟩ := hq
  have hx0 := (hk 45 0 (by decide +kernel)).trans hx0
  have hx2 := (hk 4 5 (by decide +kernel)).trans hx2
  have kc := kc.tr hk (fun s => cnt_mn (by decide))
  refine r_aast (n := 122) (g := 45) (i := 0) (k := 1) (j := 5) (N := 16) g9 (by decide +kernel) rfl (by decide +kernel) (by decide +kernel) hx0 hx2 dX0_people_21 rfl (by decide) (by decide) (fun M7 g9 hk => ?_)
  have hx0 := (hk 45 0 (by decide +kernel)).trans hx0
  have hx2 := (hk 4 5 (by decide +kernel)).trans hx2
  have kc := kc.tr hk (fun s => cnt_mn (by decide))
  refine x_iincN 1 dX0_people_22 li_1 rfl (by decide) rfl ?_
  refine x_goto 7 dX0_people_25 (by decide) ?_
  refine x_iload_n dX0_people_7 rfl ?_
  refine x_iload_n dX0_people_8 rfl ?_
  refine x_icN_ge 28 dX0_people_9 (by decide) (by decide) (by decide) (fun h9 => absurd h9 (by decide)) (fun h9 => ?_)
  refine x_aload_n dX0_people_12 rfl ?_
  refine x_iload_n dX0_people_13 rfl ?_
  refine r_obj (n := 123) (g := 4) (i := 6) (cn := 4) (T := TX4) (N := 4) (b1 := 27) (b2 := 136) g9 (by decide +kernel) rfl (by decide +kernel) dX0_people_14 (xm2 6 rfl rfl) (xm2 8 rfl rfl) (xm1 7 rfl rfl) rfl rfl (by decide +kernel) rfl (by decide +kernel) (fun M8 g9 hk => ?_)
  have hx0 := (hk 45 0 (by decide +kernel)).trans hx0
  have kc := kc.tr hk (fun s => cnt_mn (by decide))
  generalize hx3 : M8.1 4 6 = x3
  refine x_dup dX0_people_17 rfl ?_
  refine x_civ (b1 := 26) (b2 := 130) (ct_X4_init_124 (d := d + 0) g9 hx3) kX0_35 dX0_people_18 rfl rfl (Nat.le_of_ble_eq_true rfl) (fun M9 hq => ?_)
  obtain ⟨g9, hk⟩ := hq
  have hx0 := (hk 45 0 (by decide +kernel)).trans hx0
  have hx3 := (hk 4 6 (by decide +kernel)).trans hx3
  have kc := kc.tr hk (fun s => cnt_mn (by decide))
  refine r_aast (n := 126) (g := 45) (i := 0) (k := 2) (j := 6) (N := 16) g9 (by decide +kernel) rfl (by decide +kernel) (by decide +kernel) hx0 hx3 dX0_people_21 rfl (by decide) (by decide) (fun M10 g9 hk => ?_)
  have hx0 := (hk 45 0 (by decide +kernel)).trans hx0
  have hx3 := (hk 4 6 (by decide +kernel)).trans hx3
  have kc := kc.tr hk (fun s => cnt_mn (by decide))
  refine x_iincN 1 dX0_people_22 li_1 rfl (by decide) rfl ?_
  refine x_goto 7 dX0_people_25 (by decide) ?_
  refine x_iload_n dX0_people_7 rfl ?_
  refine x_iload_n dX0_people_8 rfl ?_
  refine x_icN_ge 28 dX0_people_9 (by decide) (by decide) (by decide) (fun h9 => absurd h9 (by decide)) (fun h9 => ?_)
  refine x_aload_n dX0_people_12 rfl ?_
  refine x_iload_n dX0_people_13 rfl ?_
  refine r_obj (n := 127) (g := 4) (i := 7) (cn := 4) (T := TX4) (N := 4) (b1 := 25) (b2 := 126) g9 (by decide +kernel) rfl (by decide +kernel) dX0_people_14 (xm2 6 rfl rfl) (xm2 8 rfl rfl) (xm1 7 rfl rfl) rfl rfl (by decide +kernel) rfl (by decide +kernel) (fun M11 g9 hk => ?_)
  have hx0 := (hk 45 0 (by decide +kernel)).trans hx0
  have kc := kc.tr hk (fun s => cnt_mn (by decide))
  generalize hx4 : M11.1 4 7 = x4
  refine x_dup dX0_people_17 rfl ?_
  refine x_civ (b1 := 24) (b2 := 120) (ct_X4_init_128 (d := d + 0) g9 hx4) kX0_35 dX0_people_18 rfl rfl (Nat.le_of_ble_eq_true rfl) (fun M12 hq => ?_)
  obtain ⟨g9, hk⟩ := hq
  have hx0 := (hk 45 0 (by decide +kernel)).trans hx0
  have hx4 := (hk 4 7 (by decide +kernel)).trans hx4
  have kc := kc.tr hk (fun s => cnt_mn (by decide))
  refine r_aast (n := 130) (g := 45) (i := 0) (k := 3) (j := 7) (N := 16) g9 (by decide +kernel) rfl (by decide +kernel) (by decide +kernel) hx0 hx4 dX0_people_21 rfl (by decide) (by decide) (fun M13 g9 hk => ?_)
  have hx0 := (hk 45 0 (by decide +kernel)).trans hx0
  have hx4 := (hk 4 7 (by decide +kernel)).trans hx4
  have kc := kc.tr hk (fun s => cnt_mn (by decide))
  refine x_iincN 1 dX0_people_22 li_1 rfl (by decide) rfl ?_
  refine x_goto 7 dX0_people_25 (by decide) ?_
  refine x_iload_n dX0_people_7 rfl ?_
  refine x_iload_n dX0_people_8 rfl ?_
  refine x_icN_ge 28 dX0_people_9 (by decide) (by decide) (by decide) (fun h9 => absurd h9 (by decide)) (fun h9 => ?_)
  refine x_aload_n dX0_people_12 rfl ?_
  refine x_iload_n dX0_people_13 rfl ?_
  refine r_obj (n := 131) (g := 4) (i := 8) (cn := 4) (T := TX4) (N := 4) (b1 := 23) (b2 := 116) g9 (by decide +kernel) rfl (by decide +kernel) dX0_people_14 (xm2 6 rfl rfl) (xm2 8 rfl rfl) (xm1 7 rfl rfl) rfl rfl (by decide +kernel) rfl (by decide +kernel) (fun M14 g9 hk => ?_)
  have hx0 := (hk 45 0 (by decide +kernel)).trans hx0
  have kc := kc.tr hk (fun s => cnt_mn (by decide))
  generalize hx5 : M14.1 4 8 = x5
  refine x_dup dX0_people_17 rfl ?_
  refine x_civ (b1 := 22) (b2 := 110) (ct_X4_init_132 (d := d + 0) g9 hx5) kX0_35 dX0_people_18 rfl rfl (Nat.le_of_ble_eq_true rfl) (fun M15 hq => ?_)
  obtain ⟨g9, hk⟩ := hq
  have hx0 := (hk 45 0 (by decide +kernel)).trans hx0
  have hx5 := (hk 4 8 (by decide +kernel)).trans hx5
  have kc := kc.tr hk (fun s => cnt_mn (by decide))
  refine r_aast (n := 134) (g := 45) (i := 0) (k := 4) (j := 8) (N := 16) g9 (by decide +kernel) rfl (by decide +kernel) (by decide +kernel) hx0 hx5 dX0_people_21 rfl (by decide) (by decide) (fun M16 g9 hk => ?_)
  have hx0 := (hk 45 0 (by decide +kernel)).trans hx0
  have hx5 := (hk 4 8 (by decide +kernel)).trans hx5
  have kc := kc.tr hk (fun s => cnt_mn (by decide))
  refine x_iincN 1 dX0_people_22 li_1 rfl (by decide) rfl ?_
  refine x_goto 7 dX0_people_25 (by decide) ?_
  refine x_iload_n dX0_people_7 rfl ?_
  refine x_iload_n dX0_people_8 rfl ?_
  refine x_icN_ge 28 dX0_people_9 (by decide) (by decide) (by decide) (fun h9 => absurd h9 (by decide)) (fun h9 => ?_)
  refine x_aload_n dX0_people_12 rfl ?_
  refine x_iload_n dX0_people_13 rfl ?_
  refine r_obj (n := 135) (g := 4) (i := 9) (cn := 4) (T := TX4) (N := 4) (b1 := 21) (b2 := 106) g9 (by decide +kernel) rfl (by decide +kernel) dX0_people_14 (xm2 6 rfl rfl) (xm2 8 rfl rfl) (xm1 7 rfl rfl) rfl rfl (by decide +kernel) rfl (by decide +kernel) (fun M17 g9 hk => ?_)
  have hx0 := (hk 45 0 (by decide +kernel)).trans hx0
  have kc := kc.tr hk (fun s => cnt_mn (by decide))
  generalize hx6 : M17.1 4 9 = x6
  refine x_dup dX0_people_17 rfl ?_
  refine x_civ (b1 := 20) (b2 := 100) (ct_X4_init_136 (d := d + 0) g9 hx6) kX0_35 dX0_people_18 rfl rfl (Nat.le_of_ble_eq_true rfl) (fun M18 hq => ?_)
  obtain ⟨g9, hk⟩ := hq
  have hx0 := (hk 45 0 (by decide +kernel)).trans hx0
  have hx6 := (hk 4 9 (by decide +kernel)).trans hx6
  have kc := kc.tr hk (fun s => cnt_mn (by decide))
  refine r_aast (n := 138) (g := 45) (i := 0) (k := 5) (j := 9) (N := 16) g9 (by decide +kernel) rfl (by decide +kernel) (by decide +kernel) hx0 hx6 dX0_people_21 rfl (by decide) (by decide) (fun M19 g9 hk => ?_)
  have hx0 := (hk 45 0 (by decide +kernel)).trans hx0
  have hx6 := (hk 4 9 (by decide +kernel)).trans hx6
  have kc := kc.tr hk (fun s => cnt_mn (by decide))
  refine x_iincN 1 dX0_people_22 li_1 rfl (by decide) rfl ?_
  refine x_goto 7 dX0_people_25 (by decide) ?_
  refine x_iload_n dX0_people_7 rfl ?_
  refine x_iload_n dX0_people_8 rfl ?_
  refine x_icN_ge 28 dX0_people_9 (by decide) (by decide) (by decide) (fun h9 => absurd h9 (by decide)) (fun h9 => ?_)
  refine x_aload_n dX0_people_12 rfl ?_
  refine x_iload_n dX0_people_13 rfl ?_
  refine r_obj (n := 139) (g := 4) (i := 10) (cn := 4) (T := TX4) (N := 4) (b1 := 19) (b2 := 96) g9 (by decide +kernel) rfl (by decide +kernel) dX0_people_14 (xm2 6 rfl rfl) (xm2 8 rfl rfl) (xm1 7 rfl rfl) rfl rfl (by decide +kernel) rfl (by decide +kernel) (fun M20 g9 hk => ?_)
  have hx0 := (hk 45 0 (by decide +kernel)).trans hx0
  have kc := kc.tr hk (fun s => cnt_mn (by decide))
  generalize hx7 : M20.1 4 10 = x7
  refine x_dup dX0_people_17 rfl ?_
  refine x_civ (b1 := 18) (b2 := 90) (ct_X4_init_140 (d := d + 0) g9 hx7) kX0_35 dX0_people_18 rfl rfl (Nat.le_of_ble_eq_true rfl) (fun M21 hq => ?_)
  obtain ⟨g9, hk⟩ := hq
  have hx0 := (hk 45 0 (by decide +kernel)).trans hx0
  have hx7 := (hk 4 10 (by decide +kernel)).trans hx7
  have kc := kc.tr hk (fun s => cnt_mn (by decide))
  refine r_aast (n := 142) (g := 45) (i := 0) (k := 6) (j := 10) (N := 16) g9 (by decide +kernel) rfl (by decide +kernel) (by decide +kernel) hx0 hx7 dX0_people_21 rfl (by decide) (by decide) (fun M22 g9 hk => ?_)
  have hx0 := (hk 45 0 (by decide +kernel)).trans hx0
  have hx7 := (hk 4 10 (by decide +kernel)).trans hx7
  have kc := kc.tr hk (fun s => cnt_mn (by decide))
  refine x_iincN 1 dX0_people_22 li_1 rfl (by decide) rfl ?_
  refine x_goto 7 dX0_people_25 (by decide) ?_
  refine x_iload_n dX0_people_7 rfl ?_
  refine x_iload_n dX0_people_8 rfl ?_
  refine x_icN_ge 28 dX0_people_9 (by decide) (by decide) (by decide) (fun h9 => absurd h9 (by decide)) (fun h9 => ?_)
  refine x_aload_n dX0_people_12 rfl ?_
  refine x_iload_n dX0_people_13 rfl ?_
  refine r_obj (n := 143) (g := 4) (i := 11) (cn := 4) (T := TX4) (N := 4) (b1 := 17) (b2 := 86) g9 (by decide +kernel) rfl (by decide +kernel) dX0_people_14 (xm2 6 rfl rfl) (xm2 8 rfl rfl) (xm1 7 rfl rfl) rfl rfl (by decide +kernel) rfl (by decide +kernel) (fun M23 g9 hk => ?_)
  have hx0 := (hk 45 0 (by decide +kernel)).trans hx0
  have kc := kc.tr hk (fun s => cnt_mn (by decide))
  generalize hx8 : M23.1 4 11 = x8
  refine x_dup dX0_people_17 rfl ?_
  refine x_civ (b1 := 16) (b2 := 80) (ct_X4_init_144 (d := d + 0) g9 hx8) kX0_35 dX0_people_18 rfl rfl (Nat.le_of_ble_eq_true rfl) (fun M24 hq => ?_)
  obtain ⟨g9, hk⟩ := hq
  have hx0 := (hk 45 0 (by decide +kernel)).trans hx0
  have hx8 := (hk 4 11 (by decide +kernel)).trans hx8
  have kc := kc.tr hk (fun s => cnt_mn (by decide))
  refine r_aast (n := 146) (g := 45) (i := 0) (k := 7) (j := 11) (N := 16) g9 (by decide +kernel) rfl (by decide +kernel) (by decide +kernel) hx0 hx8 dX0_people_21 rfl (by decide) (by decide) (fun M25 g9 hk => ?_)
  have hx0 := (hk 45 0 (by decide +kernel)).trans hx0
  have hx8 := (hk 4 11 (by decide +kernel)).trans hx8
  have kc := kc.tr hk (fun s => cnt_mn (by decide))
  refine x_iincN 1 dX0_people_22 li_1 rfl (by decide) rfl ?_
  refine x_goto 7 dX0_people_25 (by decide) ?_
  refine x_iload_n dX0_people_7 rfl ?_
  refine x_iload_n dX0_people_8 rfl ?_
  refine x_icN_ge 28 dX0_people_9 (by decide) (by decide) (by decide) (fun h9 => absurd h9 (by decide)) (fun h9 => ?_)
  refine x_aload_n dX0_people_12 rfl ?_
  refine x_iload_n dX0_people_13 rfl ?_
  refine r_obj (n := 147) (g := 4) (i := 12) (cn := 4) (T := TX4) (N := 4) (b1 := 15) (b2 := 76) g9 (by decide +kernel) rfl (by decide +kernel) dX0_people_14 (xm2 6 rfl rfl) (xm2 8 rfl rfl) (xm1 7 rfl rfl) rfl rfl (by decide +kernel) rfl (by decide +kernel) (fun M26 g9 hk => ?_)
  have hx0 := (hk 45 0 (by decide +kernel)).trans hx0
  have kc := kc.tr hk (fun s => cnt_mn (by decide))
  generalize hx9 : M26.1 4 12 = x9
  refine x_dup dX0_people_17 rfl ?_
  refine x_civ (b1 := 14) (b2 := 70) (ct_X4_init_148 (d := d + 0) g9 hx9) kX0_35 dX0_people_18 rfl rfl (Nat.le_of_ble_eq_true rfl) (fun M27 hq => ?_)
  obtain ⟨g9, hk⟩ := hq
  have hx0 := (hk 45 0 (by decide +kernel)).trans hx0
  have hx9 := (hk 4 12 (by decide +kernel)).trans hx9
  have kc := kc.tr hk (fun s => cnt_mn (by decide))
  refine r_aast (n := 150) (g := 45) (i := 0) (k := 8) (j := 12) (N := 16) g9 (by decide +kernel) rfl (by decide +kernel) (by decide +kernel) hx0 hx9 dX0_people_21 rfl (by decide) (by decide) (fun M28 g9 hk => ?_)
  have hx0 := (hk 45 0 (by decide +kernel)).trans hx0
  have hx9 := (hk 4 12 (by decide +kernel)).trans hx9
  have kc := kc.tr hk (fun s => cnt_mn (by decide))
  refine x_iincN 1 dX0_people_22 li_1 rfl (by decide) rfl ?_
  refine x_goto 7 dX0_people_25 (by decide) ?_
  refine x_iload_n dX0_people_7 rfl ?_
  refine x_iload_n dX0_people_8 rfl ?_
  refine x_icN_ge 28 dX0_people_9 (by decide) (by decide) (by decide) (fun h9 => absurd h9 (by decide)) (fun h9 => ?_)
  refine x_aload_n dX0_people_12 rfl ?_
  refine x_iload_n dX0_people_13 rfl ?_
  refine r_obj (n := 151) (g := 4) (i := 13) (cn := 4) (T := TX4) (N := 4) (b1 := 13) (b2 := 66) g9 (by decide +kernel) rfl (by decide +kernel) dX0_people_14 (xm2 6 rfl rfl) (xm2 8 rfl rfl) (xm1 7 rfl rfl) rfl rfl (by decide +kernel) rfl (by decide +kernel) (fun M29 g9 hk => ?_)
  have hx0 := (hk 45 0 (by decide +kernel)).trans hx0
  have kc := kc.tr hk (fun s => cnt_mn (by decide))
  generalize hx10 : M29.1 4 13 = x10
  refine x_dup dX0_people_17 rfl ?_
  refine x_civ (b1 := 12) (b2 := 60) (ct_X4_init_152 (d := d + 0) g9 hx10) kX0_35 dX0_people_18 rfl rfl (Nat.le_of_ble_eq_true rfl) (fun M30 hq => ?_)
  obtain ⟨g9, hk⟩ := hq
  have hx0 := (hk 45 0 (by decide +kernel)).trans hx0
  have hx10 := (hk 4 13 (by decide +kernel)).trans hx10
  have kc := kc.tr hk (fun s => cnt_mn (by decide))
  refine r_aast (n := 154) (g := 45) (i := 0) (k := 9) (j := 13) (N := 16) g9 (by decide +kernel) rfl (by decide +kernel) (by decide +kernel) hx0 hx10 dX0_people_21 rfl (by decide) (by decide) (fun M31 g9 hk => ?_)
  have hx0 := (hk 45 0 (by decide +kernel)).trans hx0
  have hx10 := (hk 4 13 (by decide +kernel)).trans hx10
  have kc := kc.tr hk (fun s => cnt_mn (by decide))
  refine x_iincN 1 dX0_people_22 li_1 rfl (by decide) rfl ?_
  refine x_goto 7 dX0_people_25 (by decide) ?_
  refine x_iload_n dX0_people_7 rfl ?_
  refine x_iload_n dX0_people_8 rfl ?_
  refine x_icN_ge 28 dX0_people_9 (by decide) (by decide) (by decide) (fun h9 => absurd h9 (by decide)) (fun h9 => ?_)
  refine x_aload_n dX0_people_12 rfl ?_
  refine x_iload_n dX0_people_13 rfl ?_
  refine r_obj (n := 155) (g := 4) (i := 14) (cn := 4) (T := TX4) (N := 4) (b1 := 11) (b2 := 56) g9 (by decide +kernel) rfl (by decide +kernel) dX0_people_14 (xm2 6 rfl rfl) (xm2 8 rfl rfl) (xm1 7 rfl rfl) rfl rfl (by decide +kernel) rfl (by decide +kernel) (fun M32 g9 hk => ?_)
  have hx0 := (hk 45 0 (by decide +kernel)).trans hx0
  have kc := kc.tr hk (fun s => cnt_mn (by decide))
  generalize hx11 : M32.1 4 14 = x11
  refine x_dup dX0_people_17 rfl ?_
  refine x_civ (b1 := 10) (b2 := 50) (ct_X4_init_156 (d := d + 0) g9 hx11) kX0_35 dX0_people_18 rfl rfl (Nat.le_of_ble_eq_true rfl) (fun M33 hq => ?_)
  obtain ⟨g9, hk⟩ := hq
  have hx0 := (hk 45 0 (by decide +kernel)).trans hx0
  have hx11 := (hk 4 14 (by decide +kernel)).trans hx11
  have kc := kc.tr hk (fun s => cnt_mn (by decide))
  refine r_aast (n := 158) (g := 45) (i := 0) (k := 10) (j := 14) (N := 16) g9 (by decide +kernel) rfl (by decide +kernel) (by decide +kernel) hx0 hx11 dX0_people_21 rfl (by decide) (by decide) (fun M34 g9 hk => ?_)
  have hx0 := (hk 45 0 (by decide +kernel)).trans hx0
  have hx11 := (hk 4 14 (by decide +kernel)).trans hx11
  have kc := kc.tr hk (fun s => cnt_mn (by decide))
  refine x_iincN 1 dX0_people_22 li_1 rfl (by decide) rfl ?_
  refine x_goto 7 dX0_people_25 (by decide) ?_
  refine x_iload_n dX0_people_7 rfl ?_
  refine x_iload_n dX0_people_8 rfl ?_
  refine x_icN_ge 28 dX0_people_9 (by decide) (by decide) (by decide) (fun h9 => absurd h9 (by decide)) (fun h9 => ?_)
  refine x_aload_n dX0_people_12 rfl ?_
  refine x_iload_n dX0_people_13 rfl ?_
  refine r_obj (n := 159) (g := 4) (i := 15) (cn := 4) (T := TX4) (N := 4) (b1 := 9) (b2 := 46) g9 (by decide +kernel) rfl (by decide +kernel) dX0_people_14 (xm2 6 rfl rfl) (xm2 8 rfl rfl) (xm1 7 rfl rfl) rfl rfl (by decide +kernel) rfl (by decide +kernel) (fun M35 g9 hk => ?_)
  have hx0 := (hk 45 0 (by decide +kernel)).trans hx0
  have kc := kc.tr hk (fun s => cnt_mn (by decide))
  generalize hx12 : M35.1 4 15 = x12
  refine x_dup dX0_people_17 rfl ?_
  refine x_civ (b1 := 8) (b2 := 40) (ct_X4_init_160 (d := d + 0) g9 hx12) kX0_35 dX0_people_18 rfl rfl (Nat.le_of_ble_eq_true rfl) (fun M36 hq => ?_)
  obtain ⟨g9, hk⟩ := hq
  have hx0 := (hk 45 0 (by decide +kernel)).trans hx0
  have hx12 := (hk 4 15 (by decide +kernel)).trans hx12
  have kc := kc.tr hk (fun s => cnt_mn (by decide))
  refine r_aast (n := 162) (g := 45) (i := 0) (k := 11) (j := 15) (N := 16) g9 (by decide +kernel) rfl (by decide +kernel) (by decide +kernel) hx0 hx12 dX0_people_21 rfl (by decide) (by decide) (fun M37 g9 hk => ?_)
  have hx0 := (hk 45 0 (by decide +kernel)).trans hx0
  have hx12 := (hk 4 15 (by decide +kernel)).trans hx12
  have kc := kc.tr hk (fun s => cnt_mn (by decide))
  refine x_iincN 1 dX0_people_22 li_1 rfl (by decide) rfl ?_
  refine x_goto 7 dX0_people_25 (by decide) ?_
  refine x_iload_n dX0_people_7 rfl ?_
  refine x_iload_n dX0_people_8 rfl ?_
  refine x_icN_ge 28 dX0_people_9 (by decide) (by decide) (by decide) (fun h9 => absurd h9 (by decide)) (fun h9 => ?_)
  refine x_aload_n dX0_people_12 rfl ?_
  refine x_iload_n dX0_people_13 rfl ?_
  refine r_obj (n := 163) (g := 4) (i := 16) (cn := 4) (T := TX4) (N := 4) (b1 := 7) (b2 := 36) g9 (by decide +kernel) rfl (by decide +kernel) dX0_people_14 (xm2 6 rfl rfl) (xm2 8 rfl rfl) (xm1 7 rfl rfl) rfl rfl (by decide +kernel) rfl (by decide +kernel) (fun M38 g9 hk => ?_)
  have hx0 := (hk 45 0 (by decide +kernel)).trans hx0
  have kc := kc.tr hk (fun s => cnt_mn (by decide))
  generalize hx13 : M38.1 4 16 = x13
  refine x_dup dX0_people_17 rfl ?_
  refine x_civ (b1 := 6) (b2 := 30) (ct_X4_init_164 (d := d + 0) g9 hx13) kX0_35 dX0_people_18 rfl rfl (Nat.le_of_ble_eq_true rfl) (fun M39 hq => ?_)
  obtain ⟨g9, hk⟩ := hq
  have hx0 := (hk 45 0 (by decide +kernel)).trans hx0
  have hx13 := (hk 4 16 (by decide +kernel)).trans hx13
  have kc := kc.tr hk (fun s => cnt_mn (by decide))
  refine r_aast (n := 166) (g := 45) (i := 0) (k := 12) (j := 16) (N := 16) g9 (by decide +kernel) rfl (by decide +kernel) (by decide +kernel) hx0 hx13 dX0_people_21 rfl (by decide) (by decide) (fun M40 g9 hk => ?_)
  have hx0 := (hk 45 0 (by decide +kernel)).trans hx0
  have hx13 := (hk 4 16 (by decide +kernel)).trans hx13
  have kc := kc.tr hk (fun s => cnt_mn (by decide))
  refine x_iincN 1 dX0_people_22 li_1 rfl (by decide) rfl ?_
  refine x_goto 7 dX0_people_25 (by decide) ?_
  refine x_iload_n dX0_people_7 rfl ?_
  refine x_iload_n dX0_people_8 rfl ?_
  refine x_icN_ge 28 dX0_people_9 (by decide) (by decide) (by decide) (fun h9 => absurd h9 (by decide)) (fun h9 => ?_)
  refine x_aload_n dX0_people_12 rfl ?_
  refine x_iload_n dX0_people_13 rfl ?_
  refine r_obj (n := 167) (g := 4) (i := 17) (cn := 4) (T := TX4) (N := 4) (b1 := 5) (b2 := 26) g9 (by decide +kernel) rfl (by decide +kernel) dX0_people_14 (xm2 6 rfl rfl) (xm2 8 rfl rfl) (xm1 7 rfl rfl) rfl rfl (by decide +kernel) rfl (by decide +kernel) (fun M41 g9 hk => ?_)
  have hx0 := (hk 45 0 (by decide +kernel)).trans hx0
  have kc := kc.tr hk (fun s => cnt_mn (by decide))
  generalize hx14 : M41.1 4 17 = x14
  refine x_dup dX0_people_17 rfl ?_
  refine x_civ (b1 := 4) (b2 := 20) (ct_X4_init_168 (d := d + 0) g9 hx14) kX0_35 dX0_people_18 rfl rfl (Nat.le_of_ble_eq_true rfl) (fun M42 hq => ?_)
  obtain ⟨g9, hk⟩ := hq
  have hx0 := (hk 45 0 (by decide +kernel)).trans hx0
  have hx14 := (hk 4 17 (by decide +kernel)).trans hx14
  have kc := kc.tr hk (fun s => cnt_mn (by decide))
  refine r_aast (n := 170) (g := 45) (i := 0) (k := 13) (j := 17) (N := 16) g9 (by decide +kernel) rfl (by decide +kernel) (by decide +kernel) hx0 hx14 dX0_people_21 rfl (by decide) (by decide) (fun M43 g9 hk => ?_)
  have hx0 := (hk 45 0 (by decide +kernel)).trans hx0
  have hx14 := (hk 4 17 (by decide +kernel)).trans hx14
  have kc := kc.tr hk (fun s => cnt_mn (by decide))
  refine x_iincN 1 dX0_people_22 li_1 rfl (by decide) rfl ?_
  refine x_goto 7 dX0_people_25 (by decide) ?_
  refine x_iload_n dX0_people_7 rfl ?_
  refine x_iload_n dX0_people_8 rfl ?_
  refine x_icN_ge 28 dX0_people_9 (by decide) (by decide) (by decide) (fun h9 => absurd h9 (by decide)) (fun h9 => ?_)
  refine x_aload_n dX0_people_12 rfl ?_
  refine x_iload_n dX0_people_13 rfl ?_
  refine r_obj (n := 171) (g := 4) (i := 18) (cn := 4) (T := TX4) (N := 4) (b1 := 3) (b2 := 16) g9 (by decide +kernel) rfl (by decide +kernel) dX0_people_14 (xm2 6 rfl rfl) (xm2 8 rfl rfl) (xm1 7 rfl rfl) rfl rfl (by decide +kernel) rfl (by decide +kernel) (fun M44 g9 hk => ?_)
  have hx0 := (hk 45 0 (by decide +kernel)).trans hx0
  have kc := kc.tr hk (fun s => cnt_mn (by decide))
  generalize hx15 : M44.1 4 18 = x15
  refine x_dup dX0_people_17 rfl ?_
  refine x_civ (b1 := 2) (b2 := 10) (ct_X4_init_172 (d := d + 0) g9 hx15) kX0_35 dX0_people_18 rfl rfl (Nat.le_of_ble_eq_true rfl) (fun M45 hq => ?_)
  obtain ⟨g9, hk⟩ := hq
  have hx0 := (hk 45 0 (by decide +kernel)).trans hx0
  have hx15 := (hk 4 18 (by decide +kernel)).trans hx15
  have kc := kc.tr hk (fun s => cnt_mn (by decide))
  refine r_aast (n := 174) (g := 45) (i := 0) (k := 14) (j := 18) (N := 16) g9 (by decide +kernel) rfl (by decide +kernel) (by decide +kernel) hx0 hx15 dX0_people_21 rfl (by decide) (by decide) (fun M46 g9 hk => ?_)
  have hx0 := (hk 45 0 (by decide +kernel)).trans hx0
  have hx15 := (hk 4 18 (by decide +kernel)).trans hx15
  have kc := kc.tr hk (fun s => cnt_mn (by decide))
  refine x_iincN 1 dX0_people_22 li_1 rfl (by decide) rfl ?_
  refine x_goto 7 dX0_people_25 (by decide) ?_
  refine x_iload_n dX0_people_7 rfl ?_
  refine x_iload_n dX0_people_8 rfl ?_
  refine x_icN_ge 28 dX0_people_9 (by decide) (by decide) (by decide) (fun h9 => absurd h9 (by decide)) (fun h9 => ?_)
  refine x_aload_n dX0_people_12 rfl ?_
  refine x_iload_n dX0_people_13 rfl ?_
  refine r_obj (n := 175) (g := 4) (i := 19) (cn := 4) (T := TX4) (N := 4) (b1 := 1) (b2 := 6) g9 (by decide +kernel) rfl (by decide +kernel) dX0_people_14 (xm2 6 rfl rfl) (xm2 8 rfl rfl) (xm1 7 rfl rfl) rfl rfl (by decide +kernel) rfl (by decide +kernel) (fun M47 g9 hk => ?_)
  have hx0 := (hk 45 0 (by decide +kernel)).trans hx0
  have kc := kc.tr hk (fun s => cnt_mn (by decide))
  generalize hx16 : M47.1 4 19 = x16
  refine x_dup dX0_people_17 rfl ?_
  refine x_civ (b1 := 0) (b2 := 0) (ct_X4_init_176 (d := d + 0) g9 hx16) kX0_35 dX0_people_18 rfl rfl (Nat.le_of_ble_eq_true rfl) (fun M48 hq => ?_)
  obtain ⟨g9, hk⟩ := hq
  have hx0 := (hk 45 0 (by decide +kernel)).trans hx0
  have hx16 := (hk 4 19 (by decide +kernel)).trans hx16
  have kc := kc.tr hk (fun s => cnt_mn (by decide))
  refine r_aast (n := 178) (g := 45) (i := 0) (k := 15) (j := 19) (N := 16) g9 (by decide +kernel) rfl (by decide +kernel) (by decide +kernel) hx0 hx16 dX0_people_21 rfl (by decide) (by decide) (fun M49 g9 hk => ?_)
  have hx0 := (hk 45 0 (by decide +kernel)).trans hx0
  have hx16 := (hk 4 19 (by decide +kernel)).trans hx16
  have kc := kc.tr hk (fun s => cnt_mn (by decide))
  refine x_iincN 1 dX0_people_22 li_1 rfl (by decide) rfl ?_
  refine x_goto 7 dX0_people_25 (by decide) ?_
  refine x_iload_n dX0_people_7 rfl ?_
  refine x_iload_n dX0_people_8 rfl ?_
  refine x_icN_ge 28 dX0_people_9 (by decide) (by decide) (by decide) (fun h9 => ?_) (fun h9 => absurd h9 (by decide))
  refine x_aload_n dX0_people_28 rfl ?_
  refine x_aret dX0_people_29 rfl (Or.inr ⟨_, rfl⟩) ?_
  exact ⟨_, rfl, hx0.symm, g9, kc⟩
set_option maxRecDepth 100000 in
set_option maxHeartbeats 4000000 in
theorem ct_X4_init_184 {G : xG} {d : Nat} {M : xM} {a0 : Nat} (g9 : GSt 184 M) (ha0 : M.1 4 20 = a0) : Mt G vX4_init (d + 1) (1, 6) [.ref a0] M (qV (fun M' => GSt 186 M' ∧ KA 184 M M')) := by
  refine x_start (by decide) (Nat.le_of_ble_eq_true rfl) ?_
  have kc : KA 184 M M := KA.rf
  refine x_aload_n dX4_init_0 rfl ?_
  refine x_objinit dX4_init_1 (xm2 12 rfl rfl) (Nat.le_of_ble_eq_true rfl) ?_
  refine x_aload_n dX4_init_4 rfl ?_
  refine x_bipush dX4_init_5 lb_6 ?_
  refine r_arr (n := 184) (g := 43) (i := 20) (t := 0) (N := 6) (b1 := 0) (b2 := 0) g9 (by decide +kernel) rfl (by decide +kernel) dX4_init_7 rfl (by decide) rfl (by decide) (xm1 148 rfl rfl) (by decide +kernel) (fun M1 g9 hk => ?_)
  have ha0 := (hk 4 20 (by decide +kernel)).trans ha0
  have kc := kc.tr hk (fun s => cnt_mn (by decide))
  generalize hx0 : M1.1 43 20 = x0
  refine r_put (n := 185) (g := 4) (i := 20) (k := 3) (t := (43, 20)) g9 (by decide +kernel) rfl (by decide +kernel) (by decide +kernel) ha0 hx0 fsX4_9 dX4_init_9 rfl rfl rfl rfl (fun M2 g9 hk => ?_)
  have ha0 := (hk 4 20 (by decide +kernel)).trans ha0
  have hx0 := (hk 43 20 (by decide +kernel)).trans hx0
  have kc := kc.tr hk (fun s => cnt_mn (by decide))
  refine x_vret dX4_init_12 rfl ?_
  exact ⟨rfl, g9, kc⟩
set_option maxRecDepth 100000 in
set_option maxHeartbeats 4000000 in
theorem ct_X4_init_188 {G : xG} {d : Nat} {M : xM} {a0 : Nat} (g9 : GSt 188 M) (ha0 : M.1 4 21 = a0) : Mt G vX4_init (d + 1) (1, 6) [.ref a0] M (qV (fun M' => GSt 190 M' ∧ KA 188 M M')) := by
  refine x_start (by decide) (Nat.le_of_ble_eq_true rfl) ?_
  have kc : KA 188 M M := KA.rf
  refine x_aload_n dX4_init_0 rfl ?_
  refine x_objinit dX4_init_1 (xm2 12 rfl rfl) (Nat.le_of_ble_eq_true rfl) ?_
  refine x_aload_n dX4_init_4 rfl ?_
  refine x_bipush dX4_init_5 lb_6 ?_
  refine r_arr (n := 188) (g := 43) (i := 21) (t := 0) (N := 6) (b1 := 0) (b2 := 0) g9 (by decide +kernel) rfl (by decide +kernel) dX4_init_7 rfl (by decide) rfl (by decide) (xm1 148 rfl rfl) (by decide +kernel) (fun M1 g9 hk => ?_)
  have ha0 := (hk 4 21 (by decide +kernel)).trans ha0
  have kc := kc.tr hk (fun s => cnt_mn (by decide))
  generalize hx0 : M1.1 43 21 = x0
  refine r_put (n := 189) (g := 4) (i := 21) (k := 3) (t := (43, 21)) g9 (by decide +kernel) rfl (by decide +kernel) (by decide +kernel) ha0 hx0 fsX4_9 dX4_init_9 rfl rfl rfl rfl (fun M2 g9 hk => ?_)
  have ha0 := (hk 4 21 (by decide +kernel)).trans ha0
  have hx0 := (hk 43 21 (by decide +kernel)).trans hx0
  have kc := kc.tr hk (fun s => cnt_mn (by decide))
  refine x_vret dX4_init_12 rfl ?_
  exact ⟨rfl, g9, kc⟩
set_option maxRecDepth 100000 in
set_option maxHeartbeats 4000000 in
theorem ct_X4_init_192 {G : xG} {d : Nat} {M : xM} {a0 : Nat} (g9 : GSt 192 M) (ha0 : M.1 4 22 = a0) : Mt G vX4_init (d + 1) (1, 6) [.ref a0] M (qV (fun M' => GSt 194 M' ∧ KA 192 M M')) := by
  refine x_start (by decide) (Nat.le_of_ble_eq_true rfl) ?_
  have kc : KA 192 M M := KA.rf
  refine x_aload_n dX4_init_0 rfl ?_
  refine x_objinit dX4_init_1 (xm2 12 rfl rfl) (Nat.le_of_ble_eq_true rfl) ?_
  refine x_aload_n dX4_init_4 rfl ?_
  refine x_bipush dX4_init_5 lb_6 ?_
  refine r_arr (n := 192) (g := 43) (i := 22) (t := 0) (N := 6) (b1 := 0) (b2 := 0) g9 (by decide +kernel) rfl (by decide +kernel) dX4_init_7 rfl (by decide) rfl (by decide) (xm1 148 rfl rfl) (by decide +kernel) (fun M1 g9 hk => ?_)
  have ha0 := (hk 4 22 (by decide +kernel)).trans ha0
  have kc := kc.tr hk (fun s => cnt_mn (by decide))
  generalize hx0 : M1.1 43 22 = x0
  refine r_put (n := 193) (g := 4) (i := 22) (k := 3) (t := (43, 22)) g9 (by decide +kernel) rfl (by decide +kernel) (by decide +kernel) ha0 hx0 fsX4_9 dX4_init_9 rfl rfl rfl rfl (fun M2 g9 hk => ?_)
  have ha0 := (hk 4 22 (by decide +kernel)).trans ha0
  have hx0 := (hk 43 22 (by decide +kernel)).trans hx0
  have kc := kc.tr hk (fun s => cnt_mn (by decide))
  refine x_vret dX4_init_12 rfl ?_
  exact ⟨rfl, g9, kc⟩
set_option maxRecDepth 100000 in
set_option maxHeartbeats 4000000 in
theorem ct_X4_init_196 {G : xG} {d : Nat} {M : xM} {a0 : Nat} (g9 : GSt 196 M) (ha0 : M.1 4 23 = a0) : Mt G vX4_init (d + 1) (1, 6) [.ref a0] M (qV (fun M' => GSt 198 M' ∧ KA 196 M M')) := by
  refine x_start (by decide) (Nat.le_of_ble_eq_true rfl) ?_
  have kc : KA 196 M M := KA.rf
  refine x_aload_n dX4_init_0 rfl ?_
  refine x_objinit dX4_init_1 (xm2 12 rfl rfl) (Nat.le_of_ble_eq_true rfl) ?_
  refine x_aload_n dX4_init_4 rfl ?_
  refine x_bipush dX4_init_5 lb_6 ?_
  refine r_arr (n := 196) (g := 43) (i := 23) (t := 0) (N := 6) (b1 := 0) (b2 := 0) g9 (by decide +kernel) rfl (by decide +kernel) dX4_init_7 rfl (by decide) rfl (by decide) (xm1 148 rfl rfl) (by decide +kernel) (fun M1 g9 hk => ?_)
  have ha0 := (hk 4 23 (by decide +kernel)).trans ha0
  have kc := kc.tr hk (fun s => cnt_mn (by decide))
  generalize hx0 : M1.1 43 23 = x0
  refine r_put (n := 197) (g := 4) (i := 23) (k := 3) (t := (43, 23)) g9 (by decide +kernel) rfl (by decide +kernel) (by decide +kernel) ha0 hx0 fsX4_9 dX4_init_9 rfl rfl rfl rfl (fun M2 g9 hk => ?_)
  have ha0 := (hk 4 23 (by decide +kernel)).trans ha0
  have hx0 := (hk 43 23 (by decide +kernel)).trans hx0
  have kc := kc.tr hk (fun s => cnt_mn (by decide))
  refine x_vret dX4_init_12 rfl ?_
  exact ⟨rfl, g9, kc⟩
set_option maxRecDepth 100000 in
set_option maxHeartbeats 4000000 in
theorem ct_X4_init_200 {G : xG} {d : Nat} {M : xM} {a0 : Nat} (g9 : GSt 200 M) (ha0 : M.1 4 24 = a0) : Mt G vX4_init (d + 1) (1, 6) [.ref a0] M (qV (fun M' => GSt 202 M' ∧ KA 200 M M')) := by
  refine x_start (by decide) (Nat.le_of_ble_eq_true rfl) ?_
  have kc : KA 200 M M := KA.rf
  refine x_aload_n dX4_init_0 rfl ?_
  refine x_objinit dX4_init_1 (xm2 12 rfl rfl) (Nat.le_of_ble_eq_true rfl) ?_
  refine x_aload_n dX4_init_4 rfl ?_
  refine x_bipush dX4_init_5 lb_6 ?_
  refine r_arr (n := 200) (g := 43) (i := 24) (t := 0) (N := 6) (b1 := 0) (b2 := 0) g9 (by decide +kernel) rfl (by decide +kernel) dX4_init_7 rfl (by decide) rfl (by decide) (xm1 148 rfl rfl) (by decide +kernel) (fun M1 g9 hk => ?_)
  have ha0 := (hk 4 24 (by decide +kernel)).trans ha0
  have kc := kc.tr hk (fun s => cnt_mn (by decide))
  generalize hx0 : M1.1 43 24 = x0
  refine r_put (n := 201) (g := 4) (i := 24) (k := 3) (t := (43, 24)) g9 (by decide +kernel) rfl (by decide +kernel) (by decide +kernel) ha0 hx0 fsX4_9 dX4_init_9 rfl rfl rfl rfl (fun M2 g9 hk => ?_)
  have ha0 := (hk 4 24 (by decide +kernel)).trans ha0
  have hx0 := (hk 43 24 (by decide +kernel)).trans hx0
  have kc := kc.tr hk (fun s => cnt_mn (by decide))
  refine x_vret dX4_init_12 rfl ?_
  exact ⟨rfl, g9, kc⟩
set_option maxRecDepth 100000 in
set_option maxHeartbeats 4000000 in
theorem ct_X4_init_204 {G : xG} {d : Nat} {M : xM} {a0 : Nat} (g9 : GSt 204 M) (ha0 : M.1 4 25 = a0) : Mt G vX4_init (d + 1) (1, 6) [.ref a0] M (qV (fun M' => GSt 206 M' ∧ KA 204 M M')) := by
  refine x_start (by decide) (Nat.le_of_ble_eq_true rfl) ?_
  have kc : KA 204 M M := KA.rf
  refine x_aload_n dX4_init_0 rfl ?_
  refine x_objinit dX4_init_1 (xm2 12 rfl rfl) (Nat.le_of_ble_eq_true rfl) ?_
  refine x_aload_n dX4_init_4 rfl ?_
  refine x_bipush dX4_init_5 lb_6 ?_
  refine r_arr (n := 204) (g := 43) (i := 25) (t := 0) (N := 6) (b1 := 0) (b2 := 0) g9 (by decide +kernel) rfl (by decide +kernel) dX4_init_7 rfl (by decide) rfl (by decide) (xm1 148 rfl rfl) (by decide +kernel) (fun M1 g9 hk => ?_)
  have ha0 := (hk 4 25 (by decide +kernel)).trans ha0
  have kc := kc.tr hk (fun s => cnt_mn (by decide))
  generalize hx0 : M1.1 43 25 = x0
  refine r_put (n := 205) (g := 4) (i := 25) (k := 3) (t := (43, 25)) g9 (by decide +kernel) rfl (by decide +kernel) (by decide +kernel) ha0 hx0 fsX4_9 dX4_init_9 rfl rfl rfl rfl (fun M2 g9 hk => ?_)
  have ha0 := (hk 4 25 (by decide +kernel)).trans ha0
  have hx0 := (hk 43 25 (by decide +kernel)).trans hx0
  have kc := kc.tr hk (fun s => cnt_mn (by decide))
  refine x_vret dX4_init_12 rfl ?_
  exact ⟨rfl, g9, kc⟩
set_option maxRecDepth 100000 in
set_option maxHeartbeats 4000000 in
theorem ct_X4_init_208 {G : xG} {d : Nat} {M : xM} {a0 : Nat} (g9 : GSt 208 M) (ha0 : M.1 4 26 = a0) : Mt G vX4_init (d + 1) (1, 6) [.ref a0] M (qV (fun M' => GSt 210 M' ∧ KA 208 M M')) := by
  refine x_start (by decide) (Nat.le_of_ble_eq_true rfl) ?_
  have kc : KA 208 M M := KA.rf
  refine x_aload_n dX4_init_0 rfl ?_
  refine x_objinit dX4_init_1 (xm2 12 rfl rfl) (Nat.le_of_ble_eq_true rfl) ?_
  refine x_aload_n dX4_init_4 rfl ?_
  refine x_bipush dX4_init_5 lb_6 ?_
  refine r_arr (n := 208) (g := 43) (i := 26) (t := 0) (N := 6) (b1 := 0) (b2 := 0) g9 (by decide +kernel) rfl (by decide +kernel) dX4_init_7 rfl (by decide) rfl (by decide) (xm1 148 rfl rfl) (by decide +kernel) (fun M1 g9 hk => ?_)
  have ha0 := (hk 4 26 (by decide +kernel)).trans ha0
  have kc := kc.tr hk (fun s => cnt_mn (by decide))
  generalize hx0 : M1.1 43 26 = x0
  refine r_put (n := 209) (g := 4) (i := 26) (k := 3) (t := (43, 26)) g9 (by decide +kernel) rfl (by decide +kernel) (by decide +kernel) ha0 hx0 fsX4_9 dX4_init_9 rfl rfl rfl rfl (fun M2 g9 hk => ?_)
  have ha0 := (hk 4 26 (by decide +kernel)).trans ha0
  have hx0 := (hk 43 26 (by decide +kernel)).trans hx0
  have kc := kc.tr hk (fun s => cnt_mn (by decide))
  refine x_vret dX4_init_12 rfl ?_
  exact ⟨rfl, g9, kc⟩
set_option maxRecDepth 100000 in
set_option maxHeartbeats 4000000 in
theorem ct_X4_init_212 {G : xG} {d : Nat} {M : xM} {a0 : Nat} (g9 : GSt 212 M) (ha0 : M.1 4 27 = a0) : Mt G vX4_init (d + 1) (1, 6) [.ref a0] M (qV (fun M' => GSt 214 M' ∧ KA 212 M M')) := by
  refine x_start (by decide) (Nat.le_of_ble_eq_true rfl) ?_
  have kc : KA 212 M M := KA.rf
  refine x_aload_n dX4_init_0 rfl ?_
  refine x_objinit dX4_init_1 (xm2 12 rfl rfl) (Nat.le_of_ble_eq_true rfl) ?_
  refine x_aload_n dX4_init_4 rfl ?_
  refine x_bipush dX4_init_5 lb_6 ?_
  refine r_arr (n := 212) (g := 43) (i := 27) (t := 0) (N := 6) (b1 := 0) (b2 := 0) g9 (by decide +kernel) rfl (by decide +kernel) dX4_init_7 rfl (by decide) rfl (by decide) (xm1 148 rfl rfl) (by decide +kernel) (fun M1 g9 hk => ?_)
  have ha0 := (hk 4 27 (by decide +kernel)).trans ha0
  have kc := kc.tr hk (fun s => cnt_mn (by decide))
  generalize hx0 : M1.1 43 27 = x0
  refine r_put (n := 213) (g := 4) (i := 27) (k := 3) (t := (43, 27)) g9 (by decide +kernel) rfl (by decide +kernel) (by decide +kernel) ha0 hx0 fsX4_9 dX4_init_9 rfl rfl rfl rfl (fun M2 g9 hk => ?_)
  have ha0 := (hk 4 27 (by decide +kernel)).trans ha0
  have hx0 := (hk 43 27 (by decide +kernel)).trans hx0
  have kc := kc.tr hk (fun s => cnt_mn (by decide))
  refine x_vret dX4_init_12 rfl ?_
  exact ⟨rfl, g9, kc⟩
set_option maxRecDepth 100000 in
set_option maxHeartbeats 4000000 in
theorem ct_X4_init_216 {G : xG} {d : Nat} {M : xM} {a0 : Nat} (g9 : GSt 216 M) (ha0 : M.1 4 28 = a0) : Mt G vX4_init (d + 1) (1, 6) [.ref a0] M (qV (fun M' => GSt 218 M' ∧ KA 216 M M')) := by
  refine x_start (by decide) (Nat.le_of_ble_eq_true rfl) ?_
  have kc : KA 216 M M := KA.rf
  refine x_aload_n dX4_init_0 rfl ?_
  refine x_objinit dX4_init_1 (xm2 12 rfl rfl) (Nat.le_of_ble_eq_true rfl) ?_
  refine x_aload_n dX4_init_4 rfl ?_
  refine x_bipush dX4_init_5 lb_6 ?_
  refine r_arr (n := 216) (g := 43) (i := 28) (t := 0) (N := 6) (b1 := 0) (b2 := 0) g9 (by decide +kernel) rfl (by decide +kernel) dX4_init_7 rfl (by decide) rfl (by decide) (xm1 148 rfl rfl) (by decide +kernel) (fun M1 g9 hk => ?_)
  have ha0 := (hk 4 28 (by decide +kernel)).trans ha0
  have kc := kc.tr hk (fun s => cnt_mn (by decide))
  generalize hx0 : M1.1 43 28 = x0
  refine r_put (n := 217) (g := 4) (i := 28) (k := 3) (t := (43, 28)) g9 (by decide +kernel) rfl (by decide +kernel) (by decide +kernel) ha0 hx0 fsX4_9 dX4_init_9 rfl rfl rfl rfl (fun M2 g9 hk => ?_)
  have ha0 := (hk 4 28 (by decide +kernel)).trans ha0
  have hx0 := (hk 43 28 (by decide +kernel)).trans hx0
  have kc := kc.tr hk (fun s => cnt_mn (by decide))
  refine x_vret dX4_init_12 rfl ?_
  exact ⟨rfl, g9, kc⟩
set_option maxRecDepth 100000 in
set_option maxHeartbeats 4000000 in
theorem ct_X4_init_220 {G : xG} {d : Nat} {M : xM} {a0 : Nat} (g9 : GSt 220 M) (ha0 : M.1 4 29 = a0) : Mt G vX4_init (d + 1) (1, 6) [.ref a0] M (qV (fun M' => GSt 222 M' ∧ KA 220 M M')) := by
  refine x_start (by decide) (Nat.le_of_ble_eq_true rfl) ?_
  have kc : KA 220 M M := KA.rf
  refine x_aload_n dX4_init_0 rfl ?_
  refine x_objinit dX4_init_1 (xm2 12 rfl rfl) (Nat.le_of_ble_eq_true rfl) ?_
  refine x_aload_n dX4_init_4 rfl ?_
  refine x_bipush dX4_init_5 lb_6 ?_
  refine r_arr (n := 220) (g := 43) (i := 29) (t := 0) (N := 6) (b1 := 0) (b2 := 0) g9 (by decide +kernel) rfl (by decide +kernel) dX4_init_7 rfl (by decide) rfl (by decide) (xm1 148 rfl rfl) (by decide +kernel) (fun M1 g9 hk => ?_)
  have ha0 := (hk 4 29 (by decide +kernel)).trans ha0
  have kc := kc.tr hk (fun s => cnt_mn (by decide))
  generalize hx0 : M1.1 43 29 = x0
  refine r_put (n := 221) (g := 4) (i := 29) (k := 3) (t := (43, 29)) g9 (by decide +kernel) rfl (by decide +kernel) (by decide +kernel) ha0 hx0 fsX4_9 dX4_init_9 rfl rfl rfl rfl (fun M2 g9 hk => ?_)
  have ha0 := (hk 4 29 (by decide +kernel)).trans ha0
  have hx0 := (hk 43 29 (by decide +kernel)).trans hx0
  have kc := kc.tr hk (fun s => cnt_mn (by decide))
  refine x_vret dX4_init_12 rfl ?_
  exact ⟨rfl, g9, kc⟩
set_option maxRecDepth 100000 in
set_option maxHeartbeats 4000000 in
theorem ct_X4_init_224 {G : xG} {d : Nat} {M : xM} {a0 : Nat} (g9 : GSt 224 M) (ha0 : M.1 4 30 = a0) : Mt G vX4_init (d + 1) (1, 6) [.ref a0] M (qV (fun M' => GSt 226 M' ∧ KA 224 M M')) := by
  refine x_start (by decide) (Nat.le_of_ble_eq_true rfl) ?_
  have kc : KA 224 M M := KA.rf
  refine x_aload_n dX4_init_0 rfl ?_
  refine x_objinit dX4_init_1 (xm2 12 rfl rfl) (Nat.le_of_ble_eq_true rfl) ?_
  refine x_aload_n dX4_init_4 rfl ?_
  refine x_bipush dX4_init_5 lb_6 ?_
  refine r_arr (n := 224) (g := 43) (i := 30) (t := 0) (N := 6) (b1 := 0) (b2 := 0) g9 (by decide +kernel) rfl (by decide +kernel) dX4_init_7 rfl (by decide) rfl (by decide) (xm1 148 rfl rfl) (by decide +kernel) (fun M1 g9 hk => ?_)
  have ha0 := (hk 4 30 (by decide +kernel)).trans ha0
  have kc := kc.tr hk (fun s => cnt_mn (by decide))
  generalize hx0 : M1.1 43 30 = x0
  refine r_put (n := 225) (g := 4) (i := 30) (k := 3) (t := (43, 30)) g9 (by decide +kernel) rfl (by decide +kernel) (by decide +kernel) ha0 hx0 fsX4_9 dX4_init_9 rfl rfl rfl rfl (fun M2 g9 hk => ?_)
  have ha0 := (hk 4 30 (by decide +kernel)).trans ha0
  have hx0 := (hk 43 30 (by decide +kernel)).trans hx0
  have kc := kc.tr hk (fun s => cnt_mn (by decide))
  refine x_vret dX4_init_12 rfl ?_
  exact ⟨rfl, g9, kc⟩
set_option maxRecDepth 100000 in
set_option maxHeartbeats 4000000 in
theorem ct_X4_init_228 {G : xG} {d : Nat} {M : xM} {a0 : Nat} (g9 : GSt 228 M) (ha0 : M.1 4 31 = a0) : Mt G vX4_init (d + 1) (1, 6) [.ref a0] M (qV (fun M' => GSt 230 M' ∧ KA 228 M M')) := by
  refine x_start (by decide) (Nat.le_of_ble_eq_true rfl) ?_
  have kc : KA 228 M M := KA.rf
  refine x_aload_n dX4_init_0 rfl ?_
  refine x_objinit dX4_init_1 (xm2 12 rfl rfl) (Nat.le_of_ble_eq_true rfl) ?_
  refine x_aload_n dX4_init_4 rfl ?_
  refine x_bipush dX4_init_5 lb_6 ?_
  refine r_arr (n := 228) (g := 43) (i := 31) (t := 0) (N := 6) (b1 := 0) (b2 := 0) g9 (by decide +kernel) rfl (by decide +kernel) dX4_init_7 rfl (by decide) rfl (by decide) (xm1 148 rfl rfl) (by decide +kernel) (fun M1 g9 hk => ?_)
  have ha0 := (hk 4 31 (by decide +kernel)).trans ha0
  have kc := kc.tr hk (fun s => cnt_mn (by decide))
  generalize hx0 : M1.1 43 31 = x0
  refine r_put (n := 229) (g := 4) (i := 31) (k := 3) (t := (43, 31)) g9 (by decide +kernel) rfl (by decide +kernel) (by decide +kernel) ha0 hx0 fsX4_9 dX4_init_9 rfl rfl rfl rfl (fun M2 g9 hk => ?_)
  have ha0 := (hk 4 31 (by decide +kernel)).trans ha0
  have hx0 := (hk 43 31 (by decide +kernel)).trans hx0
  have kc := kc.tr hk (fun s => cnt_mn (by decide))
  refine x_vret dX4_init_12 rfl ?_
  exact ⟨rfl, g9, kc⟩
set_option maxRecDepth 100000 in
set_option maxHeartbeats 4000000 in
theorem ct_X0_people_182 {G : xG} {d : Nat} {M : xM} (g9 : GSt 182 M) : Mt G vX0_people (d + 2) (25, 132) [.int (nI 12)] M (qR (fun r M' => r = M'.1 46 0 ∧ GSt 231 M' ∧ KA 182 M M')) := by
  refine x_start (by decide) (Nat.le_of_ble_eq_true rfl) ?_
  have kc : KA 182 M M := KA.rf
  refine x_iload_n dX0_people_0 rfl ?_
  refine r_anew (n := 182) (g := 46) (i := 0) (N := 12) (b1 := 24) (b2 := 120) g9 (by decide +kernel) rfl (by decide +kernel) dX0_people_1 (xm2 6 rfl rfl) rfl (by decide) (by decide +kernel) (fun M1 g9 hk => ?_)
  have kc := kc.tr hk (fun s => cnt_mn (by decide))
  generalize hx0 : M1.1 46 0 = x0
  refine x_astore_n dX0_people_4 (by decide) rfl ?_
  refine x_iconst dX0_people_5 li_0 ?_
  refine x_istore_n dX0_people_6 (by decide) rfl ?_
  refine x_iload_n dX0_people_7 rfl ?_
  refine x_iload_n dX0_people_8 rfl ?_
  refine x_icN_ge 28 dX0_people_9 (by decide) (by decide) (by decide) (fun h9 => absurd h9 (by decide)) (fun h9 => ?_)
  refine x_aload_n dX0_people_12 rfl ?_
  refine x_iload_n dX0_people_13 rfl ?_
  refine r_obj (n := 183) (g := 4) (i := 20) (cn := 4) (T := TX4) (N := 4) (b1 := 23) (b2 := 116) g9 (by decide +kernel) rfl (by decide +kernel) dX0_people_14 (xm2 6 rfl rfl) (xm2 8 rfl rfl) (xm1 7 rfl rfl) rfl rfl (by decide +kernel) rfl (by decide +kernel) (fun M2 g9 hk => ?_)
  have hx0 := (hk 46 0 (by decide +kernel)).trans hx0
  have kc := kc.tr hk (fun s => cnt_mn (by decide))
  generalize hx1 : M2.1 4 20 = x1
  refine x_dup dX0_people_17 rfl ?_
  refine x_civ (b1 := 22) (b2 := 110) (ct_X4_init_184 (d := d + 0) g9 hx1) kX0_35 dX0_people_18 rfl rfl (Nat.le_of_ble_eq_true rfl) (fun M3 hq => ?_)
  obtain ⟨g9, hk⟩ := hq
  have hx0 := (hk 46 0 (by decide +kernel)).trans hx0
  have hx1 := (hk 4 20 (by decide +kernel)).trans hx1
  have kc := kc.tr hk (fun s => cnt_mn (by decide))
  refine r_aast (n := 186) (g := 46) (i := 0) (k := 0) (j := 20) (N := 12) g9 (by decide +kernel) rfl (by decide +kernel) (by decide +kernel) hx0 hx1 dX0_people_21 rfl (by decide) (by decide) (fun M4 g9 hk => ?_)
  have hx0 := (hk 46 0 (by decide +kernel)).trans hx0
  have hx1 := (hk 4 20 (by decide +kernel)).trans hx1
  have kc := kc.tr hk (fun s => cnt_mn (by decide))
  refine x_iincN 1 dX0_people_22 li_1 rfl (by decide) rfl ?_
  refine x_goto 7 dX0_people_25 (by decide) ?_
  refine x_iload_n dX0_people_7 rfl ?_
  refine x_iload_n dX0_people_8 rfl ?_
  refine x_icN_ge 28 dX0_people_9 (by decide) (by decide) (by decide) (fun h9 => absurd h9 (by decide)) (fun h9 => ?_)
  refine x_aload_n dX0_people_12 rfl ?_
  refine x_iload_n dX0_people_13 rfl ?_
  refine r_obj (n := 187) (g := 4) (i := 21) (cn := 4) (T := TX4) (N := 4) (b1 := 21) (b2 := 106) g9 (by decide +kernel) rfl (by decide +kernel) dX0_people_14 (xm2 6 rfl rfl) (xm2 8 rfl rfl) (xm1 7 rfl rfl) rfl rfl (by decide +kernel) rfl (by decide +kernel) (fun M5 g9 hk => ?_)
  have hx0 := (hk 46 0 (by decide +kernel)).trans hx0
  have kc := kc.tr hk (fun s => cnt_mn (by decide))
  generalize hx2 : M5.1 4 21 = x2
  refine x_dup dX0_people_17 rfl ?_
  refine x_civ (b1 := 20) (b2 := 100) (ct_X4_init_188 (d := d + 0) g9 hx2) kX0_35 dX0_people_18 rfl rfl (Nat.le_of_ble_eq_true rfl) (fun M6 hq => ?_)
  obtain ⟨g9, hk⟩ := hq
  have hx0 := (hk 46 0 (by decide +kernel)).trans hx0
  have hx2 := (hk 4 21 (by decide +kernel)).trans hx2
  have kc := kc.tr hk (fun s => cnt_mn (by decide))
  refine r_aast (n := 190) (g := 46) (i := 0) (k := 1) (j := 21) (N := 12) g9 (by decide +kernel) rfl (by decide +kernel) (by decide +kernel) hx0 hx2 dX0_people_21 rfl (by decide) (by decide) (fun M7 g9 hk => ?_)
  have hx0 := (hk 46 0 (by decide +kernel)).trans hx0
  have hx2 := (hk 4 21 (by decide +kernel)).trans hx2
  have kc := kc.tr hk (fun s => cnt_mn (by decide))
  refine x_iincN 1 dX0_people_22 li_1 rfl (by decide) rfl ?_
  refine x_goto 7 dX0_people_25 (by decide) ?_
  refine x_iload_n dX0_people_7 rfl ?_
  refine x_iload_n dX0_people_8 rfl ?_
  refine x_icN_ge 28 dX0_people_9 (by decide) (by decide) (by decide) (fun h9 => absurd h9 (by decide)) (fun h9 => ?_)
  refine x_aload_n dX0_people_12 rfl ?_
  refine x_iload_n dX0_people_13 rfl ?_
  refine r_obj (n := 191) (g := 4) (i := 22) (cn := 4) (T := TX4) (N := 4) (b1 := 19) (b2 := 96) g9 (by decide +kernel) rfl (by decide +kernel) dX0_people_14 (xm2 6 rfl rfl) (xm2 8 rfl rfl) (xm1 7 rfl rfl) rfl rfl (by decide +kernel) rfl (by decide +kernel) (fun M8 g9 hk => ?_)
  have hx0 := (hk 46 0 (by decide +kernel)).trans hx0
  have kc := kc.tr hk (fun s => cnt_mn (by decide))
  generalize hx3 : M8.1 4 22 = x3
  refine x_dup dX0_people_17 rfl ?_
  refine x_civ (b1 := 18) (b2 := 90) (ct_X4_init_192 (d := d + 0) g9 hx3) kX0_35 dX0_people_18 rfl rfl (Nat.le_of_ble_eq_true rfl) (fun M9 hq => ?_)
  obtain ⟨g9, hk⟩ := hq
  have hx0 := (hk 46 0 (by decide +kernel)).trans hx0
  have hx3 := (hk 4 22 (by decide +kernel)).trans hx3
  have kc := kc.tr hk (fun s => cnt_mn (by decide))
  refine r_aast (n := 194) (g := 46) (i := 0) (k := 2) (j := 22) (N := 12) g9 (by decide +kernel) rfl (by decide +kernel) (by decide +kernel) hx0 hx3 dX0_people_21 rfl (by decide) (by decide) (fun M10 g9 hk => ?_)
  have hx0 := (hk 46 0 (by decide +kernel)).trans hx0
  have hx3 := (hk 4 22 (by decide +kernel)).trans hx3
  have kc := kc.tr hk (fun s => cnt_mn (by decide))
  refine x_iincN 1 dX0_people_22 li_1 rfl (by decide) rfl ?_
  refine x_goto 7 dX0_people_25 (by decide) ?_
  refine x_iload_n dX0_people_7 rfl ?_
  refine x_iload_n dX0_people_8 rfl ?_
  refine x_icN_ge 28 dX0_people_9 (by decide) (by decide) (by decide) (fun h9 => absurd h9 (by decide)) (fun h9 => ?_)
  refine x_aload_n dX0_people_12 rfl ?_
  refine x_iload_n dX0_people_13 rfl ?_
  refine r_obj (n := 195) (g := 4) (i := 23) (cn := 4) (T := TX4) (N := 4) (b1 := 17) (b2 := 86) g9 (by decide +kernel) rfl (by decide +kernel) dX0_people_14 (xm2 6 rfl rfl) (xm2 8 rfl rfl) (xm1 7 rfl rfl) rfl rfl (by decide +kernel) rfl (by decide +kernel) (fun M11 g9 hk => ?_)
  have hx0 := (hk 46 0 (by decide +kernel)).trans hx0
  have kc := kc.tr hk (fun s => cnt_mn (by decide))
  generalize hx4 : M11.1 4 23 = x4
  refine x_dup dX0_people_17 rfl ?_
  refine x_civ (b1 := 16) (b2 := 80) (ct_X4_init_196 (d := d + 0) g9 hx4) kX0_35 dX0_people_18 rfl rfl (Nat.le_of_ble_eq_true rfl) (fun M12 hq => ?_)
  obtain ⟨g9, hk⟩ := hq
  have hx0 := (hk 46 0 (by decide +kernel)).trans hx0
  have hx4 := (hk 4 23 (by decide +kernel)).trans hx4
  have kc := kc.tr hk (fun s => cnt_mn (by decide))
  refine r_aast (n := 198) (g := 46) (i := 0) (k := 3) (j := 23) (N := 12) g9 (by decide +kernel) rfl (by decide +kernel) (by decide +kernel) hx0 hx4 dX0_people_21 rfl (by decide) (by decide) (fun M13 g9 hk => ?_)
  have hx0 := (hk 46 0 (by decide +kernel)).trans hx0
  have hx4 := (hk 4 23 (by decide +kernel)).trans hx4
  have kc := kc.tr hk (fun s => cnt_mn (by decide))
  refine x_iincN 1 dX0_people_22 li_1 rfl (by decide) rfl ?_
  refine x_goto 7 dX0_people_25 (by decide) ?_
  refine x_iload_n dX0_people_7 rfl ?_
  refine x_iload_n dX0_people_8 rfl ?_
  refine x_icN_ge 28 dX0_people_9 (by decide) (by decide) (by decide) (fun h9 => absurd h9 (by decide)) (fun h9 => ?_)
  refine x_aload_n dX0_people_12 rfl ?_
  refine x_iload_n dX0_people_13 rfl ?_
  refine r_obj (n := 199) (g := 4) (i := 24) (cn := 4) (T := TX4) (N := 4) (b1 := 15) (b2 := 76) g9 (by decide +kernel) rfl (by decide +kernel) dX0_people_14 (xm2 6 rfl rfl) (xm2 8 rfl rfl) (xm1 7 rfl rfl) rfl rfl (by decide +kernel) rfl (by decide +kernel) (fun M14 g9 hk => ?_)
  have hx0 := (hk 46 0 (by decide +kernel)).trans hx0
  have kc := kc.tr hk (fun s => cnt_mn (by decide))
  generalize hx5 : M14.1 4 24 = x5
  refine x_dup dX0_people_17 rfl ?_
  refine x_civ (b1 := 14) (b2 := 70) (ct_X4_init_200 (d := d + 0) g9 hx5) kX0_35 dX0_people_18 rfl rfl (Nat.le_of_ble_eq_true rfl) (fun M15 hq => ?_)
  obtain ⟨g9, hk⟩ := hq
  have hx0 := (hk 46 0 (by decide +kernel)).trans hx0
  have hx5 := (hk 4 24 (by decide +kernel)).trans hx5
  have kc := kc.tr hk (fun s => cnt_mn (by decide))
  refine r_aast (n := 202) (g := 46) (i := 0) (k := 4) (j := 24) (N := 12) g9 (by decide +kernel) rfl (by decide +kernel) (by decide +kernel) hx0 hx5 dX0_people_21 rfl (by decide) (by decide) (fun M16 g9 hk => ?_)
  have hx0 := (hk 46 0 (by decide +kernel)).trans hx0
  have hx5 := (hk 4 24 (by decide +kernel)).trans hx5
  have kc := kc.tr hk (fun s => cnt_mn (by decide))
  refine x_iincN 1 dX0_people_22 li_1 rfl (by decide) rfl ?_
  refine x_goto 7 dX0_people_25 (by decide) ?_
  refine x_iload_n dX0_people_7 rfl ?_
  refine x_iload_n dX0_people_8 rfl ?_
  refine x_icN_ge 28 dX0_people_9 (by decide) (by decide) (by decide) (fun h9 => absurd h9 (by decide)) (fun h9 => ?_)
  refine x_aload_n dX0_people_12 rfl ?_
  refine x_iload_n dX0_people_13 rfl ?_
  refine r_obj (n := 203) (g := 4) (i := 25) (cn := 4) (T := TX4) (N := 4) (b1 := 13) (b2 := 66) g9 (by decide +kernel) rfl (by decide +kernel) dX0_people_14 (xm2 6 rfl rfl) (xm2 8 rfl rfl) (xm1 7 rfl rfl) rfl rfl (by decide +kernel) rfl (by decide +kernel) (fun M17 g9 hk => ?_)
  have hx0 := (hk 46 0 (by decide +kernel)).trans hx0
  have kc := kc.tr hk (fun s => cnt_mn (by decide))
  generalize hx6 : M17.1 4 25 = x6
  refine x_dup dX0_people_17 rfl ?_
  refine x_civ (b1 := 12) (b2 := 60) (ct_X4_init_204 (d := d + 0) g9 hx6) kX0_35 dX0_people_18 rfl rfl (Nat.le_of_ble_eq_true rfl) (fun M18 hq => ?_)
  obtain ⟨g9, hk⟩ := hq
  have hx0 := (hk 46 0 (by decide +kernel)).trans hx0
  have hx6 := (hk 4 25 (by decide +kernel)).trans hx6
  have kc := kc.tr hk (fun s => cnt_mn (by decide))
  refine r_aast (n := 206) (g := 46) (i := 0) (k := 5) (j := 25) (N := 12) g9 (by decide +kernel) rfl (by decide +kernel) (by decide +kernel) hx0 hx6 dX0_people_21 rfl (by decide) (by decide) (fun M19 g9 hk => ?_)
  have hx0 := (hk 46 0 (by decide +kernel)).trans hx0
  have hx6 := (hk 4 25 (by decide +kernel)).trans hx6
  have kc := kc.tr hk (fun s => cnt_mn (by decide))
  refine x_iincN 1 dX0_people_22 li_1 rfl (by decide) rfl ?_
  refine x_goto 7 dX0_people_25 (by decide) ?_
  refine x_iload_n dX0_people_7 rfl ?_
  refine x_iload_n dX0_people_8 rfl ?_
  refine x_icN_ge 28 dX0_people_9 (by decide) (by decide) (by decide) (fun h9 => absurd h9 (by decide)) (fun h9 => ?_)
  refine x_aload_n dX0_people_12 rfl ?_
  refine x_iload_n dX0_people_13 rfl ?_
  refine r_obj (n := 207) (g := 4) (i := 26) (cn := 4) (T := TX4) (N := 4) (b1 := 11) (b2 := 56) g9 (by decide +kernel) rfl (by decide +kernel) dX0_people_14 (xm2 6 rfl rfl) (xm2 8 rfl rfl) (xm1 7 rfl rfl) rfl rfl (by decide +kernel) rfl (by decide +kernel) (fun M20 g9 hk => ?_)
  have hx0 := (hk 46 0 (by decide +kernel)).trans hx0
  have kc := kc.tr hk (fun s => cnt_mn (by decide))
  generalize hx7 : M20.1 4 26 = x7
  refine x_dup dX0_people_17 rfl ?_
  refine x_civ (b1 := 10) (b2 := 50) (ct_X4_init_208 (d := d + 0) g9 hx7) kX0_35 dX0_people_18 rfl rfl (Nat.le_of_ble_eq_true rfl) (fun M21 hq => ?_)
  obtain ⟨g9, hk⟩ := hq
  have hx0 := (hk 46 0 (by decide +kernel)).trans hx0
  have hx7 := (hk 4 26 (by decide +kernel)).trans hx7
  have kc := kc.tr hk (fun s => cnt_mn (by decide))
  refine r_aast (n := 210) (g := 46) (i := 0) (k := 6) (j := 26) (N := 12) g9 (by decide +kernel) rfl (by decide +kernel) (by decide +kernel) hx0 hx7 dX0_people_21 rfl (by decide) (by decide) (fun M22 g9 hk => ?_)
  have hx0 := (hk 46 0 (by decide +kernel)).trans hx0
  have hx7 := (hk 4 26 (by decide +kernel)).trans hx7
  have kc := kc.tr hk (fun s => cnt_mn (by decide))
  refine x_iincN 1 dX0_people_22 li_1 rfl (by decide) rfl ?_
  refine x_goto 7 dX0_people_25 (by decide) ?_
  refine x_iload_n dX0_people_7 rfl ?_
  refine x_iload_n dX0_people_8 rfl ?_
  refine x_icN_ge 28 dX0_people_9 (by decide) (by decide) (by decide) (fun h9 => absurd h9 (by decide)) (fun h9 => ?_)
  refine x_aload_n dX0_people_12 rfl ?_
  refine x_iload_n dX0_people_13 rfl ?_
  refine r_obj (n := 211) (g := 4) (i := 27) (cn := 4) (T := TX4) (N := 4) (b1 := 9) (b2 := 46) g9 (by decide +kernel) rfl (by decide +kernel) dX0_people_14 (xm2 6 rfl rfl) (xm2 8 rfl rfl) (xm1 7 rfl rfl) rfl rfl (by decide +kernel) rfl (by decide +kernel) (fun M23 g9 hk => ?_)
  have hx0 := (hk 46 0 (by decide +kernel)).trans hx0
  have kc := kc.tr hk (fun s => cnt_mn (by decide))
  generalize hx8 : M23.1 4 27 = x8
  refine x_dup dX0_people_17 rfl ?_
  refine x_civ (b1 := 8) (b2 := 40) (ct_X4_init_212 (d := d + 0) g9 hx8) kX0_35 dX0_people_18 rfl rfl (Nat.le_of_ble_eq_true rfl) (fun M24 hq => ?_)
  obtain ⟨g9, hk⟩ := hq
  have hx0 := (hk 46 0 (by decide +kernel)).trans hx0
  have hx8 := (hk 4 27 (by decide +kernel)).trans hx8
  have kc := kc.tr hk (fun s => cnt_mn (by decide))
  refine r_aast (n := 214) (g := 46) (i := 0) (k := 7) (j := 27) (N := 12) g9 (by decide +kernel) rfl (by decide +kernel) (by decide +kernel) hx0 hx8 dX0_people_21 rfl (by decide) (by decide) (fun M25 g9 hk => ?_)
  have hx0 := (hk 46 0 (by decide +kernel)).trans hx0
  have hx8 := (hk 4 27 (by decide +kernel)).trans hx8
  have kc := kc.tr hk (fun s => cnt_mn (by decide))
  refine x_iincN 1 dX0_people_22 li_1 rfl (by decide) rfl ?_
  refine x_goto 7 dX0_people_25 (by decide) ?_
  refine x_iload_n dX0_people_7 rfl ?_
  refine x_iload_n dX0_people_8 rfl ?_
  refine x_icN_ge 28 dX0_people_9 (by decide) (by decide) (by decide) (fun h9 => absurd h9 (by decide)) (fun h9 => ?_)
  refine x_aload_n dX0_people_12 rfl ?_
  refine x_iload_n dX0_people_13 rfl ?_
  refine r_obj (n := 215) (g := 4) (i := 28) (cn := 4) (T := TX4) (N := 4) (b1 := 7) (b2 := 36) g9 (by decide +kernel) rfl (by decide +kernel) dX0_people_14 (xm2 6 rfl rfl) (xm2 8 rfl rfl) (xm1 7 rfl rfl) rfl rfl (by decide +kernel) rfl (by decide +kernel) (fun M26 g9 hk => ?_)
  have hx0 := (hk 46 0 (by decide +kernel)).trans hx0
  have kc := kc.tr hk (fun s => cnt_mn (by decide))
  generalize hx9 : M26.1 4 28 = x9
  refine x_dup dX0_people_17 rfl ?_
  refine x_civ (b1 := 6) (b2 := 30) (ct_X4_init_216 (d := d + 0) g9 hx9) kX0_35 dX0_people_18 rfl rfl (Nat.le_of_ble_eq_true rfl) (fun M27 hq => ?_)
  obtain ⟨g9, hk⟩ := hq
  have hx0 := (hk 46 0 (by decide +kernel)).trans hx0
  have hx9 := (hk 4 28 (by decide +kernel)).trans hx9
  have kc := kc.tr hk (fun s => cnt_mn (by decide))
  refine r_aast (n := 218) (g := 46) (i := 0) (k := 8) (j := 28) (N := 12) g9 (by decide +kernel) rfl (by decide +kernel) (by decide +kernel) hx0 hx9 dX0_people_21 rfl (by decide) (by decide) (fun M28 g9 hk => ?_)
  have hx0 := (hk 46 0 (by decide +kernel)).trans hx0
  have hx9 := (hk 4 28 (by decide +kernel)).trans hx9
  have kc := kc.tr hk (fun s => cnt_mn (by decide))
  refine x_iincN 1 dX0_people_22 li_1 rfl (by decide) rfl ?_
  refine x_goto 7 dX0_people_25 (by decide) ?_
  refine x_iload_n dX0_people_7 rfl ?_
  refine x_iload_n dX0_people_8 rfl ?_
  refine x_icN_ge 28 dX0_people_9 (by decide) (by decide) (by decide) (fun h9 => absurd h9 (by decide)) (fun h9 => ?_)
  refine x_aload_n dX0_people_12 rfl ?_
  refine x_iload_n dX0_people_13 rfl ?_
  refine r_obj (n := 219) (g := 4) (i := 29) (cn := 4) (T := TX4) (N := 4) (b1 := 5) (b2 := 26) g9 (by decide +kernel) rfl (by decide +kernel) dX0_people_14 (xm2 6 rfl rfl) (xm2 8 rfl rfl) (xm1 7 rfl rfl) rfl rfl (by decide +kernel) rfl (by decide +kernel) (fun M29 g9 hk => ?_)
  have hx0 := (hk 46 0 (by decide +kernel)).trans hx0
  have kc := kc.tr hk (fun s => cnt_mn (by decide))
  generalize hx10 : M29.1 4 29 = x10
  refine x_dup dX0_people_17 rfl ?_
  refine x_civ (b1 := 4) (b2 := 20) (ct_X4_init_220 (d := d + 0) g9 hx10) kX0_35 dX0_people_18 rfl rfl (Nat.le_of_ble_eq_true rfl) (fun M30 hq => ?_)
  obtain ⟨g9, hk⟩ := hq
  have hx0 := (hk 46 0 (by decide +kernel)).trans hx0
  have hx10 := (hk 4 29 (by decide +kernel)).trans hx10
  have kc := kc.tr hk (fun s => cnt_mn (by decide))
  refine r_aast (n := 222) (g := 46) (i := 0) (k := 9) (j := 29) (N := 12) g9 (by decide +kernel) rfl (by decide +kernel) (by decide +kernel) hx0 hx10 dX0_people_21 rfl (by decide) (by decide) (fun M31 g9 hk => ?_)
  have hx0 := (hk 46 0 (by decide +kernel)).trans hx0
  have hx10 := (hk 4 29 (by decide +kernel)).trans hx10
  have kc := kc.tr hk (fun s => cnt_mn (by decide))
  refine x_iincN 1 dX0_people_22 li_1 rfl (by decide) rfl ?_
  refine x_goto 7 dX0_people_25 (by decide) ?_
  refine x_iload_n dX0_people_7 rfl ?_
  refine x_iload_n dX0_people_8 rfl ?_
  refine x_icN_ge 28 dX0_people_9 (by decide) (by decide) (by decide) (fun h9 => absurd h9 (by decide)) (fun h9 => ?_)
  refine x_aload_n dX0_people_12 rfl ?_
  refine x_iload_n dX0_people_13 rfl ?_
  refine r_obj (n := 223) (g := 4) (i := 30) (cn := 4) (T := TX4) (N := 4) (b1 := 3) (b2 := 16) g9 (by decide +kernel) rfl (by decide +kernel) dX0_people_14 (xm2 6 rfl rfl) (xm2 8 rfl rfl) (xm1 7 rfl rfl) rfl rfl (by decide +kernel) rfl (by decide +kernel) (fun M32 g9 hk => ?_)
  have hx0 := (hk 46 0 (by decide +kernel)).trans hx0
  have kc := kc.tr hk (fun s => cnt_mn (by decide))
  generalize hx11 : M32.1 4 30 = x11
  refine x_dup dX0_people_17 rfl ?_
  refine x_civ (b1 := 2) (b2 := 10) (ct_X4_init_224 (d := d + 0) g9 hx11) kX0_35 dX0_people_18 rfl rfl (Nat.le_of_ble_eq_true rfl) (fun M33 hq => ?_)
  obtain ⟨g9, hk⟩ := hq
  have hx0 := (hk 46 0 (by decide +kernel)).trans hx0
  have hx11 := (hk 4 30 (by decide +kernel)).trans hx11
  have kc := kc.tr hk (fun s => cnt_mn (by decide))
  refine r_aast (n := 226) (g := 46) (i := 0) (k := 10) (j := 30) (N := 12) g9 (by decide +kernel) rfl (by decide +kernel) (by decide +kernel) hx0 hx11 dX0_people_21 rfl (by decide) (by decide) (fun M34 g9 hk => ?_)
  have hx0 := (hk 46 0 (by decide +kernel)).trans hx0
  have hx11 := (hk 4 30 (by decide +kernel)).trans hx11
  have kc := kc.tr hk (fun s => cnt_mn (by decide))
  refine x_iincN 1 dX0_people_22 li_1 rfl (by decide) rfl ?_
  refine x_goto 7 dX0_people_25 (by decide) ?_
  refine x_iload_n dX0_people_7 rfl ?_
  refine x_iload_n dX0_people_8 rfl ?_
  refine x_icN_ge 28 dX0_people_9 (by decide) (by decide) (by decide) (fun h9 => absurd h9 (by decide)) (fun h9 => ?_)
  refine x_aload_n dX0_people_12 rfl ?_
  refine x_iload_n dX0_people_13 rfl ?_
  refine r_obj (n := 227) (g := 4) (i := 31) (cn := 4) (T := TX4) (N := 4) (b1 := 1) (b2 := 6) g9 (by decide +kernel) rfl (by decide +kernel) dX0_people_14 (xm2 6 rfl rfl) (xm2 8 rfl rfl) (xm1 7 rfl rfl) rfl rfl (by decide +kernel) rfl (by decide +kernel) (fun M35 g9 hk => ?_)
  have hx0 := (hk 46 0 (by decide +kernel)).trans hx0
  have kc := kc.tr hk (fun s => cnt_mn (by decide))
  generalize hx12 : M35.1 4 31 = x12
  refine x_dup dX0_people_17 rfl ?_
  refine x_civ (b1 := 0) (b2 := 0) (ct_X4_init_228 (d := d + 0) g9 hx12) kX0_35 dX0_people_18 rfl rfl (Nat.le_of_ble_eq_true rfl) (fun M36 hq => ?_)
  obtain ⟨g9, hk⟩ := hq
  have hx0 := (hk 46 0 (by decide +kernel)).trans hx0
  have hx12 := (hk 4 31 (by decide +kernel)).trans hx12
  have kc := kc.tr hk (fun s => cnt_mn (by decide))
  refine r_aast (n := 230) (g := 46) (i := 0) (k := 11) (j := 31) (N := 12) g9 (by decide +kernel) rfl (by decide +kernel) (by decide +kernel) hx0 hx12 dX0_people_21 rfl (by decide) (by decide) (fun M37 g9 hk => ?_)
  have hx0 := (hk 46 0 (by decide +kernel)).trans hx0
  have hx12 := (hk 4 31 (by decide +kernel)).trans hx12
  have kc := kc.tr hk (fun s => cnt_mn (by decide))
  refine x_iincN 1 dX0_people_22 li_1 rfl (by decide) rfl ?_
  refine x_goto 7 dX0_people_25 (by decide) ?_
  refine x_iload_n dX0_people_7 rfl ?_
  refine x_iload_n dX0_people_8 rfl ?_
  refine x_icN_ge 28 dX0_people_9 (by decide) (by decide) (by decide) (fun h9 => ?_) (fun h9 => absurd h9 (by decide))
  refine x_aload_n dX0_people_28 rfl ?_
  refine x_aret dX0_people_29 rfl (Or.inr ⟨_, rfl⟩) ?_
  exact ⟨_, rfl, hx0.symm, g9, kc⟩
set_option maxRecDepth 100000 in
set_option maxHeartbeats 4000000 in
theorem ct_X0_init_96 {G : xG} {d : Nat} {M : xM} {a0 a1 : Nat} (g9 : GSt 96 M) (ha0 : M.1 0 0 = a0) (ha1 : M.1 2 0 = a1) : Mt G vX0_init (d + 3) (68, 368) [.ref a0, .ref a1] M (qV (fun M' => GSt 233 M' ∧ KA 96 M M')) := by
  refine x_start (by decide) (Nat.le_of_ble_eq_true rfl) ?_
  have kc : KA 96 M M := KA.rf
  refine x_aload_n dX0_init_0 rfl ?_
  refine x_objinit dX0_init_1 (xm2 2 rfl rfl) (Nat.le_of_ble_eq_true rfl) ?_
  refine x_aload_n dX0_init_4 rfl ?_
  refine x_iconst dX0_init_5 li_4 ?_
  refine x_callS (b1 := 59) (b2 := 324) (ct_X0_people_96 (d := d + 0) g9) kX0_9 dX0_init_6 rfl rfl (Nat.le_of_ble_eq_true rfl) (fun v9 M1 hq => ?_)
  obtain ⟨r9, rfl, rfl, g9, hk⟩ := hq
  have ha0 := (hk 0 0 (by decide +kernel)).trans ha0
  have ha1 := (hk 2 0 (by decide +kernel)).trans ha1
  have kc := kc.tr hk (fun s => cnt_mn (by decide))
  show X _ _ _ _ _ _ (.ref (M1.1 44 0) :: _) _ _
  generalize hx0 : M1.1 44 0 = x0
  refine r_put (n := 113) (g := 0) (i := 0) (k := 1) (t := (44, 0)) g9 (by decide +kernel) rfl (by decide +kernel) (by decide +kernel) ha0 hx0 fsX0_15 dX0_init_9 rfl rfl rfl rfl (fun M2 g9 hk => ?_)
  have ha0 := (hk 0 0 (by decide +kernel)).trans ha0
  have ha1 := (hk 2 0 (by decide +kernel)).trans ha1
  have hx0 := (hk 44 0 (by decide +kernel)).trans hx0
  have kc := kc.tr hk (fun s => cnt_mn (by decide))
  refine x_aload_n dX0_init_12 rfl ?_
  refine x_bipush dX0_init_13 lb_16 ?_
  refine x_callS (b1 := 26) (b2 := 148) (ct_X0_people_114 (d := d + 0) g9) kX0_9 dX0_init_15 rfl rfl (Nat.le_of_ble_eq_true rfl) (fun v9 M3 hq => ?_)
  obtain ⟨r9, rfl, rfl, g9, hk⟩ := hq
  have ha0 := (hk 0 0 (by decide +kernel)).trans ha0
  have ha1 := (hk 2 0 (by decide +kernel)).trans ha1
  have kc := kc.tr hk (fun s => cnt_mn (by decide))
  show X _ _ _ _ _ _ (.ref (M3.1 45 0) :: _) _ _
  generalize hx1 : M3.1 45 0 = x1
  refine r_put (n := 179) (g := 0) (i := 0) (k := 4) (t := (45, 0)) g9 (by decide +kernel) rfl (by decide +kernel) (by decide +kernel) ha0 hx1 fsX0_19 dX0_init_18 rfl rfl rfl rfl (fun M4 g9 hk => ?_)
  have ha0 := (hk 0 0 (by decide +kernel)).trans ha0
  have ha1 := (hk 2 0 (by decide +kernel)).trans ha1
  have hx1 := (hk 45 0 (by decide +kernel)).trans hx1
  have kc := kc.tr hk (fun s => cnt_mn (by decide))
  refine x_aload_n dX0_init_21 rfl ?_
  refine x_bipush dX0_init_22 lb_16 ?_
  refine r_arr (n := 180) (g := 42) (i := 0) (t := 0) (N := 16) (b1 := 25) (b2 := 132) g9 (by decide +kernel) rfl (by decide +kernel) dX0_init_24 rfl (by decide) rfl (by decide) (xm1 148 rfl rfl) (by decide +kernel) (fun M5 g9 hk => ?_)
  have ha0 := (hk 0 0 (by decide +kernel)).trans ha0
  have ha1 := (hk 2 0 (by decide +kernel)).trans ha1
  have kc := kc.tr hk (fun s => cnt_mn (by decide))
  generalize hx2 : M5.1 42 0 = x2
  refine r_put (n := 181) (g := 0) (i := 0) (k := 5) (t := (42, 0)) g9 (by decide +kernel) rfl (by decide +kernel) (by decide +kernel) ha0 hx2 fsX0_22 dX0_init_26 rfl rfl rfl rfl (fun M6 g9 hk => ?_)
  have ha0 := (hk 0 0 (by decide +kernel)).trans ha0
  have ha1 := (hk 2 0 (by decide +kernel)).trans ha1
  have hx2 := (hk 42 0 (by decide +kernel)).trans hx2
  have kc := kc.tr hk (fun s => cnt_mn (by decide))
  refine x_aload_n dX0_init_29 rfl ?_
  refine x_bipush dX0_init_30 lb_12 ?_
  refine x_callS (b1 := 0) (b2 := 0) (ct_X0_people_182 (d := d + 0) g9) kX0_9 dX0_init_32 rfl rfl (Nat.le_of_ble_eq_true rfl) (fun v9 M7 hq => ?_)
  obtain ⟨r9, rfl, rfl, g9, hk⟩ := hq
  have ha0 := (hk 0 0 (by decide +kernel)).trans ha0
  have ha1 := (hk 2 0 (by decide +kernel)).trans ha1
  have kc := kc.tr hk (fun s => cnt_mn (by decide))
  show X _ _ _ _ _ _ (.ref (M7.1 46 0) :: _) _ _
  generalize hx3 : M7.1 46 0 = x3
  refine r_put (n := 231) (g := 0) (i := 0) (k := 7) (t := (46, 0)) g9 (by decide +kernel) rfl (by decide +kernel) (by decide +kernel) ha0 hx3 fsX0_26 dX0_init_35 rfl rfl rfl rfl (fun M8 g9 hk => ?_)
  have ha0 := (hk 0 0 (by decide +kernel)).trans ha0
  have ha1 := (hk 2 0 (by decide +kernel)).trans ha1
  have hx3 := (hk 46 0 (by decide +kernel)).trans hx3
  have kc := kc.tr hk (fun s => cnt_mn (by decide))
  refine x_aload_n dX0_init_38 rfl ?_
  refine x_aload_n dX0_init_39 rfl ?_
  refine r_put (n := 232) (g := 0) (i := 0) (k := 0) (t := (2, 0)) g9 (by decide +kernel) rfl (by decide +kernel) (by decide +kernel) ha0 ha1 fsX0_29 dX0_init_40 rfl rfl rfl rfl (fun M9 g9 hk => ?_)
  have ha0 := (hk 0 0 (by decide +kernel)).trans ha0
  have ha1 := (hk 2 0 (by decide +kernel)).trans ha1
  have kc := kc.tr hk (fun s => cnt_mn (by decide))
  refine x_vret dX0_init_43 rfl ?_
  exact ⟨rfl, g9, kc⟩
set_option maxRecDepth 100000 in
set_option maxHeartbeats 4000000 in
theorem ct_X9_init_235 {G : xG} {d : Nat} {M : xM} {a0 a1 a2 a3 : Nat} (g9 : GSt 235 M) (ha0 : M.1 9 0 = a0) (ha1 : M.1 2 0 = a1) (ha2 : M.1 1 0 = a2) (ha3 : M.1 0 0 = a3) : Mt G vX9_init (d + 1) (1, 5) [.ref a0, .ref a1, .ref a2, .ref a3] M (qV (fun M' => GSt 240 M' ∧ KA 235 M M')) := by
  refine x_start (by decide) (Nat.le_of_ble_eq_true rfl) ?_
  have kc : KA 235 M M := KA.rf
  refine x_aload_n dX9_init_0 rfl ?_
  refine x_objinit dX9_init_1 (xm2 74 rfl rfl) (Nat.le_of_ble_eq_true rfl) ?_
  refine x_aload_n dX9_init_4 rfl ?_
  refine x_iconst dX9_init_5 li_5 ?_
  refine r_arr (n := 235) (g := 47) (i := 0) (t := 0) (N := 5) (b1 := 0) (b2 := 0) g9 (by decide +kernel) rfl (by decide +kernel) dX9_init_6 rfl (by decide) rfl (by decide) (xm1 148 rfl rfl) (by decide +kernel) (fun M1 g9 hk => ?_)
  have ha0 := (hk 9 0 (by decide +kernel)).trans ha0
  have ha1 := (hk 2 0 (by decide +kernel)).trans ha1
  have ha2 := (hk 1 0 (by decide +kernel)).trans ha2
  have ha3 := (hk 0 0 (by decide +kernel)).trans ha3
  have kc := kc.tr hk (fun s => cnt_mn (by decide))
  generalize hx0 : M1.1 47 0 = x0
  refine r_put (n := 236) (g := 9) (i := 0) (k := 3) (t := (47, 0)) g9 (by decide +kernel) rfl (by decide +kernel) (by decide +kernel) ha0 hx0 fsX9_9 dX9_init_8 rfl rfl rfl rfl (fun M2 g9 hk => ?_)
  have ha0 := (hk 9 0 (by decide +kernel)).trans ha0
  have ha1 := (hk 2 0 (by decide +kernel)).trans ha1
  have ha2 := (hk 1 0 (by decide +kernel)).trans ha2
  have ha3 := (hk 0 0 (by decide +kernel)).trans ha3
  have hx0 := (hk 47 0 (by decide +kernel)).trans hx0
  have kc := kc.tr hk (fun s => cnt_mn (by decide))
  refine x_aload_n dX9_init_11 rfl ?_
  refine x_aload_n dX9_init_12 rfl ?_
  refine r_put (n := 237) (g := 9) (i := 0) (k := 0) (t := (2, 0)) g9 (by decide +kernel) rfl (by decide +kernel) (by decide +kernel) ha0 ha1 fsX9_15 dX9_init_13 rfl rfl rfl rfl (fun M3 g9 hk => ?_)
  have ha0 := (hk 9 0 (by decide +kernel)).trans ha0
  have ha1 := (hk 2 0 (by decide +kernel)).trans ha1
  have ha2 := (hk 1 0 (by decide +kernel)).trans ha2
  have ha3 := (hk 0 0 (by decide +kernel)).trans ha3
  have kc := kc.tr hk (fun s => cnt_mn (by decide))
  refine x_aload_n dX9_init_16 rfl ?_
  refine x_aload_n dX9_init_17 rfl ?_
  refine r_put (n := 238) (g := 9) (i := 0) (k := 1) (t := (1, 0)) g9 (by decide +kernel) rfl (by decide +kernel) (by decide +kernel) ha0 ha2 fsX9_19 dX9_init_18 rfl rfl rfl rfl (fun M4 g9 hk => ?_)
  have ha0 := (hk 9 0 (by decide +kernel)).trans ha0
  have ha1 := (hk 2 0 (by decide +kernel)).trans ha1
  have ha2 := (hk 1 0 (by decide +kernel)).trans ha2
  have ha3 := (hk 0 0 (by decide +kernel)).trans ha3
  have kc := kc.tr hk (fun s => cnt_mn (by decide))
  refine x_aload_n dX9_init_21 rfl ?_
  refine x_aload_n dX9_init_22 rfl ?_
  refine r_put (n := 239) (g := 9) (i := 0) (k := 2) (t := (0, 0)) g9 (by decide +kernel) rfl (by decide +kernel) (by decide +kernel) ha0 ha3 fsX9_23 dX9_init_23 rfl rfl rfl rfl (fun M5 g9 hk => ?_)
  have ha0 := (hk 9 0 (by decide +kernel)).trans ha0
  have ha1 := (hk 2 0 (by decide +kernel)).trans ha1
  have ha2 := (hk 1 0 (by decide +kernel)).trans ha2
  have ha3 := (hk 0 0 (by decide +kernel)).trans ha3
  have kc := kc.tr hk (fun s => cnt_mn (by decide))
  refine x_vret dX9_init_26 rfl ?_
  exact ⟨rfl, g9, kc⟩
set_option maxRecDepth 100000 in
set_option maxHeartbeats 4000000 in
theorem ct_X10_init_242 {G : xG} {d : Nat} {M : xM} {a0 a1 a2 : Nat} (g9 : GSt 242 M) (ha0 : M.1 10 0 = a0) (ha1 : M.1 2 0 = a1) (ha2 : M.1 1 0 = a2) : Mt G vX10_init (d + 1) (136, 1052) [.ref a0, .ref a1, .ref a2] M (qV (fun M' => GSt 256 M' ∧ KA 242 M M')) := by
  refine x_start (by decide) (Nat.le_of_ble_eq_true rfl) ?_
  have kc : KA 242 M M := KA.rf
  refine x_aload_n dX10_init_0 rfl ?_
  refine x_objinit dX10_init_1 (xm2 99 rfl rfl) (Nat.le_of_ble_eq_true rfl) ?_
  refine x_aload_n dX10_init_4 rfl ?_
  refine x_bipush dX10_init_5 lb_65 ?_
  refine r_arr (n := 242) (g := 48) (i := 0) (t := 0) (N := 65) (b1 := 135) (b2 := 987) g9 (by decide +kernel) rfl (by decide +kernel) dX10_init_7 rfl (by decide) rfl (by decide) (xm1 148 rfl rfl) (by decide +kernel) (fun M1 g9 hk => ?_)
  have ha0 := (hk 10 0 (by decide +kernel)).trans ha0
  have ha1 := (hk 2 0 (by decide +kernel)).trans ha1
  have ha2 := (hk 1 0 (by decide +kernel)).trans ha2
  have kc := kc.tr hk (fun s => cnt_mn (by decide))
  generalize hx0 : M1.1 48 0 = x0
  refine r_put (n := 243) (g := 10) (i := 0) (k := 3) (t := (48, 0)) g9 (by decide +kernel) rfl (by decide +kernel) (by decide +kernel) ha0 hx0 fsX10_11 dX10_init_9 rfl rfl rfl rfl (fun M2 g9 hk => ?_)
  have ha0 := (hk 10 0 (by decide +kernel)).trans ha0
  have ha1 := (hk 2 0 (by decide +kernel)).trans ha1
  have ha2 := (hk 1 0 (by decide +kernel)).trans ha2
  have hx0 := (hk 48 0 (by decide +kernel)).trans hx0
  have kc := kc.tr hk (fun s => cnt_mn (by decide))
  refine x_aload_n dX10_init_12 rfl ?_
  refine x_bipush dX10_init_13 lb_65 ?_
  refine x_bipush dX10_init_15 lb_6 ?_
  refine r_mna (n := 244) (g := 49) (i := 0) (g2 := 50) (N := 65) (K := 6) (b1 := 69) (b2 := 532) g9 (by decide +kernel) rfl rfl (by decide +kernel) (by decide +kernel) (fun k => by rw [show cnE 244 49 = 0 by decide +kernel, show cnE 244 50 = 0 by decide +kernel]; show (if k < 65 then some (50, k) else none) = if k < 65 then some (50, 0 + k) else none; rw [Nat.zero_add]) dX10_init_17 (xm2 100 rfl rfl) (xm1 148 rfl rfl) rfl rfl (by decide) (by decide) (by decide) (by decide +kernel) (fun M3 g9 hk => ?_)
  have ha0 := (hk 10 0 (by decide +kernel)).trans ha0
  have ha1 := (hk 2 0 (by decide +kernel)).trans ha1
  have ha2 := (hk 1 0 (by decide +kernel)).trans ha2
  have kc := kc.tr hk (fun s => cnt_mn (by decide))
  generalize hx1 : M3.1 49 0 = x1
  refine r_put (n := 245) (g := 10) (i := 0) (k := 4) (t := (49, 0)) g9 (by decide +kernel) rfl (by decide +kernel) (by decide +kernel) ha0 hx1 fsX10_17 dX10_init_21 rfl rfl rfl rfl (fun M4 g9 hk => ?_)
  have ha0 := (hk 10 0 (by decide +kernel)).trans ha0
  have ha1 := (hk 2 0 (by decide +kernel)).trans ha1
  have ha2 := (hk 1 0 (by decide +kernel)).trans ha2
  have hx1 := (hk 49 0 (by decide +kernel)).trans hx1
  have kc := kc.tr hk (fun s => cnt_mn (by decide))
  refine x_aload_n dX10_init_24 rfl ?_
  refine x_bipush dX10_init_25 lb_65 ?_
  refine x_bipush dX10_init_27 lb_6 ?_
  refine r_mna (n := 246) (g := 51) (i := 0) (g2 := 52) (N := 65) (K := 6) (b1 := 3) (b2 := 77) g9 (by decide +kernel) rfl rfl (by decide +kernel) (by decide +kernel) (fun k => by rw [show cnE 246 51 = 0 by decide +kernel, show cnE 246 52 = 0 by decide +kernel]; show (if k < 65 then some (52, k) else none) = if k < 65 then some (52, 0 + k) else none; rw [Nat.zero_add]) dX10_init_29 (xm2 100 rfl rfl) (xm1 148 rfl rfl) rfl rfl (by decide) (by decide) (by decide) (by decide +kernel) (fun M5 g9 hk => ?_)
  have ha0 := (hk 10 0 (by decide +kernel)).trans ha0
  have ha1 := (hk 2 0 (by decide +kernel)).trans ha1
  have ha2 := (hk 1 0 (by decide +kernel)).trans ha2
  have kc := kc.tr hk (fun s => cnt_mn (by decide))
  generalize hx2 : M5.1 51 0 = x2
  refine r_put (n := 247) (g := 10) (i := 0) (k := 5) (t := (51, 0)) g9 (by decide +kernel) rfl (by decide +kernel) (by decide +kernel) ha0 hx2 fsX10_20 dX10_init_33 rfl rfl rfl rfl (fun M6 g9 hk => ?_)
  have ha0 := (hk 10 0 (by decide +kernel)).trans ha0
  have ha1 := (hk 2 0 (by decide +kernel)).trans ha1
  have ha2 := (hk 1 0 (by decide +kernel)).trans ha2
  have hx2 := (hk 51 0 (by decide +kernel)).trans hx2
  have kc := kc.tr hk (fun s => cnt_mn (by decide))
  refine x_aload_n dX10_init_36 rfl ?_
  refine x_bipush dX10_init_37 lb_65 ?_
  refine r_arr (n := 248) (g := 53) (i := 0) (t := 0) (N := 65) (b1 := 2) (b2 := 12) g9 (by decide +kernel) rfl (by decide +kernel) dX10_init_39 rfl (by decide) rfl (by decide) (xm1 148 rfl rfl) (by decide +kernel) (fun M7 g9 hk => ?_)
  have ha0 := (hk 10 0 (by decide +kernel)).trans ha0
  have ha1 := (hk 2 0 (by decide +kernel)).trans ha1
  have ha2 := (hk 1 0 (by decide +kernel)).trans ha2
  have kc := kc.tr hk (fun s => cnt_mn (by decide))
  generalize hx3 : M7.1 53 0 = x3
  refine r_put (n := 249) (g := 10) (i := 0) (k := 6) (t := (53, 0)) g9 (by decide +kernel) rfl (by decide +kernel) (by decide +kernel) ha0 hx3 fsX10_23 dX10_init_41 rfl rfl rfl rfl (fun M8 g9 hk => ?_)
  have ha0 := (hk 10 0 (by decide +kernel)).trans ha0
  have ha1 := (hk 2 0 (by decide +kernel)).trans ha1
  have ha2 := (hk 1 0 (by decide +kernel)).trans ha2
  have hx3 := (hk 53 0 (by decide +kernel)).trans hx3
  have kc := kc.tr hk (fun s => cnt_mn (by decide))
  refine x_aload_n dX10_init_44 rfl ?_
  refine x_bipush dX10_init_45 lb_6 ?_
  refine r_arr (n := 250) (g := 54) (i := 0) (t := 0) (N := 6) (b1 := 1) (b2 := 6) g9 (by decide +kernel) rfl (by decide +kernel) dX10_init_47 rfl (by decide) rfl (by decide) (xm1 148 rfl rfl) (by decide +kernel) (fun M9 g9 hk => ?_)
  have ha0 := (hk 10 0 (by decide +kernel)).trans ha0
  have ha1 := (hk 2 0 (by decide +kernel)).trans ha1
  have ha2 := (hk 1 0 (by decide +kernel)).trans ha2
  have kc := kc.tr hk (fun s => cnt_mn (by decide))
  generalize hx4 : M9.1 54 0 = x4
  refine r_put (n := 251) (g := 10) (i := 0) (k := 7) (t := (54, 0)) g9 (by decide +kernel) rfl (by decide +kernel) (by decide +kernel) ha0 hx4 fsX10_26 dX10_init_49 rfl rfl rfl rfl (fun M10 g9 hk => ?_)
  have ha0 := (hk 10 0 (by decide +kernel)).trans ha0
  have ha1 := (hk 2 0 (by decide +kernel)).trans ha1
  have ha2 := (hk 1 0 (by decide +kernel)).trans ha2
  have hx4 := (hk 54 0 (by decide +kernel)).trans hx4
  have kc := kc.tr hk (fun s => cnt_mn (by decide))
  refine x_aload_n dX10_init_52 rfl ?_
  refine x_bipush dX10_init_53 lb_6 ?_
  refine r_arr (n := 252) (g := 55) (i := 0) (t := 0) (N := 6) (b1 := 0) (b2 := 0) g9 (by decide +kernel) rfl (by decide +kernel) dX10_init_55 rfl (by decide) rfl (by decide) (xm1 148 rfl rfl) (by decide +kernel) (fun M11 g9 hk => ?_)
  have ha0 := (hk 10 0 (by decide +kernel)).trans ha0
  have ha1 := (hk 2 0 (by decide +kernel)).trans ha1
  have ha2 := (hk 1 0 (by decide +kernel)).trans ha2
  have kc := kc.tr hk (fun s => cnt_mn (by decide))
  generalize hx5 : M11.1 55 0 = x5
  refine r_put (n := 253) (g := 10) (i := 0) (k := 8) (t := (55, 0)) g9 (by decide +kernel) rfl (by decide +kernel) (by decide +kernel) ha0 hx5 fsX10_29 dX10_init_57 rfl rfl rfl rfl (fun M12 g9 hk => ?_)
  have ha0 := (hk 10 0 (by decide +kernel)).trans ha0
  have ha1 := (hk 2 0 (by decide +kernel)).trans ha1
  have ha2 := (hk 1 0 (by decide +kernel)).trans ha2
  have hx5 := (hk 55 0 (by decide +kernel)).trans hx5
  have kc := kc.tr hk (fun s => cnt_mn (by decide))
  refine x_aload_n dX10_init_60 rfl ?_
  refine x_aload_n dX10_init_61 rfl ?_
  refine r_put (n := 254) (g := 10) (i := 0) (k := 0) (t := (2, 0)) g9 (by decide +kernel) rfl (by decide +kernel) (by decide +kernel) ha0 ha1 fsX10_32 dX10_init_62 rfl rfl rfl rfl (fun M13 g9 hk => ?_)
  have ha0 := (hk 10 0 (by decide +kernel)).trans ha0
  have ha1 := (hk 2 0 (by decide +kernel)).trans ha1
  have ha2 := (hk 1 0 (by decide +kernel)).trans ha2
  have kc := kc.tr hk (fun s => cnt_mn (by decide))
  refine x_aload_n dX10_init_65 rfl ?_
  refine x_aload_n dX10_init_66 rfl ?_
  refine r_put (n := 255) (g := 10) (i := 0) (k := 1) (t := (1, 0)) g9 (by decide +kernel) rfl (by decide +kernel) (by decide +kernel) ha0 ha2 fsX10_36 dX10_init_67 rfl rfl rfl rfl (fun M14 g9 hk => ?_)
  have ha0 := (hk 10 0 (by decide +kernel)).trans ha0
  have ha1 := (hk 2 0 (by decide +kernel)).trans ha1
  have ha2 := (hk 1 0 (by decide +kernel)).trans ha2
  have kc := kc.tr hk (fun s => cnt_mn (by decide))
  refine x_vret dX10_init_70 rfl ?_
  exact ⟨rfl, g9, kc⟩
set_option maxRecDepth 100000 in
set_option maxHeartbeats 4000000 in
theorem ct_X8_init_258 {G : xG} {d : Nat} {M : xM} {a0 a1 a2 : Nat} (g9 : GSt 258 M) (ha0 : M.1 8 0 = a0) (ha1 : M.1 2 0 = a1) (ha2 : M.1 1 0 = a2) : Mt G vX8_init (d + 1) (7, 36) [.ref a0, .ref a1, .ref a2] M (qV (fun M' => GSt 266 M' ∧ KA 258 M M')) := by
  refine x_start (by decide) (Nat.le_of_ble_eq_true rfl) ?_
  have kc : KA 258 M M := KA.rf
  refine x_aload_n dX8_init_0 rfl ?_
  refine x_objinit dX8_init_1 (xm2 141 rfl rfl) (Nat.le_of_ble_eq_true rfl) ?_
  refine x_aload_n dX8_init_4 rfl ?_
  refine x_iconst dX8_init_5 li_4 ?_
  refine r_arr (n := 258) (g := 56) (i := 0) (t := 0) (N := 4) (b1 := 6) (b2 := 32) g9 (by decide +kernel) rfl (by decide +kernel) dX8_init_6 rfl (by decide) rfl (by decide) (xm1 148 rfl rfl) (by decide +kernel) (fun M1 g9 hk => ?_)
  have ha0 := (hk 8 0 (by decide +kernel)).trans ha0
  have ha1 := (hk 2 0 (by decide +kernel)).trans ha1
  have ha2 := (hk 1 0 (by decide +kernel)).trans ha2
  have kc := kc.tr hk (fun s => cnt_mn (by decide))
  generalize hx0 : M1.1 56 0 = x0
  refine r_put (n := 259) (g := 8) (i := 0) (k := 6) (t := (56, 0)) g9 (by decide +kernel) rfl (by decide +kernel) (by decide +kernel) ha0 hx0 fsX8_11 dX8_init_8 rfl rfl rfl rfl (fun M2 g9 hk => ?_)
  have ha0 := (hk 8 0 (by decide +kernel)).trans ha0
  have ha1 := (hk 2 0 (by decide +kernel)).trans ha1
  have ha2 := (hk 1 0 (by decide +kernel)).trans ha2
  have hx0 := (hk 56 0 (by decide +kernel)).trans hx0
  have kc := kc.tr hk (fun s => cnt_mn (by decide))
  refine x_aload_n dX8_init_11 rfl ?_
  refine x_iconst dX8_init_12 li_4 ?_
  refine r_arr (n := 260) (g := 57) (i := 0) (t := 0) (N := 4) (b1 := 5) (b2 := 28) g9 (by decide +kernel) rfl (by decide +kernel) dX8_init_13 rfl (by decide) rfl (by decide) (xm1 148 rfl rfl) (by decide +kernel) (fun M3 g9 hk => ?_)
  have ha0 := (hk 8 0 (by decide +kernel)).trans ha0
  have ha1 := (hk 2 0 (by decide +kernel)).trans ha1
  have ha2 := (hk 1 0 (by decide +kernel)).trans ha2
  have kc := kc.tr hk (fun s => cnt_mn (by decide))
  generalize hx1 : M3.1 57 0 = x1
  refine r_put (n := 261) (g := 8) (i := 0) (k := 7) (t := (57, 0)) g9 (by decide +kernel) rfl (by decide +kernel) (by decide +kernel) ha0 hx1 fsX8_15 dX8_init_15 rfl rfl rfl rfl (fun M4 g9 hk => ?_)
  have ha0 := (hk 8 0 (by decide +kernel)).trans ha0
  have ha1 := (hk 2 0 (by decide +kernel)).trans ha1
  have ha2 := (hk 1 0 (by decide +kernel)).trans ha2
  have hx1 := (hk 57 0 (by decide +kernel)).trans hx1
  have kc := kc.tr hk (fun s => cnt_mn (by decide))
  refine x_aload_n dX8_init_18 rfl ?_
  refine x_iconst dX8_init_19 li_4 ?_
  refine x_bipush dX8_init_20 lb_6 ?_
  refine r_mna (n := 262) (g := 58) (i := 0) (g2 := 59) (N := 4) (K := 6) (b1 := 0) (b2 := 0) g9 (by decide +kernel) rfl rfl (by decide +kernel) (by decide +kernel) (fun k => by rw [show cnE 262 58 = 0 by decide +kernel, show cnE 262 59 = 0 by decide +kernel]; show (if k < 4 then some (59, k) else none) = if k < 4 then some (59, 0 + k) else none; rw [Nat.zero_add]) dX8_init_22 (xm2 142 rfl rfl) (xm1 148 rfl rfl) rfl rfl (by decide) (by decide) (by decide) (by decide +kernel) (fun M5 g9 hk => ?_)
  have ha0 := (hk 8 0 (by decide +kernel)).trans ha0
  have ha1 := (hk 2 0 (by decide +kernel)).trans ha1
  have ha2 := (hk 1 0 (by decide +kernel)).trans ha2
  have kc := kc.tr hk (fun s => cnt_mn (by decide))
  generalize hx2 : M5.1 58 0 = x2
  refine r_put (n := 263) (g := 8) (i := 0) (k := 8) (t := (58, 0)) g9 (by decide +kernel) rfl (by decide +kernel) (by decide +kernel) ha0 hx2 fsX8_20 dX8_init_26 rfl rfl rfl rfl (fun M6 g9 hk => ?_)
  have ha0 := (hk 8 0 (by decide +kernel)).trans ha0
  have ha1 := (hk 2 0 (by decide +kernel)).trans ha1
  have ha2 := (hk 1 0 (by decide +kernel)).trans ha2
  have hx2 := (hk 58 0 (by decide +kernel)).trans hx2
  have kc := kc.tr hk (fun s => cnt_mn (by decide))
  refine x_aload_n dX8_init_29 rfl ?_
  refine x_aload_n dX8_init_30 rfl ?_
  refine r_put (n := 264) (g := 8) (i := 0) (k := 0) (t := (2, 0)) g9 (by decide +kernel) rfl (by decide +kernel) (by decide +kernel) ha0 ha1 fsX8_23 dX8_init_31 rfl rfl rfl rfl (fun M7 g9 hk => ?_)
  have ha0 := (hk 8 0 (by decide +kernel)).trans ha0
  have ha1 := (hk 2 0 (by decide +kernel)).trans ha1
  have ha2 := (hk 1 0 (by decide +kernel)).trans ha2
  have kc := kc.tr hk (fun s => cnt_mn (by decide))
  refine x_aload_n dX8_init_34 rfl ?_
  refine x_aload_n dX8_init_35 rfl ?_
  refine r_put (n := 265) (g := 8) (i := 0) (k := 1) (t := (1, 0)) g9 (by decide +kernel) rfl (by decide +kernel) (by decide +kernel) ha0 ha2 fsX8_27 dX8_init_36 rfl rfl rfl rfl (fun M8 g9 hk => ?_)
  have ha0 := (hk 8 0 (by decide +kernel)).trans ha0
  have ha1 := (hk 2 0 (by decide +kernel)).trans ha1
  have ha2 := (hk 1 0 (by decide +kernel)).trans ha2
  have kc := kc.tr hk (fun s => cnt_mn (by decide))
  refine x_vret dX8_init_39 rfl ?_
  exact ⟨rfl, g9, kc⟩
set_option maxRecDepth 100000 in
set_option maxHeartbeats 4000000 in
theorem ct_X5_init_268 {G : xG} {d : Nat} {M : xM} {a0 a1 a2 : Nat} (g9 : GSt 268 M) (ha0 : M.1 5 0 = a0) (ha1 : M.1 2 0 = a1) (ha2 : M.1 9 0 = a2) : Mt G vX5_init (d + 1) (2, 12) [.ref a0, .ref a1, .ref a2] M (qV (fun M' => GSt 274 M' ∧ KA 268 M M')) := by
  refine x_start (by decide) (Nat.le_of_ble_eq_true rfl) ?_
  have kc : KA 268 M M := KA.rf
  refine x_aload_n dX5_init_0 rfl ?_
  refine x_objinit dX5_init_1 (xm2 181 rfl rfl) (Nat.le_of_ble_eq_true rfl) ?_
  refine x_aload_n dX5_init_4 rfl ?_
  refine x_bipush dX5_init_5 lb_6 ?_
  refine r_arr (n := 268) (g := 60) (i := 0) (t := 0) (N := 6) (b1 := 1) (b2 := 6) g9 (by decide +kernel) rfl (by decide +kernel) dX5_init_7 rfl (by decide) rfl (by decide) (xm1 148 rfl rfl) (by decide +kernel) (fun M1 g9 hk => ?_)
  have ha0 := (hk 5 0 (by decide +kernel)).trans ha0
  have ha1 := (hk 2 0 (by decide +kernel)).trans ha1
  have ha2 := (hk 9 0 (by decide +kernel)).trans ha2
  have kc := kc.tr hk (fun s => cnt_mn (by decide))
  generalize hx0 : M1.1 60 0 = x0
  refine r_put (n := 269) (g := 5) (i := 0) (k := 3) (t := (60, 0)) g9 (by decide +kernel) rfl (by decide +kernel) (by decide +kernel) ha0 hx0 fsX5_9 dX5_init_9 rfl rfl rfl rfl (fun M2 g9 hk => ?_)
  have ha0 := (hk 5 0 (by decide +kernel)).trans ha0
  have ha1 := (hk 2 0 (by decide +kernel)).trans ha1
  have ha2 := (hk 9 0 (by decide +kernel)).trans ha2
  have hx0 := (hk 60 0 (by decide +kernel)).trans hx0
  have kc := kc.tr hk (fun s => cnt_mn (by decide))
  refine x_aload_n dX5_init_12 rfl ?_
  refine x_bipush dX5_init_13 lb_6 ?_
  refine r_arr (n := 270) (g := 61) (i := 0) (t := 0) (N := 6) (b1 := 0) (b2 := 0) g9 (by decide +kernel) rfl (by decide +kernel) dX5_init_15 rfl (by decide) rfl (by decide) (xm1 148 rfl rfl) (by decide +kernel) (fun M3 g9 hk => ?_)
  have ha0 := (hk 5 0 (by decide +kernel)).trans ha0
  have ha1 := (hk 2 0 (by decide +kernel)).trans ha1
  have ha2 := (hk 9 0 (by decide +kernel)).trans ha2
  have kc := kc.tr hk (fun s => cnt_mn (by decide))
  generalize hx1 : M3.1 61 0 = x1
  refine r_put (n := 271) (g := 5) (i := 0) (k := 4) (t := (61, 0)) g9 (by decide +kernel) rfl (by decide +kernel) (by decide +kernel) ha0 hx1 fsX5_15 dX5_init_17 rfl rfl rfl rfl (fun M4 g9 hk => ?_)
  have ha0 := (hk 5 0 (by decide +kernel)).trans ha0
  have ha1 := (hk 2 0 (by decide +kernel)).trans ha1
  have ha2 := (hk 9 0 (by decide +kernel)).trans ha2
  have hx1 := (hk 61 0 (by decide +kernel)).trans hx1
  have kc := kc.tr hk (fun s => cnt_mn (by decide))
  refine x_aload_n dX5_init_20 rfl ?_
  refine x_aload_n dX5_init_21 rfl ?_
  refine r_put (n := 272) (g := 5) (i := 0) (k := 0) (t := (2, 0)) g9 (by decide +kernel) rfl (by decide +kernel) (by decide +kernel) ha0 ha1 fsX5_18 dX5_init_22 rfl rfl rfl rfl (fun M5 g9 hk => ?_)
  have ha0 := (hk 5 0 (by decide +kernel)).trans ha0
  have ha1 := (hk 2 0 (by decide +kernel)).trans ha1
  have ha2 := (hk 9 0 (by decide +kernel)).trans ha2
  have kc := kc.tr hk (fun s => cnt_mn (by decide))
  refine x_aload_n dX5_init_25 rfl ?_
  refine x_aload_n dX5_init_26 rfl ?_
  refine r_put (n := 273) (g := 5) (i := 0) (k := 1) (t := (9, 0)) g9 (by decide +kernel) rfl (by decide +kernel) (by decide +kernel) ha0 ha2 fsX5_22 dX5_init_27 rfl rfl rfl rfl (fun M6 g9 hk => ?_)
  have ha0 := (hk 5 0 (by decide +kernel)).trans ha0
  have ha1 := (hk 2 0 (by decide +kernel)).trans ha1
  have ha2 := (hk 9 0 (by decide +kernel)).trans ha2
  have kc := kc.tr hk (fun s => cnt_mn (by decide))
  refine x_vret dX5_init_30 rfl ?_
  exact ⟨rfl, g9, kc⟩
set_option maxRecDepth 100000 in
set_option maxHeartbeats 4000000 in
theorem ct_X3_init_276 {G : xG} {d : Nat} {M : xM} {a0 a1 a2 a3 : Nat} (g9 : GSt 276 M) (ha0 : M.1 3 0 = a0) (ha1 : M.1 2 0 = a1) (ha2 : M.1 1 0 = a2) (ha3 : M.1 10 0 = a3) : Mt G vX3_init (d + 1) (66, 455) [.ref a0, .ref a1, .ref a2, .ref a3] M (qV (fun M' => GSt 281 M' ∧ KA 276 M M')) := by
  refine x_start (by decide) (Nat.le_of_ble_eq_true rfl) ?_
  have kc : KA 276 M M := KA.rf
  refine x_aload_n dX3_init_0 rfl ?_
  refine x_objinit dX3_init_1 (xm2 205 rfl rfl) (Nat.le_of_ble_eq_true rfl) ?_
  refine x_aload_n dX3_init_4 rfl ?_
  refine x_bipush dX3_init_5 lb_65 ?_
  refine x_bipush dX3_init_7 lb_6 ?_
  refine r_mna (n := 276) (g := 62) (i := 0) (g2 := 63) (N := 65) (K := 6) (b1 := 0) (b2 := 0) g9 (by decide +kernel) rfl rfl (by decide +kernel) (by decide +kernel) (fun k => by rw [show cnE 276 62 = 0 by decide +kernel, show cnE 276 63 = 0 by decide +kernel]; show (if k < 65 then some (63, k) else none) = if k < 65 then some (63, 0 + k) else none; rw [Nat.zero_add]) dX3_init_9 (xm2 206 rfl rfl) (xm1 148 rfl rfl) rfl rfl (by decide) (by decide) (by decide) (by decide +kernel) (fun M1 g9 hk => ?_)
  have ha0 := (hk 3 0 (by decide +kernel)).trans ha0
  have ha1 := (hk 2 0 (by decide +kernel)).trans ha1
  have ha2 := (hk 1 0 (by decide +kernel)).trans ha2
  have ha3 := (hk 10 0 (by decide +kernel)).trans ha3
  have kc := kc.tr hk (fun s => cnt_mn (by decide))
  generalize hx0 : M1.1 62 0 = x0
  refine r_put (n := 277) (g := 3) (i := 0) (k := 5) (t := (62, 0)) g9 (by decide +kernel) rfl (by decide +kernel) (by decide +kernel) ha0 hx0 fsX3_13 dX3_init_13 rfl rfl rfl rfl (fun M2 g9 hk => ?_)
  have ha0 := (hk 3 0 (by decide +kernel)).trans ha0
  have ha1 := (hk 2 0 (by decide +kernel)).trans ha1
  have ha2 := (hk 1 0 (by decide +kernel)).trans ha2
  have ha3 := (hk 10 0 (by decide +kernel)).trans ha3
  have hx0 := (hk 62 0 (by decide +kernel)).trans hx0
  have kc := kc.tr hk (fun s => cnt_mn (by decide))
  refine x_aload_n dX3_init_16 rfl ?_
  refine x_aload_n dX3_init_17 rfl ?_
  refine r_put (n := 278) (g := 3) (i := 0) (k := 0) (t := (2, 0)) g9 (by decide +kernel) rfl (by decide +kernel) (by decide +kernel) ha0 ha1 fsX3_18 dX3_init_18 rfl rfl rfl rfl (fun M3 g9 hk => ?_)
  have ha0 := (hk 3 0 (by decide +kernel)).trans ha0
  have ha1 := (hk 2 0 (by decide +kernel)).trans ha1
  have ha2 := (hk 1 0 (by decide +kernel)).trans ha2
  have ha3 := (hk 10 0 (by decide +kernel)).trans ha3
  have kc := kc.tr hk (fun s => cnt_mn (by decide))
  refine x_aload_n dX3_init_21 rfl ?_
  refine x_aload_n dX3_init_22 rfl ?_
  refine r_put (n := 279) (g := 3) (i := 0) (k := 1) (t := (1, 0)) g9 (by decide +kernel) rfl (by decide +kernel) (by decide +kernel) ha0 ha2 fsX3_22 dX3_init_23 rfl rfl rfl rfl (fun M4 g9 hk => ?_)
  have ha0 := (hk 3 0 (by decide +kernel)).trans ha0
  have ha1 := (hk 2 0 (by decide +kernel)).trans ha1
  have ha2 := (hk 1 0 (by decide +kernel)).trans ha2
  have ha3 := (hk 10 0 (by decide +kernel)).trans ha3
  have kc := kc.tr hk (fun s => cnt_mn (by decide))
  refine x_aload_n dX3_init_26 rfl ?_
  refine x_aload_n dX3_init_27 rfl ?_
  refine r_put (n := 280) (g := 3) (i := 0) (k := 2) (t := (10, 0)) g9 (by decide +kernel) rfl (by decide +kernel) (by decide +kernel) ha0 ha3 fsX3_26 dX3_init_28 rfl rfl rfl rfl (fun M5 g9 hk => ?_)
  have ha0 := (hk 3 0 (by decide +kernel)).trans ha0
  have ha1 := (hk 2 0 (by decide +kernel)).trans ha1
  have ha2 := (hk 1 0 (by decide +kernel)).trans ha2
  have ha3 := (hk 10 0 (by decide +kernel)).trans ha3
  have kc := kc.tr hk (fun s => cnt_mn (by decide))
  refine x_vret dX3_init_31 rfl ?_
  exact ⟨rfl, g9, kc⟩
set_option maxRecDepth 100000 in
set_option maxHeartbeats 4000000 in
theorem ct_X11_init_1 {G : xG} {d : Nat} {M : xM} {a0 : Nat} (g9 : GSt 1 M) (ha0 : M.1 11 0 = a0) : Mt G vX11_init (d + 4) (373, 3629) [.ref a0] M (qV (fun M' => GSt 285 M' ∧ KA 1 M M')) := by
  refine x_start (by decide) (Nat.le_of_ble_eq_true rfl) ?_
  have kc : KA 1 M M := KA.rf
  refine x_aload_n dX11_init_0 rfl ?_
  refine x_objinit dX11_init_1 (xm1 30 rfl rfl) (Nat.le_of_ble_eq_true rfl) ?_
  refine x_aload_n dX11_init_4 rfl ?_
  refine x_sipush dX11_init_5 lS_1100 ?_
  refine r_arr (n := 1) (g := 14) (i := 0) (t := 0) (N := 1100) (b1 := 372) (b2 := 2529) g9 (by decide +kernel) rfl (by decide +kernel) dX11_init_8 rfl (by decide) rfl (by decide) (xm1 148 rfl rfl) (by decide +kernel) (fun M1 g9 hk => ?_)
  have ha0 := (hk 11 0 (by decide +kernel)).trans ha0
  have kc := kc.tr hk (fun s => cnt_mn (by decide))
  generalize hx0 : M1.1 14 0 = x0
  refine r_put (n := 2) (g := 11) (i := 0) (k := 0) (t := (14, 0)) g9 (by decide +kernel) rfl (by decide +kernel) (by decide +kernel) ha0 hx0 fsX11_9 dX11_init_10 rfl rfl rfl rfl (fun M2 g9 hk => ?_)
  have ha0 := (hk 11 0 (by decide +kernel)).trans ha0
  have hx0 := (hk 14 0 (by decide +kernel)).trans hx0
  have kc := kc.tr hk (fun s => cnt_mn (by decide))
  refine x_aload_n dX11_init_13 rfl ?_
  refine r_obj (n := 3) (g := 2) (i := 0) (cn := 2) (T := TX2) (N := 18) (b1 := 371) (b2 := 2511) g9 (by decide +kernel) rfl (by decide +kernel) dX11_init_14 (xm1 33 rfl rfl) (xm1 34 rfl rfl) (xm1 2 rfl rfl) rfl rfl (by decide +kernel) rfl (by decide +kernel) (fun M3 g9 hk => ?_)
  have ha0 := (hk 11 0 (by decide +kernel)).trans ha0
  have kc := kc.tr hk (fun s => cnt_mn (by decide))
  generalize hx1 : M3.1 2 0 = x1
  refine x_dup dX11_init_17 rfl ?_
  refine x_civ (b1 := 333) (b2 := 2301) (ct_X2_init_4 (d := d + 2) g9 hx1) kX11_15 dX11_init_18 rfl rfl (Nat.le_of_ble_eq_true rfl) (fun M4 hq => ?_)
  obtain ⟨g9, hk⟩ := hq
  have ha0 := (hk 11 0 (by decide +kernel)).trans ha0
  have hx1 := (hk 2 0 (by decide +kernel)).trans hx1
  have kc := kc.tr hk (fun s => cnt_mn (by decide))
  refine r_put (n := 40) (g := 11) (i := 0) (k := 2) (t := (2, 0)) g9 (by decide +kernel) rfl (by decide +kernel) (by decide +kernel) ha0 hx1 fsX11_16 dX11_init_21 rfl rfl rfl rfl (fun M5 g9 hk => ?_)
  have ha0 := (hk 11 0 (by decide +kernel)).trans ha0
  have hx1 := (hk 2 0 (by decide +kernel)).trans hx1
  have kc := kc.tr hk (fun s => cnt_mn (by decide))
  refine x_aload_n dX11_init_24 rfl ?_
  refine r_obj (n := 41) (g := 6) (i := 0) (cn := 6) (T := TX6) (N := 10) (b1 := 332) (b2 := 2291) g9 (by decide +kernel) rfl (by decide +kernel) dX11_init_25 (xm1 149 rfl rfl) (xm1 150 rfl rfl) (xm1 3 rfl rfl) rfl rfl (by decide +kernel) rfl (by decide +kernel) (fun M6 g9 hk => ?_)
  have ha0 := (hk 11 0 (by decide +kernel)).trans ha0
  have kc := kc.tr hk (fun s => cnt_mn (by decide))
  generalize hx2 : M6.1 6 0 = x2
  refine x_dup dX11_init_28 rfl ?_
  refine x_aload_n dX11_init_29 rfl ?_
  refine r_get (n := 42) (g := 11) (i := 0) (k := 0) (t := (14, 0)) g9 (by decide +kernel) rfl (by decide +kernel) ha0 fX11_9 dX11_init_30 rfl rfl ?_
  generalize hx3 : M6.1 14 0 = x3
  refine x_civ (b1 := 289) (b2 := 1985) (ct_X6_init_42 (d := d + 1) g9 hx2 hx3) kX11_22 dX11_init_33 rfl rfl (Nat.le_of_ble_eq_true rfl) (fun M7 hq => ?_)
  obtain ⟨g9, hk⟩ := hq
  have ha0 := (hk 11 0 (by decide +kernel)).trans ha0
  have hx2 := (hk 6 0 (by decide +kernel)).trans hx2
  have hx3 := (hk 14 0 (by decide +kernel)).trans hx3
  have kc := kc.tr hk (fun s => cnt_mn (by decide))
  refine r_put (n := 89) (g := 11) (i := 0) (k := 3) (t := (6, 0)) g9 (by decide +kernel) rfl (by decide +kernel) (by decide +kernel) ha0 hx2 fsX11_25 dX11_init_36 rfl rfl rfl rfl (fun M8 g9 hk => ?_)
  have ha0 := (hk 11 0 (by decide +kernel)).trans ha0
  have hx2 := (hk 6 0 (by decide +kernel)).trans hx2
  have hx3 := (hk 14 0 (by decide +kernel)).trans hx3
  have kc := kc.tr hk (fun s => cnt_mn (by decide))
  refine x_aload_n dX11_init_39 rfl ?_
  refine r_obj (n := 90) (g := 1) (i := 0) (cn := 1) (T := TX1) (N := 3) (b1 := 288) (b2 := 1982) g9 (by decide +kernel) rfl (by decide +kernel) dX11_init_40 (xm1 220 rfl rfl) (xm1 221 rfl rfl) (xm1 5 rfl rfl) rfl rfl (by decide +kernel) rfl (by decide +kernel) (fun M9 g9 hk => ?_)
  have ha0 := (hk 11 0 (by decide +kernel)).trans ha0
  have kc := kc.tr hk (fun s => cnt_mn (by decide))
  generalize hx4 : M9.1 1 0 = x4
  refine x_dup dX11_init_43 rfl ?_
  refine x_aload_n dX11_init_44 rfl ?_
  refine r_get (n := 91) (g := 11) (i := 0) (k := 2) (t := (2, 0)) g9 (by decide +kernel) rfl (by decide +kernel) ha0 fX11_16 dX11_init_45 rfl rfl ?_
  generalize hx5 : M9.1 2 0 = x5
  refine x_civ (b1 := 287) (b2 := 1976) (ct_X1_init_91 (d := d + 2) g9 hx4 hx5) kX11_31 dX11_init_48 rfl rfl (Nat.le_of_ble_eq_true rfl) (fun M10 hq => ?_)
  obtain ⟨g9, hk⟩ := hq
  have ha0 := (hk 11 0 (by decide +kernel)).trans ha0
  have hx4 := (hk 1 0 (by decide +kernel)).trans hx4
  have hx5 := (hk 2 0 (by decide +kernel)).trans hx5
  have kc := kc.tr hk (fun s => cnt_mn (by decide))
  refine r_put (n := 94) (g := 11) (i := 0) (k := 4) (t := (1, 0)) g9 (by decide +kernel) rfl (by decide +kernel) (by decide +kernel) ha0 hx4 fsX11_34 dX11_init_51 rfl rfl rfl rfl (fun M11 g9 hk => ?_)
  have ha0 := (hk 11 0 (by decide +kernel)).trans ha0
  have hx4 := (hk 1 0 (by decide +kernel)).trans hx4
  have hx5 := (hk 2 0 (by decide +kernel)).trans hx5
  have kc := kc.tr hk (fun s => cnt_mn (by decide))
  refine x_aload_n dX11_init_54 rfl ?_
  refine r_obj (n := 95) (g := 0) (i := 0) (cn := 0) (T := TX0) (N := 8) (b1 := 286) (b2 := 1968) g9 (by decide +kernel) rfl (by decide +kernel) dX11_init_55 (xm1 237 rfl rfl) (xm1 238 rfl rfl) (xm1 6 rfl rfl) rfl rfl (by decide +kernel) rfl (by decide +kernel) (fun M12 g9 hk => ?_)
  have ha0 := (hk 11 0 (by decide +kernel)).trans ha0
  have kc := kc.tr hk (fun s => cnt_mn (by decide))
  generalize hx6 : M12.1 0 0 = x6
  refine x_dup dX11_init_58 rfl ?_
  refine x_aload_n dX11_init_59 rfl ?_
  refine r_get (n := 96) (g := 11) (i := 0) (k := 2) (t := (2, 0)) g9 (by decide +kernel) rfl (by decide +kernel) ha0 fX11_16 dX11_init_60 rfl rfl ?_
  generalize hx7 : M12.1 2 0 = x7
  refine x_civ (b1 := 218) (b2 := 1600) (ct_X0_init_96 (d := d + 0) g9 hx6 hx7) kX11_40 dX11_init_63 rfl rfl (Nat.le_of_ble_eq_true rfl) (fun M13 hq => ?_)
  obtain ⟨g9, hk⟩ := hq
  have ha0 := (hk 11 0 (by decide +kernel)).trans ha0
  have hx6 := (hk 0 0 (by decide +kernel)).trans hx6
  have hx7 := (hk 2 0 (by decide +kernel)).trans hx7
  have kc := kc.tr hk (fun s => cnt_mn (by decide))
  refine r_put (n := 233) (g := 11) (i := 0) (k := 5) (t := (0, 0)) g9 (by decide +kernel) rfl (by decide +kernel) (by decide +kernel) ha0 hx6 fsX11_41 dX11_init_66 rfl rfl rfl rfl (fun M14 g9 hk => ?_)
  have ha0 := (hk 11 0 (by decide +kernel)).trans ha0
  have hx6 := (hk 0 0 (by decide +kernel)).trans hx6
  have hx7 := (hk 2 0 (by decide +kernel)).trans hx7
  have kc := kc.tr hk (fun s => cnt_mn (by decide))
  refine x_aload_n dX11_init_69 rfl ?_
  refine r_obj (n := 234) (g := 9) (i := 0) (cn := 9) (T := TX9) (N := 5) (b1 := 217) (b2 := 1595) g9 (by decide +kernel) rfl (by decide +kernel) dX11_init_70 (xm2 69 rfl rfl) (xm2 70 rfl rfl) (xm1 8 rfl rfl) rfl rfl (by decide +kernel) rfl (by decide +kernel) (fun M15 g9 hk => ?_)
  have ha0 := (hk 11 0 (by decide +kernel)).trans ha0
  have kc := kc.tr hk (fun s => cnt_mn (by decide))
  generalize hx8 : M15.1 9 0 = x8
  refine x_dup dX11_init_73 rfl ?_
  refine x_aload_n dX11_init_74 rfl ?_
  refine r_get (n := 235) (g := 11) (i := 0) (k := 2) (t := (2, 0)) g9 (by decide +kernel) rfl (by decide +kernel) ha0 fX11_16 dX11_init_75 rfl rfl ?_
  generalize hx9 : M15.1 2 0 = x9
  refine x_aload_n dX11_init_78 rfl ?_
  refine r_get (n := 235) (g := 11) (i := 0) (k := 4) (t := (1, 0)) g9 (by decide +kernel) rfl (by decide +kernel) ha0 fX11_34 dX11_init_79 rfl rfl ?_
  generalize hx10 : M15.1 1 0 = x10
  refine x_aload_n dX11_init_82 rfl ?_
  refine r_get (n := 235) (g := 11) (i := 0) (k := 5) (t := (0, 0)) g9 (by decide +kernel) rfl (by decide +kernel) ha0 fX11_41 dX11_init_83 rfl rfl ?_
  generalize hx11 : M15.1 0 0 = x11
  refine x_civ (b1 := 216) (b2 := 1590) (ct_X9_init_235 (d := d + 2) g9 hx8 hx9 hx10 hx11) kX11_47 dX11_init_86 rfl rfl (Nat.le_of_ble_eq_true rfl) (fun M16 hq => ?_)
  obtain ⟨g9, hk⟩ := hq
  have ha0 := (hk 11 0 (by decide +kernel)).trans ha0
  have hx8 := (hk 9 0 (by decide +kernel)).trans hx8
  have hx9 := (hk 2 0 (by decide +kernel)).trans hx9
  have hx10 := (hk 1 0 (by decide +kernel)).trans hx10
  have hx11 := (hk 0 0 (by decide +kernel)).trans hx11
  have kc := kc.tr hk (fun s => cnt_mn (by decide))
  refine r_put (n := 240) (g := 11) (i := 0) (k := 6) (t := (9, 0)) g9 (by decide +kernel) rfl (by decide +kernel) (by decide +kernel) ha0 hx8 fsX11_50 dX11_init_89 rfl rfl rfl rfl (fun M17 g9 hk => ?_)
  have ha0 := (hk 11 0 (by decide +kernel)).trans ha0
  have hx8 := (hk 9 0 (by decide +kernel)).trans hx8
  have hx9 := (hk 2 0 (by decide +kernel)).trans hx9
  have hx10 := (hk 1 0 (by decide +kernel)).trans hx10
  have hx11 := (hk 0 0 (by decide +kernel)).trans hx11
  have kc := kc.tr hk (fun s => cnt_mn (by decide))
  refine x_aload_n dX11_init_92 rfl ?_
  refine r_obj (n := 241) (g := 10) (i := 0) (cn := 10) (T := TX10) (N := 9) (b1 := 215) (b2 := 1581) g9 (by decide +kernel) rfl (by decide +kernel) dX11_init_93 (xm2 94 rfl rfl) (xm2 95 rfl rfl) (xm1 9 rfl rfl) rfl rfl (by decide +kernel) rfl (by decide +kernel) (fun M18 g9 hk => ?_)
  have ha0 := (hk 11 0 (by decide +kernel)).trans ha0
  have kc := kc.tr hk (fun s => cnt_mn (by decide))
  generalize hx12 : M18.1 10 0 = x12
  refine x_dup dX11_init_96 rfl ?_
  refine x_aload_n dX11_init_97 rfl ?_
  refine r_get (n := 242) (g := 11) (i := 0) (k := 2) (t := (2, 0)) g9 (by decide +kernel) rfl (by decide +kernel) ha0 fX11_16 dX11_init_98 rfl rfl ?_
  generalize hx13 : M18.1 2 0 = x13
  refine x_aload_n dX11_init_101 rfl ?_
  refine r_get (n := 242) (g := 11) (i := 0) (k := 4) (t := (1, 0)) g9 (by decide +kernel) rfl (by decide +kernel) ha0 fX11_34 dX11_init_102 rfl rfl ?_
  generalize hx14 : M18.1 1 0 = x14
  refine x_civ (b1 := 79) (b2 := 529) (ct_X10_init_242 (d := d + 2) g9 hx12 hx13 hx14) kX11_56 dX11_init_105 rfl rfl (Nat.le_of_ble_eq_true rfl) (fun M19 hq => ?_)
  obtain ⟨g9, hk⟩ := hq
  have ha0 := (hk 11 0 (by decide +kernel)).trans ha0
  have hx12 := (hk 10 0 (by decide +kernel)).trans hx12
  have hx13 := (hk 2 0 (by decide +kernel)).trans hx13
  have hx14 := (hk 1 0 (by decide +kernel)).trans hx14
  have kc := kc.tr hk (fun s => cnt_mn (by decide))
  refine r_put (n := 256) (g := 11) (i := 0) (k := 7) (t := (10, 0)) g9 (by decide +kernel) rfl (by decide +kernel) (by decide +kernel) ha0 hx12 fsX11_59 dX11_init_108 rfl rfl rfl rfl (fun M20 g9 hk => ?_)
  have ha0 := (hk 11 0 (by decide +kernel)).trans ha0
  have hx12 := (hk 10 0 (by decide +kernel)).trans hx12
  have hx13 := (hk 2 0 (by decide +kernel)).trans hx13
  have hx14 := (hk 1 0 (by decide +kernel)).trans hx14
  have kc := kc.tr hk (fun s => cnt_mn (by decide))
  refine x_aload_n dX11_init_111 rfl ?_
  refine r_obj (n := 257) (g := 8) (i := 0) (cn := 8) (T := TX8) (N := 9) (b1 := 78) (b2 := 520) g9 (by decide +kernel) rfl (by decide +kernel) dX11_init_112 (xm2 136 rfl rfl) (xm2 137 rfl rfl) (xm1 10 rfl rfl) rfl rfl (by decide +kernel) rfl (by decide +kernel) (fun M21 g9 hk => ?_)
  have ha0 := (hk 11 0 (by decide +kernel)).trans ha0
  have kc := kc.tr hk (fun s => cnt_mn (by decide))
  generalize hx15 : M21.1 8 0 = x15
  refine x_dup dX11_init_115 rfl ?_
  refine x_aload_n dX11_init_116 rfl ?_
  refine r_get (n := 258) (g := 11) (i := 0) (k := 2) (t := (2, 0)) g9 (by decide +kernel) rfl (by decide +kernel) ha0 fX11_16 dX11_init_117 rfl rfl ?_
  generalize hx16 : M21.1 2 0 = x16
  refine x_aload_n dX11_init_120 rfl ?_
  refine r_get (n := 258) (g := 11) (i := 0) (k := 4) (t := (1, 0)) g9 (by decide +kernel) rfl (by decide +kernel) ha0 fX11_34 dX11_init_121 rfl rfl ?_
  generalize hx17 : M21.1 1 0 = x17
  refine x_civ (b1 := 71) (b2 := 484) (ct_X8_init_258 (d := d + 2) g9 hx15 hx16 hx17) kX11_65 dX11_init_124 rfl rfl (Nat.le_of_ble_eq_true rfl) (fun M22 hq => ?_)
  obtain ⟨g9, hk⟩ := hq
  have ha0 := (hk 11 0 (by decide +kernel)).trans ha0
  have hx15 := (hk 8 0 (by decide +kernel)).trans hx15
  have hx16 := (hk 2 0 (by decide +kernel)).trans hx16
  have hx17 := (hk 1 0 (by decide +kernel)).trans hx17
  have kc := kc.tr hk (fun s => cnt_mn (by decide))
  refine r_put (n := 266) (g := 11) (i := 0) (k := 8) (t := (8, 0)) g9 (by decide +kernel) rfl (by decide +kernel) (by decide +kernel) ha0 hx15 fsX11_66 dX11_init_127 rfl rfl rfl rfl (fun M23 g9 hk => ?_)
  have ha0 := (hk 11 0 (by decide +kernel)).trans ha0
  have hx15 := (hk 8 0 (by decide +kernel)).trans hx15
  have hx16 := (hk 2 0 (by decide +kernel)).trans hx16
  have hx17 := (hk 1 0 (by decide +kernel)).trans hx17
  have kc := kc.tr hk (fun s => cnt_mn (by decide))
  refine x_aload_n dX11_init_130 rfl ?_
  refine r_obj (n := 267) (g := 5) (i := 0) (cn := 5) (T := TX5) (N := 5) (b1 := 70) (b2 := 479) g9 (by decide +kernel) rfl (by decide +kernel) dX11_init_131 (xm2 176 rfl rfl) (xm2 177 rfl rfl) (xm1 11 rfl rfl) rfl rfl (by decide +kernel) rfl (by decide +kernel) (fun M24 g9 hk => ?_)
  have ha0 := (hk 11 0 (by decide +kernel)).trans ha0
  have kc := kc.tr hk (fun s => cnt_mn (by decide))
  generalize hx18 : M24.1 5 0 = x18
  refine x_dup dX11_init_134 rfl ?_
  refine x_aload_n dX11_init_135 rfl ?_
  refine r_get (n := 268) (g := 11) (i := 0) (k := 2) (t := (2, 0)) g9 (by decide +kernel) rfl (by decide +kernel) ha0 fX11_16 dX11_init_136 rfl rfl ?_
  generalize hx19 : M24.1 2 0 = x19
  refine x_aload_n dX11_init_139 rfl ?_
  refine r_get (n := 268) (g := 11) (i := 0) (k := 6) (t := (9, 0)) g9 (by decide +kernel) rfl (by decide +kernel) ha0 fX11_50 dX11_init_140 rfl rfl ?_
  generalize hx20 : M24.1 9 0 = x20
  refine x_civ (b1 := 68) (b2 := 467) (ct_X5_init_268 (d := d + 2) g9 hx18 hx19 hx20) kX11_72 dX11_init_143 rfl rfl (Nat.le_of_ble_eq_true rfl) (fun M25 hq => ?_)
  obtain ⟨g9, hk⟩ := hq
  have ha0 := (hk 11 0 (by decide +kernel)).trans ha0
  have hx18 := (hk 5 0 (by decide +kernel)).trans hx18
  have hx19 := (hk 2 0 (by decide +kernel)).trans hx19
  have hx20 := (hk 9 0 (by decide +kernel)).trans hx20
  have kc := kc.tr hk (fun s => cnt_mn (by decide))
  refine r_put (n := 274) (g := 11) (i := 0) (k := 9) (t := (5, 0)) g9 (by decide +kernel) rfl (by decide +kernel) (by decide +kernel) ha0 hx18 fsX11_75 dX11_init_146 rfl rfl rfl rfl (fun M26 g9 hk => ?_)
  have ha0 := (hk 11 0 (by decide +kernel)).trans ha0
  have hx18 := (hk 5 0 (by decide +kernel)).trans hx18
  have hx19 := (hk 2 0 (by decide +kernel)).trans hx19
  have hx20 := (hk 9 0 (by decide +kernel)).trans hx20
  have kc := kc.tr hk (fun s => cnt_mn (by decide))
  refine x_aload_n dX11_init_149 rfl ?_
  refine r_obj (n := 275) (g := 3) (i := 0) (cn := 3) (T := TX3) (N := 6) (b1 := 67) (b2 := 461) g9 (by decide +kernel) rfl (by decide +kernel) dX11_init_150 (xm2 200 rfl rfl) (xm2 201 rfl rfl) (xm1 12 rfl rfl) rfl rfl (by decide +kernel) rfl (by decide +kernel) (fun M27 g9 hk => ?_)
  have ha0 := (hk 11 0 (by decide +kernel)).trans ha0
  have kc := kc.tr hk (fun s => cnt_mn (by decide))
  generalize hx21 : M27.1 3 0 = x21
  refine x_dup dX11_init_153 rfl ?_
  refine x_aload_n dX11_init_154 rfl ?_
  refine r_get (n := 276) (g := 11) (i := 0) (k := 2) (t := (2, 0)) g9 (by decide +kernel) rfl (by decide +kernel) ha0 fX11_16 dX11_init_155 rfl rfl ?_
  generalize hx22 : M27.1 2 0 = x22
  refine x_aload_n dX11_init_158 rfl ?_
  refine r_get (n := 276) (g := 11) (i := 0) (k := 4) (t := (1, 0)) g9 (by decide +kernel) rfl (by decide +kernel) ha0 fX11_34 dX11_init_159 rfl rfl ?_
  generalize hx23 : M27.1 1 0 = x23
  refine x_aload_n dX11_init_162 rfl ?_
  refine r_get (n := 276) (g := 11) (i := 0) (k := 7) (t := (10, 0)) g9 (by decide +kernel) rfl (by decide +kernel) ha0 fX11_59 dX11_init_163 rfl rfl ?_
  generalize hx24 : M27.1 10 0 = x24
  refine x_civ (b1 := 1) (b2 := 6) (ct_X3_init_276 (d := d + 2) g9 hx21 hx22 hx23 hx24) kX11_81 dX11_init_166 rfl rfl (Nat.le_of_ble_eq_true rfl) (fun M28 hq => ?_)
  obtain ⟨g9, hk⟩ := hq
  have ha0 := (hk 11 0 (by decide +kernel)).trans ha0
  have hx21 := (hk 3 0 (by decide +kernel)).trans hx21
  have hx22 := (hk 2 0 (by decide +kernel)).trans hx22
  have hx23 := (hk 1 0 (by decide +kernel)).trans hx23
  have hx24 := (hk 10 0 (by decide +kernel)).trans hx24
  have kc := kc.tr hk (fun s => cnt_mn (by decide))
  refine r_put (n := 281) (g := 11) (i := 0) (k := 10) (t := (3, 0)) g9 (by decide +kernel) rfl (by decide +kernel) (by decide +kernel) ha0 hx21 fsX11_84 dX11_init_169 rfl rfl rfl rfl (fun M29 g9 hk => ?_)
  have ha0 := (hk 11 0 (by decide +kernel)).trans ha0
  have hx21 := (hk 3 0 (by decide +kernel)).trans hx21
  have hx22 := (hk 2 0 (by decide +kernel)).trans hx22
  have hx23 := (hk 1 0 (by decide +kernel)).trans hx23
  have hx24 := (hk 10 0 (by decide +kernel)).trans hx24
  have kc := kc.tr hk (fun s => cnt_mn (by decide))
  refine x_aload_n dX11_init_172 rfl ?_
  refine x_bipush dX11_init_173 lb_6 ?_
  refine r_arr (n := 282) (g := 15) (i := 0) (t := 0) (N := 6) (b1 := 0) (b2 := 0) g9 (by decide +kernel) rfl (by decide +kernel) dX11_init_175 rfl (by decide) rfl (by decide) (xm1 148 rfl rfl) (by decide +kernel) (fun M30 g9 hk => ?_)
  have ha0 := (hk 11 0 (by decide +kernel)).trans ha0
  have kc := kc.tr hk (fun s => cnt_mn (by decide))
  generalize hx25 : M30.1 15 0 = x25
  refine r_put (n := 283) (g := 11) (i := 0) (k := 11) (t := (15, 0)) g9 (by decide +kernel) rfl (by decide +kernel) (by decide +kernel) ha0 hx25 fsX11_88 dX11_init_177 rfl rfl rfl rfl (fun M31 g9 hk => ?_)
  have ha0 := (hk 11 0 (by decide +kernel)).trans ha0
  have hx25 := (hk 15 0 (by decide +kernel)).trans hx25
  have kc := kc.tr hk (fun s => cnt_mn (by decide))
  refine x_aload_n dX11_init_180 rfl ?_
  refine x_iconst dX11_init_181 li_m1 ?_
  refine r_neg (n := 284) (g := 11) (i := 0) (k := 14) g9 (by decide +kernel) (by decide +kernel) ha0 fX11_91 dX11_init_182 rfl rfl rfl (fun M32 g9 hk => ?_)
  have ha0 := (hk 11 0 (by decide +kernel)).trans ha0
  have kc := kc.tr hk (fun s => cnt_mn (by decide))
  refine x_vret dX11_init_185 rfl ?_
  exact ⟨rfl, g9, kc⟩
set_option maxRecDepth 100000 in
set_option maxHeartbeats 4000000 in
theorem ct_X13_init_286 {G : xG} {d : Nat} {M : xM} {a0 : Nat} (g9 : GSt 286 M) (ha0 : M.1 13 0 = a0) : Mt G vX13_init (d + 1) (19, 2290) [.ref a0] M (qV (fun M' => GSt 325 M' ∧ KA 286 M M')) := by
  refine x_start (by decide) (Nat.le_of_ble_eq_true rfl) ?_
  have kc : KA 286 M M := KA.rf
  refine x_aload_n dX13_init_0 rfl ?_
  refine x_objinit dX13_init_1 (xm5 236 rfl rfl) (Nat.le_of_ble_eq_true rfl) ?_
  refine x_aload_n dX13_init_4 rfl ?_
  refine x_iconst dX13_init_5 li_m1 ?_
  refine r_neg (n := 286) (g := 13) (i := 0) (k := 2) g9 (by decide +kernel) (by decide +kernel) ha0 fX13_9 dX13_init_6 rfl rfl rfl (fun M1 g9 hk => ?_)
  have ha0 := (hk 13 0 (by decide +kernel)).trans ha0
  have kc := kc.tr hk (fun s => cnt_mn (by decide))
  refine x_aload_n dX13_init_9 rfl ?_
  refine x_sipush dX13_init_10 lS_1100 ?_
  refine r_arr (n := 287) (g := 84) (i := 0) (t := 1) (N := 1100) (b1 := 18) (b2 := 1190) g9 (by decide +kernel) rfl (by decide +kernel) dX13_init_13 rfl (by decide) rfl (by decide) (xm4 11 rfl rfl) (by decide +kernel) (fun M2 g9 hk => ?_)
  have ha0 := (hk 13 0 (by decide +kernel)).trans ha0
  have kc := kc.tr hk (fun s => cnt_mn (by decide))
  generalize hx0 : M2.1 84 0 = x0
  refine r_put (n := 288) (g := 13) (i := 0) (k := 5) (t := (84, 0)) g9 (by decide +kernel) rfl (by decide +kernel) (by decide +kernel) ha0 hx0 fsX13_13 dX13_init_15 rfl rfl rfl rfl (fun M3 g9 hk => ?_)
  have ha0 := (hk 13 0 (by decide +kernel)).trans ha0
  have hx0 := (hk 84 0 (by decide +kernel)).trans hx0
  have kc := kc.tr hk (fun s => cnt_mn (by decide))
  refine x_aload_n dX13_init_18 rfl ?_
  refine x_bipush dX13_init_19 lb_36 ?_
  refine r_arr (n := 289) (g := 85) (i := 0) (t := 0) (N := 36) (b1 := 17) (b2 := 1154) g9 (by decide +kernel) rfl (by decide +kernel) dX13_init_21 rfl (by decide) rfl (by decide) (xm1 148 rfl rfl) (by decide +kernel) (fun M4 g9 hk => ?_)
  have ha0 := (hk 13 0 (by decide +kernel)).trans ha0
  have kc := kc.tr hk (fun s => cnt_mn (by decide))
  generalize hx1 : M4.1 85 0 = x1
  refine r_put (n := 290) (g := 13) (i := 0) (k := 16) (t := (85, 0)) g9 (by decide +kernel) rfl (by decide +kernel) (by decide +kernel) ha0 hx1 fsX13_17 dX13_init_23 rfl rfl rfl rfl (fun M5 g9 hk => ?_)
  have ha0 := (hk 13 0 (by decide +kernel)).trans ha0
  have hx1 := (hk 85 0 (by decide +kernel)).trans hx1
  have kc := kc.tr hk (fun s => cnt_mn (by decide))
  refine x_aload_n dX13_init_26 rfl ?_
  refine x_sipush dX13_init_27 lS_576 ?_
  refine r_arr (n := 291) (g := 86) (i := 0) (t := 0) (N := 576) (b1 := 16) (b2 := 578) g9 (by decide +kernel) rfl (by decide +kernel) dX13_init_30 rfl (by decide) rfl (by decide) (xm1 148 rfl rfl) (by decide +kernel) (fun M6 g9 hk => ?_)
  have ha0 := (hk 13 0 (by decide +kernel)).trans ha0
  have kc := kc.tr hk (fun s => cnt_mn (by decide))
  generalize hx2 : M6.1 86 0 = x2
  refine r_put (n := 292) (g := 13) (i := 0) (k := 17) (t := (86, 0)) g9 (by decide +kernel) rfl (by decide +kernel) (by decide +kernel) ha0 hx2 fsX13_21 dX13_init_32 rfl rfl rfl rfl (fun M7 g9 hk => ?_)
  have ha0 := (hk 13 0 (by decide +kernel)).trans ha0
  have hx2 := (hk 86 0 (by decide +kernel)).trans hx2
  have kc := kc.tr hk (fun s => cnt_mn (by decide))
  refine x_aload_n dX13_init_35 rfl ?_
  refine x_bipush dX13_init_36 lb_108 ?_
  refine r_arr (n := 293) (g := 87) (i := 0) (t := 0) (N := 108) (b1 := 15) (b2 := 470) g9 (by decide +kernel) rfl (by decide +kernel) dX13_init_38 rfl (by decide) rfl (by decide) (xm1 148 rfl rfl) (by decide +kernel) (fun M8 g9 hk => ?_)
  have ha0 := (hk 13 0 (by decide +kernel)).trans ha0
  have kc := kc.tr hk (fun s => cnt_mn (by decide))
  generalize hx3 : M8.1 87 0 = x3
  refine r_put (n := 294) (g := 13) (i := 0) (k := 18) (t := (87, 0)) g9 (by decide +kernel) rfl (by decide +kernel) (by decide +kernel) ha0 hx3 fsX13_24 dX13_init_40 rfl rfl rfl rfl (fun M9 g9 hk => ?_)
  have ha0 := (hk 13 0 (by decide +kernel)).trans ha0
  have hx3 := (hk 87 0 (by decide +kernel)).trans hx3
  have kc := kc.tr hk (fun s => cnt_mn (by decide))
  refine x_aload_n dX13_init_43 rfl ?_
  refine x_bipush dX13_init_44 lb_6 ?_
  refine r_arr (n := 295) (g := 88) (i := 0) (t := 0) (N := 6) (b1 := 14) (b2 := 464) g9 (by decide +kernel) rfl (by decide +kernel) dX13_init_46 rfl (by decide) rfl (by decide) (xm1 148 rfl rfl) (by decide +kernel) (fun M10 g9 hk => ?_)
  have ha0 := (hk 13 0 (by decide +kernel)).trans ha0
  have kc := kc.tr hk (fun s => cnt_mn (by decide))
  generalize hx4 : M10.1 88 0 = x4
  refine r_put (n := 296) (g := 13) (i := 0) (k := 21) (t := (88, 0)) g9 (by decide +kernel) rfl (by decide +kernel) (by decide +kernel) ha0 hx4 fsX13_27 dX13_init_48 rfl rfl rfl rfl (fun M11 g9 hk => ?_)
  have ha0 := (hk 13 0 (by decide +kernel)).trans ha0
  have hx4 := (hk 88 0 (by decide +kernel)).trans hx4
  have kc := kc.tr hk (fun s => cnt_mn (by decide))
  refine x_aload_n dX13_init_51 rfl ?_
  refine x_bipush dX13_init_52 lb_6 ?_
  refine r_arr (n := 297) (g := 89) (i := 0) (t := 0) (N := 6) (b1 := 13) (b2 := 458) g9 (by decide +kernel) rfl (by decide +kernel) dX13_init_54 rfl (by decide) rfl (by decide) (xm1 148 rfl rfl) (by decide +kernel) (fun M12 g9 hk => ?_)
  have ha0 := (hk 13 0 (by decide +kernel)).trans ha0
  have kc := kc.tr hk (fun s => cnt_mn (by decide))
  generalize hx5 : M12.1 89 0 = x5
  refine r_put (n := 298) (g := 13) (i := 0) (k := 22) (t := (89, 0)) g9 (by decide +kernel) rfl (by decide +kernel) (by decide +kernel) ha0 hx5 fsX13_30 dX13_init_56 rfl rfl rfl rfl (fun M13 g9 hk => ?_)
  have ha0 := (hk 13 0 (by decide +kernel)).trans ha0
  have hx5 := (hk 89 0 (by decide +kernel)).trans hx5
  have kc := kc.tr hk (fun s => cnt_mn (by decide))
  refine x_aload_n dX13_init_59 rfl ?_
  refine x_iconst dX13_init_60 li_4 ?_
  refine r_arr (n := 299) (g := 90) (i := 0) (t := 0) (N := 4) (b1 := 12) (b2 := 454) g9 (by decide +kernel) rfl (by decide +kernel) dX13_init_61 rfl (by decide) rfl (by decide) (xm1 148 rfl rfl) (by decide +kernel) (fun M14 g9 hk => ?_)
  have ha0 := (hk 13 0 (by decide +kernel)).trans ha0
  have kc := kc.tr hk (fun s => cnt_mn (by decide))
  generalize hx6 : M14.1 90 0 = x6
  refine r_put (n := 300) (g := 13) (i := 0) (k := 23) (t := (90, 0)) g9 (by decide +kernel) rfl (by decide +kernel) (by decide +kernel) ha0 hx6 fsX13_33 dX13_init_63 rfl rfl rfl rfl (fun M15 g9 hk => ?_)
  have ha0 := (hk 13 0 (by decide +kernel)).trans ha0
  have hx6 := (hk 90 0 (by decide +kernel)).trans hx6
  have kc := kc.tr hk (fun s => cnt_mn (by decide))
  refine x_aload_n dX13_init_66 rfl ?_
  refine x_iconst dX13_init_67 li_5 ?_
  refine r_arr (n := 301) (g := 91) (i := 0) (t := 0) (N := 5) (b1 := 11) (b2 := 449) g9 (by decide +kernel) rfl (by decide +kernel) dX13_init_68 rfl (by decide) rfl (by decide) (xm1 148 rfl rfl) (by decide +kernel) (fun M16 g9 hk => ?_)
  have ha0 := (hk 13 0 (by decide +kernel)).trans ha0
  have kc := kc.tr hk (fun s => cnt_mn (by decide))
  generalize hx7 : M16.1 91 0 = x7
  refine r_put (n := 302) (g := 13) (i := 0) (k := 24) (t := (91, 0)) g9 (by decide +kernel) rfl (by decide +kernel) (by decide +kernel) ha0 hx7 fsX13_36 dX13_init_70 rfl rfl rfl rfl (fun M17 g9 hk => ?_)
  have ha0 := (hk 13 0 (by decide +kernel)).trans ha0
  have hx7 := (hk 91 0 (by decide +kernel)).trans hx7
  have kc := kc.tr hk (fun s => cnt_mn (by decide))
  refine x_aload_n dX13_init_73 rfl ?_
  refine x_bipush dX13_init_74 lb_6 ?_
  refine r_arr (n := 303) (g := 92) (i := 0) (t := 0) (N := 6) (b1 := 10) (b2 := 443) g9 (by decide +kernel) rfl (by decide +kernel) dX13_init_76 rfl (by decide) rfl (by decide) (xm1 148 rfl rfl) (by decide +kernel) (fun M18 g9 hk => ?_)
  have ha0 := (hk 13 0 (by decide +kernel)).trans ha0
  have kc := kc.tr hk (fun s => cnt_mn (by decide))
  generalize hx8 : M18.1 92 0 = x8
  refine r_put (n := 304) (g := 13) (i := 0) (k := 25) (t := (92, 0)) g9 (by decide +kernel) rfl (by decide +kernel) (by decide +kernel) ha0 hx8 fsX13_39 dX13_init_78 rfl rfl rfl rfl (fun M19 g9 hk => ?_)
  have ha0 := (hk 13 0 (by decide +kernel)).trans ha0
  have hx8 := (hk 92 0 (by decide +kernel)).trans hx8
  have kc := kc.tr hk (fun s => cnt_mn (by decide))
  refine x_aload_n dX13_init_81 rfl ?_
  refine x_bipush dX13_init_82 lb_18 ?_
  refine r_arr (n := 305) (g := 93) (i := 0) (t := 0) (N := 18) (b1 := 9) (b2 := 425) g9 (by decide +kernel) rfl (by decide +kernel) dX13_init_84 rfl (by decide) rfl (by decide) (xm1 148 rfl rfl) (by decide +kernel) (fun M20 g9 hk => ?_)
  have ha0 := (hk 13 0 (by decide +kernel)).trans ha0
  have kc := kc.tr hk (fun s => cnt_mn (by decide))
  generalize hx9 : M20.1 93 0 = x9
  refine r_put (n := 306) (g := 13) (i := 0) (k := 26) (t := (93, 0)) g9 (by decide +kernel) rfl (by decide +kernel) (by decide +kernel) ha0 hx9 fsX13_42 dX13_init_86 rfl rfl rfl rfl (fun M21 g9 hk => ?_)
  have ha0 := (hk 13 0 (by decide +kernel)).trans ha0
  have hx9 := (hk 93 0 (by decide +kernel)).trans hx9
  have kc := kc.tr hk (fun s => cnt_mn (by decide))
  refine x_aload_n dX13_init_89 rfl ?_
  refine x_iconst dX13_init_90 li_3 ?_
  refine r_arr (n := 307) (g := 94) (i := 0) (t := 0) (N := 3) (b1 := 8) (b2 := 422) g9 (by decide +kernel) rfl (by decide +kernel) dX13_init_91 rfl (by decide) rfl (by decide) (xm1 148 rfl rfl) (by decide +kernel) (fun M22 g9 hk => ?_)
  have ha0 := (hk 13 0 (by decide +kernel)).trans ha0
  have kc := kc.tr hk (fun s => cnt_mn (by decide))
  generalize hx10 : M22.1 94 0 = x10
  refine r_put (n := 308) (g := 13) (i := 0) (k := 27) (t := (94, 0)) g9 (by decide +kernel) rfl (by decide +kernel) (by decide +kernel) ha0 hx10 fsX13_45 dX13_init_93 rfl rfl rfl rfl (fun M23 g9 hk => ?_)
  have ha0 := (hk 13 0 (by decide +kernel)).trans ha0
  have hx10 := (hk 94 0 (by decide +kernel)).trans hx10
  have kc := kc.tr hk (fun s => cnt_mn (by decide))
  refine x_aload_n dX13_init_96 rfl ?_
  refine x_iconst dX13_init_97 li_3 ?_
  refine r_arr (n := 309) (g := 95) (i := 0) (t := 0) (N := 3) (b1 := 7) (b2 := 419) g9 (by decide +kernel) rfl (by decide +kernel) dX13_init_98 rfl (by decide) rfl (by decide) (xm1 148 rfl rfl) (by decide +kernel) (fun M24 g9 hk => ?_)
  have ha0 := (hk 13 0 (by decide +kernel)).trans ha0
  have kc := kc.tr hk (fun s => cnt_mn (by decide))
  generalize hx11 : M24.1 95 0 = x11
  refine r_put (n := 310) (g := 13) (i := 0) (k := 28) (t := (95, 0)) g9 (by decide +kernel) rfl (by decide +kernel) (by decide +kernel) ha0 hx11 fsX13_48 dX13_init_100 rfl rfl rfl rfl (fun M25 g9 hk => ?_)
  have ha0 := (hk 13 0 (by decide +kernel)).trans ha0
  have hx11 := (hk 95 0 (by decide +kernel)).trans hx11
  have kc := kc.tr hk (fun s => cnt_mn (by decide))
  refine x_aload_n dX13_init_103 rfl ?_
  refine x_iconst dX13_init_104 li_3 ?_
  refine r_arr (n := 311) (g := 96) (i := 0) (t := 0) (N := 3) (b1 := 6) (b2 := 416) g9 (by decide +kernel) rfl (by decide +kernel) dX13_init_105 rfl (by decide) rfl (by decide) (xm1 148 rfl rfl) (by decide +kernel) (fun M26 g9 hk => ?_)
  have ha0 := (hk 13 0 (by decide +kernel)).trans ha0
  have kc := kc.tr hk (fun s => cnt_mn (by decide))
  generalize hx12 : M26.1 96 0 = x12
  refine r_put (n := 312) (g := 13) (i := 0) (k := 29) (t := (96, 0)) g9 (by decide +kernel) rfl (by decide +kernel) (by decide +kernel) ha0 hx12 fsX13_51 dX13_init_107 rfl rfl rfl rfl (fun M27 g9 hk => ?_)
  have ha0 := (hk 13 0 (by decide +kernel)).trans ha0
  have hx12 := (hk 96 0 (by decide +kernel)).trans hx12
  have kc := kc.tr hk (fun s => cnt_mn (by decide))
  refine x_aload_n dX13_init_110 rfl ?_
  refine x_sipush dX13_init_111 lS_390 ?_
  refine r_arr (n := 313) (g := 97) (i := 0) (t := 0) (N := 390) (b1 := 5) (b2 := 26) g9 (by decide +kernel) rfl (by decide +kernel) dX13_init_114 rfl (by decide) rfl (by decide) (xm1 148 rfl rfl) (by decide +kernel) (fun M28 g9 hk => ?_)
  have ha0 := (hk 13 0 (by decide +kernel)).trans ha0
  have kc := kc.tr hk (fun s => cnt_mn (by decide))
  generalize hx13 : M28.1 97 0 = x13
  refine r_put (n := 314) (g := 13) (i := 0) (k := 30) (t := (97, 0)) g9 (by decide +kernel) rfl (by decide +kernel) (by decide +kernel) ha0 hx13 fsX13_54 dX13_init_116 rfl rfl rfl rfl (fun M29 g9 hk => ?_)
  have ha0 := (hk 13 0 (by decide +kernel)).trans ha0
  have hx13 := (hk 97 0 (by decide +kernel)).trans hx13
  have kc := kc.tr hk (fun s => cnt_mn (by decide))
  refine x_aload_n dX13_init_119 rfl ?_
  refine x_iconst dX13_init_120 li_4 ?_
  refine r_arr (n := 315) (g := 98) (i := 0) (t := 0) (N := 4) (b1 := 4) (b2 := 22) g9 (by decide +kernel) rfl (by decide +kernel) dX13_init_121 rfl (by decide) rfl (by decide) (xm1 148 rfl rfl) (by decide +kernel) (fun M30 g9 hk => ?_)
  have ha0 := (hk 13 0 (by decide +kernel)).trans ha0
  have kc := kc.tr hk (fun s => cnt_mn (by decide))
  generalize hx14 : M30.1 98 0 = x14
  refine r_put (n := 316) (g := 13) (i := 0) (k := 32) (t := (98, 0)) g9 (by decide +kernel) rfl (by decide +kernel) (by decide +kernel) ha0 hx14 fsX13_57 dX13_init_123 rfl rfl rfl rfl (fun M31 g9 hk => ?_)
  have ha0 := (hk 13 0 (by decide +kernel)).trans ha0
  have hx14 := (hk 98 0 (by decide +kernel)).trans hx14
  have kc := kc.tr hk (fun s => cnt_mn (by decide))
  refine x_aload_n dX13_init_126 rfl ?_
  refine x_iconst dX13_init_127 li_4 ?_
  refine r_arr (n := 317) (g := 99) (i := 0) (t := 0) (N := 4) (b1 := 3) (b2 := 18) g9 (by decide +kernel) rfl (by decide +kernel) dX13_init_128 rfl (by decide) rfl (by decide) (xm1 148 rfl rfl) (by decide +kernel) (fun M32 g9 hk => ?_)
  have ha0 := (hk 13 0 (by decide +kernel)).trans ha0
  have kc := kc.tr hk (fun s => cnt_mn (by decide))
  generalize hx15 : M32.1 99 0 = x15
  refine r_put (n := 318) (g := 13) (i := 0) (k := 33) (t := (99, 0)) g9 (by decide +kernel) rfl (by decide +kernel) (by decide +kernel) ha0 hx15 fsX13_60 dX13_init_130 rfl rfl rfl rfl (fun M33 g9 hk => ?_)
  have ha0 := (hk 13 0 (by decide +kernel)).trans ha0
  have hx15 := (hk 99 0 (by decide +kernel)).trans hx15
  have kc := kc.tr hk (fun s => cnt_mn (by decide))
  refine x_aload_n dX13_init_133 rfl ?_
  refine x_bipush dX13_init_134 lb_6 ?_
  refine r_arr (n := 319) (g := 100) (i := 0) (t := 0) (N := 6) (b1 := 2) (b2 := 12) g9 (by decide +kernel) rfl (by decide +kernel) dX13_init_136 rfl (by decide) rfl (by decide) (xm1 148 rfl rfl) (by decide +kernel) (fun M34 g9 hk => ?_)
  have ha0 := (hk 13 0 (by decide +kernel)).trans ha0
  have kc := kc.tr hk (fun s => cnt_mn (by decide))
  generalize hx16 : M34.1 100 0 = x16
  refine r_put (n := 320) (g := 13) (i := 0) (k := 38) (t := (100, 0)) g9 (by decide +kernel) rfl (by decide +kernel) (by decide +kernel) ha0 hx16 fsX13_63 dX13_init_138 rfl rfl rfl rfl (fun M35 g9 hk => ?_)
  have ha0 := (hk 13 0 (by decide +kernel)).trans ha0
  have hx16 := (hk 100 0 (by decide +kernel)).trans hx16
  have kc := kc.tr hk (fun s => cnt_mn (by decide))
  refine x_aload_n dX13_init_141 rfl ?_
  refine x_bipush dX13_init_142 lb_6 ?_
  refine r_arr (n := 321) (g := 101) (i := 0) (t := 0) (N := 6) (b1 := 1) (b2 := 6) g9 (by decide +kernel) rfl (by decide +kernel) dX13_init_144 rfl (by decide) rfl (by decide) (xm1 148 rfl rfl) (by decide +kernel) (fun M36 g9 hk => ?_)
  have ha0 := (hk 13 0 (by decide +kernel)).trans ha0
  have kc := kc.tr hk (fun s => cnt_mn (by decide))
  generalize hx17 : M36.1 101 0 = x17
  refine r_put (n := 322) (g := 13) (i := 0) (k := 39) (t := (101, 0)) g9 (by decide +kernel) rfl (by decide +kernel) (by decide +kernel) ha0 hx17 fsX13_66 dX13_init_146 rfl rfl rfl rfl (fun M37 g9 hk => ?_)
  have ha0 := (hk 13 0 (by decide +kernel)).trans ha0
  have hx17 := (hk 101 0 (by decide +kernel)).trans hx17
  have kc := kc.tr hk (fun s => cnt_mn (by decide))
  refine x_aload_n dX13_init_149 rfl ?_
  refine x_bipush dX13_init_150 lb_6 ?_
  refine r_arr (n := 323) (g := 102) (i := 0) (t := 0) (N := 6) (b1 := 0) (b2 := 0) g9 (by decide +kernel) rfl (by decide +kernel) dX13_init_152 rfl (by decide) rfl (by decide) (xm1 148 rfl rfl) (by decide +kernel) (fun M38 g9 hk => ?_)
  have ha0 := (hk 13 0 (by decide +kernel)).trans ha0
  have kc := kc.tr hk (fun s => cnt_mn (by decide))
  generalize hx18 : M38.1 102 0 = x18
  refine r_put (n := 324) (g := 13) (i := 0) (k := 40) (t := (102, 0)) g9 (by decide +kernel) rfl (by decide +kernel) (by decide +kernel) ha0 hx18 fsX13_69 dX13_init_154 rfl rfl rfl rfl (fun M39 g9 hk => ?_)
  have ha0 := (hk 13 0 (by decide +kernel)).trans ha0
  have hx18 := (hk 102 0 (by decide +kernel)).trans hx18
  have kc := kc.tr hk (fun s => cnt_mn (by decide))
  refine x_vret dX13_init_157 rfl ?_
  exact ⟨rfl, g9, kc⟩
end M54
