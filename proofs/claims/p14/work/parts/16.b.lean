def tb_X11_init : List (Nat × Instr × Nat) := [(0, (.aload_n 0, 1)), (1, (.invokespecial 1, 3)), (4, (.aload_n 0, 1)), (5, (.new 7, 3)), (8, (.dup, 1)), (9, (.invokespecial 9, 3)), (12, (.putfield 10, 3)), (15, (.aload_n 0, 1)), (16, (.new 16, 3)), (19, (.dup, 1)), (20, (.invokespecial 18, 3)), (23, (.putfield 19, 3)), (26, (.aload_n 0, 1)), (27, (.new 23, 3)), (30, (.dup, 1)), (31, (.invokespecial 25, 3)), (34, (.putfield 26, 3)), (37, (.aload_n 0, 1)), (38, (.new 23, 3)), (41, (.dup, 1)), (42, (.invokespecial 25, 3)), (45, (.putfield 30, 3)), (48, (.aload_n 0, 1)), (49, (.new 23, 3)), (52, (.dup, 1)), (53, (.invokespecial 25, 3)), (56, (.putfield 33, 3)), (59, (.aload_n 0, 1)), (60, (.new 36, 3)), (63, (.dup, 1)), (64, (.aload_n 0, 1)), (65, (.getfield 19, 3)), (68, (.invokespecial 38, 3)), (71, (.putfield 41, 3)), (74, (.aload_n 0, 1)), (75, (.new 45, 3)), (78, (.dup, 1)), (79, (.aload_n 0, 1)), (80, (.getfield 19, 3)), (83, (.aload_n 0, 1)), (84, (.getfield 41, 3)), (87, (.invokespecial 47, 3)), (90, (.putfield 50, 3)), (93, (.aload_n 0, 1)), (94, (.new 54, 3)), (97, (.dup, 1)), (98, (.aload_n 0, 1)), (99, (.getfield 10, 3)), (102, (.invokespecial 56, 3)), (105, (.putfield 59, 3)), (108, (.aload_n 0, 1)), (109, (.new 63, 3)), (112, (.dup, 1)), (113, (.aload_n 0, 1)), (114, (.getfield 10, 3)), (117, (.invokespecial 65, 3)), (120, (.putfield 66, 3)), (123, (.aload_n 0, 1)), (124, (.new 70, 3)), (127, (.dup, 1)), (128, (.aload_n 0, 1)), (129, (.getfield 19, 3)), (132, (.aload_n 0, 1)), (133, (.getfield 41, 3)), (136, (.aload_n 0, 1)), (137, (.getfield 50, 3)), (140, (.invokespecial 72, 3)), (143, (.putfield 75, 3)), (146, (.aload_n 0, 1)), (147, (.new 79, 3)), (150, (.dup, 1)), (151, (.aload_n 0, 1)), (152, (.getfield 19, 3)), (155, (.aload_n 0, 1)), (156, (.getfield 41, 3)), (159, (.aload_n 0, 1)), (160, (.getfield 50, 3)), (163, (.aload_n 0, 1)), (164, (.getfield 33, 3)), (167, (.invokespecial 81, 3)), (170, (.putfield 84, 3)), (173, (.aload_n 0, 1)), (174, (.new 88, 3)), (177, (.dup, 1)), (178, (.aload_n 0, 1)), (179, (.getfield 19, 3)), (182, (.aload_n 0, 1)), (183, (.getfield 41, 3)), (186, (.invokespecial 90, 3)), (189, (.putfield 91, 3)), (192, (.aload_n 0, 1)), (193, (.iconst 0, 1)), (194, (.putfield 95, 3)), (197, (.return_, 1))]
theorem dm_X11_init : ∀ q ∈ tb_X11_init, decode zX11_init.2.1 q.1 = .ok q.2 := by decide +kernel
def tb_X9_init : List (Nat × Instr × Nat) := [(0, (.aload_n 0, 1)), (1, (.invokespecial 3, 3)), (4, (.aload_n 0, 1)), (5, (.sipush 260, 3)), (8, (.newarray .int, 2)), (10, (.putfield 9, 3)), (13, (.return_, 1))]
theorem dm_X9_init : ∀ q ∈ tb_X9_init, decode zX9_init.2.1 q.1 = .ok q.2 := by decide +kernel
theorem k_X9_init_1 (g : qG) (hgN : g.2.2.2.2.1 = 121) (l : Launch) : qBM g l 1 64 zX9_init [.inr (some 1)] (xs_2, q0) (xs_4, q0) 1 260 := by
  refine qBM.of zi_X9_init (by decide) (fun k hk o => ?_)
  subst hk
  refine qb_aload_n o (q_dm dm_X9_init 0 rfl) rfl ?_
  refine qb_obj o mo_X9_3 oi_inst oi_code (Nat.le_of_ble_eq_true rfl) (Nat.le_of_ble_eq_true rfl) (q_dm dm_X9_init 1 rfl) ?_
  refine qb_aload_n o (q_dm dm_X9_init 2 rfl) rfl ?_
  refine qb_sipush o (q_dm dm_X9_init 3 rfl) si_260 ?_
  refine qb_newa0 (X' := xs_3) (i := 2) (n := 260) o ac_int (by decide) (by decide) (by decide) (fun _ => rfl) rfl rfl (by rw [hgN]; decide) (by decide) (by decide) (q_dm dm_X9_init 4 rfl) ?_
  refine qb_putF (kf := 0) (i := 1) (j := 2) (X' := xs_4) (ty := tyX9 0) o cf_X9 rfl rfl (Nat.le_of_ble_eq_true rfl) fl_X9_9 rfl rfl rfl (tyX9_ok 0 (by decide)) rfl rfl rfl (q_dm dm_X9_init 5 rfl) ?_
  exact qb_ret o (q_dm dm_X9_init 6 rfl)
def tb_X2_init : List (Nat × Instr × Nat) := [(0, (.aload_n 0, 1)), (1, (.invokespecial 3, 3)), (4, (.aload_n 0, 1)), (5, (.bipush 12, 2)), (7, (.newarray .int, 2)), (9, (.putfield 9, 3)), (12, (.aload_n 0, 1)), (13, (.bipush 12, 2)), (15, (.newarray .int, 2)), (17, (.putfield 15, 3)), (20, (.aload_n 0, 1)), (21, (.bipush 12, 2)), (23, (.newarray .int, 2)), (25, (.putfield 18, 3)), (28, (.return_, 1))]
theorem dm_X2_init : ∀ q ∈ tb_X2_init, decode zX2_init.2.1 q.1 = .ok q.2 := by decide +kernel
theorem k_X2_init_3 (g : qG) (hgN : g.2.2.2.2.1 = 121) (l : Launch) : qBM g l 1 64 zX2_init [.inr (some 3)] (xs_6, q0) (xs_12, q0) 3 36 := by
  refine qBM.of zi_X2_init (by decide) (fun k hk o => ?_)
  subst hk
  refine qb_aload_n o (q_dm dm_X2_init 0 rfl) rfl ?_
  refine qb_obj o mo_X2_3 oi_inst oi_code (Nat.le_of_ble_eq_true rfl) (Nat.le_of_ble_eq_true rfl) (q_dm dm_X2_init 1 rfl) ?_
  refine qb_aload_n o (q_dm dm_X2_init 2 rfl) rfl ?_
  refine qb_bipush o (q_dm dm_X2_init 3 rfl) bi_12 ?_
  refine qb_newa0 (X' := xs_7) (i := 4) (n := 12) o ac_int (by decide) (by decide) (by decide) (fun _ => rfl) rfl rfl (by rw [hgN]; decide) (by decide) (by decide) (q_dm dm_X2_init 4 rfl) ?_
  refine qb_putF (kf := 0) (i := 3) (j := 4) (X' := xs_8) (ty := tyX2 0) o cf_X2 rfl rfl (Nat.le_of_ble_eq_true rfl) fl_X2_9 rfl rfl rfl (tyX2_ok 0 (by decide)) rfl rfl rfl (q_dm dm_X2_init 5 rfl) ?_
  refine qb_aload_n o (q_dm dm_X2_init 6 rfl) rfl ?_
  refine qb_bipush o (q_dm dm_X2_init 7 rfl) bi_12 ?_
  refine qb_newa0 (X' := xs_9) (i := 5) (n := 12) o ac_int (by decide) (by decide) (by decide) (fun _ => rfl) rfl rfl (by rw [hgN]; decide) (by decide) (by decide) (q_dm dm_X2_init 8 rfl) ?_
  refine qb_putF (kf := 1) (i := 3) (j := 5) (X' := xs_10) (ty := tyX2 1) o cf_X2 rfl rfl (Nat.le_of_ble_eq_true rfl) fl_X2_15 rfl rfl rfl (tyX2_ok 1 (by decide)) rfl rfl rfl (q_dm dm_X2_init 9 rfl) ?_
  refine qb_aload_n o (q_dm dm_X2_init 10 rfl) rfl ?_
  refine qb_bipush o (q_dm dm_X2_init 11 rfl) bi_12 ?_
  refine qb_newa0 (X' := xs_11) (i := 6) (n := 12) o ac_int (by decide) (by decide) (by decide) (fun _ => rfl) rfl rfl (by rw [hgN]; decide) (by decide) (by decide) (q_dm dm_X2_init 12 rfl) ?_
  refine qb_putF (kf := 2) (i := 3) (j := 6) (X' := xs_12) (ty := tyX2 2) o cf_X2 rfl rfl (Nat.le_of_ble_eq_true rfl) fl_X2_18 rfl rfl rfl (tyX2_ok 2 (by decide)) rfl rfl rfl (q_dm dm_X2_init 13 rfl) ?_
  exact qb_ret o (q_dm dm_X2_init 14 rfl)
def tb_X10_init : List (Nat × Instr × Nat) := [(0, (.aload_n 0, 1)), (1, (.invokespecial 3, 3)), (4, (.aload_n 0, 1)), (5, (.bipush 8, 2)), (7, (.newarray .int, 2)), (9, (.putfield 9, 3)), (12, (.aload_n 0, 1)), (13, (.bipush 96, 2)), (15, (.newarray .int, 2)), (17, (.putfield 15, 3)), (20, (.aload_n 0, 1)), (21, (.bipush 96, 2)), (23, (.newarray .int, 2)), (25, (.putfield 18, 3)), (28, (.aload_n 0, 1)), (29, (.bipush 96, 2)), (31, (.newarray .int, 2)), (33, (.putfield 21, 3)), (36, (.aload_n 0, 1)), (37, (.sipush 320, 3)), (40, (.newarray .int, 2)), (42, (.putfield 24, 3)), (45, (.aload_n 0, 1)), (46, (.sipush 320, 3)), (49, (.newarray .int, 2)), (51, (.putfield 27, 3)), (54, (.aload_n 0, 1)), (55, (.bipush 8, 2)), (57, (.newarray .int, 2)), (59, (.putfield 30, 3)), (62, (.aload_n 0, 1)), (63, (.bipush 8, 2)), (65, (.newarray .int, 2)), (67, (.putfield 33, 3)), (70, (.return_, 1))]
theorem dm_X10_init : ∀ q ∈ tb_X10_init, decode zX10_init.2.1 q.1 = .ok q.2 := by decide +kernel
theorem k_X10_init_7 (g : qG) (hgN : g.2.2.2.2.1 = 121) (l : Launch) : qBM g l 1 64 zX10_init [.inr (some 7)] (xs_14, q0) (xs_30, q0) 8 952 := by
  refine qBM.of zi_X10_init (by decide) (fun k hk o => ?_)
  subst hk
  refine qb_aload_n o (q_dm dm_X10_init 0 rfl) rfl ?_
  refine qb_obj o mo_X10_3 oi_inst oi_code (Nat.le_of_ble_eq_true rfl) (Nat.le_of_ble_eq_true rfl) (q_dm dm_X10_init 1 rfl) ?_
  refine qb_aload_n o (q_dm dm_X10_init 2 rfl) rfl ?_
  refine qb_bipush o (q_dm dm_X10_init 3 rfl) bi_8 ?_
  refine qb_newa0 (X' := xs_15) (i := 8) (n := 8) o ac_int (by decide) (by decide) (by decide) (fun _ => rfl) rfl rfl (by rw [hgN]; decide) (by decide) (by decide) (q_dm dm_X10_init 4 rfl) ?_
  refine qb_putF (kf := 0) (i := 7) (j := 8) (X' := xs_16) (ty := tyX10 0) o cf_X10 rfl rfl (Nat.le_of_ble_eq_true rfl) fl_X10_9 rfl rfl rfl (tyX10_ok 0 (by decide)) rfl rfl rfl (q_dm dm_X10_init 5 rfl) ?_
  refine qb_aload_n o (q_dm dm_X10_init 6 rfl) rfl ?_
  refine qb_bipush o (q_dm dm_X10_init 7 rfl) bi_96 ?_
  refine qb_newa0 (X' := xs_17) (i := 9) (n := 96) o ac_int (by decide) (by decide) (by decide) (fun _ => rfl) rfl rfl (by rw [hgN]; decide) (by decide) (by decide) (q_dm dm_X10_init 8 rfl) ?_
  refine qb_putF (kf := 1) (i := 7) (j := 9) (X' := xs_18) (ty := tyX10 1) o cf_X10 rfl rfl (Nat.le_of_ble_eq_true rfl) fl_X10_15 rfl rfl rfl (tyX10_ok 1 (by decide)) rfl rfl rfl (q_dm dm_X10_init 9 rfl) ?_
  refine qb_aload_n o (q_dm dm_X10_init 10 rfl) rfl ?_
  refine qb_bipush o (q_dm dm_X10_init 11 rfl) bi_96 ?_
  refine qb_newa0 (X' := xs_19) (i := 10) (n := 96) o ac_int (by decide) (by decide) (by decide) (fun _ => rfl) rfl rfl (by rw [hgN]; decide) (by decide) (by decide) (q_dm dm_X10_init 12 rfl) ?_
  refine qb_putF (kf := 2) (i := 7) (j := 10) (X' := xs_20) (ty := tyX10 2) o cf_X10 rfl rfl (Nat.le_of_ble_eq_true rfl) fl_X10_18 rfl rfl rfl (tyX10_ok 2 (by decide)) rfl rfl rfl (q_dm dm_X10_init 13 rfl) ?_
  refine qb_aload_n o (q_dm dm_X10_init 14 rfl) rfl ?_
  refine qb_bipush o (q_dm dm_X10_init 15 rfl) bi_96 ?_
  refine qb_newa0 (X' := xs_21) (i := 11) (n := 96) o ac_int (by decide) (by decide) (by decide) (fun _ => rfl) rfl rfl (by rw [hgN]; decide) (by decide) (by decide) (q_dm dm_X10_init 16 rfl) ?_
  refine qb_putF (kf := 3) (i := 7) (j := 11) (X' := xs_22) (ty := tyX10 3) o cf_X10 rfl rfl (Nat.le_of_ble_eq_true rfl) fl_X10_21 rfl rfl rfl (tyX10_ok 3 (by decide)) rfl rfl rfl (q_dm dm_X10_init 17 rfl) ?_
  refine qb_aload_n o (q_dm dm_X10_init 18 rfl) rfl ?_
  refine qb_sipush o (q_dm dm_X10_init 19 rfl) si_320 ?_
  refine qb_newa0 (X' := xs_23) (i := 12) (n := 320) o ac_int (by decide) (by decide) (by decide) (fun _ => rfl) rfl rfl (by rw [hgN]; decide) (by decide) (by decide) (q_dm dm_X10_init 20 rfl) ?_
  refine qb_putF (kf := 4) (i := 7) (j := 12) (X' := xs_24) (ty := tyX10 4) o cf_X10 rfl rfl (Nat.le_of_ble_eq_true rfl) fl_X10_24 rfl rfl rfl (tyX10_ok 4 (by decide)) rfl rfl rfl (q_dm dm_X10_init 21 rfl) ?_
  refine qb_aload_n o (q_dm dm_X10_init 22 rfl) rfl ?_
  refine qb_sipush o (q_dm dm_X10_init 23 rfl) si_320 ?_
  refine qb_newa0 (X' := xs_25) (i := 13) (n := 320) o ac_int (by decide) (by decide) (by decide) (fun _ => rfl) rfl rfl (by rw [hgN]; decide) (by decide) (by decide) (q_dm dm_X10_init 24 rfl) ?_
  refine qb_putF (kf := 5) (i := 7) (j := 13) (X' := xs_26) (ty := tyX10 5) o cf_X10 rfl rfl (Nat.le_of_ble_eq_true rfl) fl_X10_27 rfl rfl rfl (tyX10_ok 5 (by decide)) rfl rfl rfl (q_dm dm_X10_init 25 rfl) ?_
  refine qb_aload_n o (q_dm dm_X10_init 26 rfl) rfl ?_
  refine qb_bipush o (q_dm dm_X10_init 27 rfl) bi_8 ?_
  refine qb_newa0 (X' := xs_27) (i := 14) (n := 8) o ac_int (by decide) (by decide) (by decide) (fun _ => rfl) rfl rfl (by rw [hgN]; decide) (by decide) (by decide) (q_dm dm_X10_init 28 rfl) ?_
  refine qb_putF (kf := 6) (i := 7) (j := 14) (X' := xs_28) (ty := tyX10 6) o cf_X10 rfl rfl (Nat.le_of_ble_eq_true rfl) fl_X10_30 rfl rfl rfl (tyX10_ok 6 (by decide)) rfl rfl rfl (q_dm dm_X10_init 29 rfl) ?_
  refine qb_aload_n o (q_dm dm_X10_init 30 rfl) rfl ?_
  refine qb_bipush o (q_dm dm_X10_init 31 rfl) bi_8 ?_
  refine qb_newa0 (X' := xs_29) (i := 15) (n := 8) o ac_int (by decide) (by decide) (by decide) (fun _ => rfl) rfl rfl (by rw [hgN]; decide) (by decide) (by decide) (q_dm dm_X10_init 32 rfl) ?_
  refine qb_putF (kf := 7) (i := 7) (j := 15) (X' := xs_30) (ty := tyX10 7) o cf_X10 rfl rfl (Nat.le_of_ble_eq_true rfl) fl_X10_33 rfl rfl rfl (tyX10_ok 7 (by decide)) rfl rfl rfl (q_dm dm_X10_init 33 rfl) ?_
  exact qb_ret o (q_dm dm_X10_init 34 rfl)
theorem k_X10_init_16 (g : qG) (hgN : g.2.2.2.2.1 = 121) (l : Launch) : qBM g l 1 64 zX10_init [.inr (some 16)] (xs_32, q0) (xs_48, q0) 8 952 := by
  refine qBM.of zi_X10_init (by decide) (fun k hk o => ?_)
  subst hk
  refine qb_aload_n o (q_dm dm_X10_init 0 rfl) rfl ?_
  refine qb_obj o mo_X10_3 oi_inst oi_code (Nat.le_of_ble_eq_true rfl) (Nat.le_of_ble_eq_true rfl) (q_dm dm_X10_init 1 rfl) ?_
  refine qb_aload_n o (q_dm dm_X10_init 2 rfl) rfl ?_
  refine qb_bipush o (q_dm dm_X10_init 3 rfl) bi_8 ?_
  refine qb_newa0 (X' := xs_33) (i := 17) (n := 8) o ac_int (by decide) (by decide) (by decide) (fun _ => rfl) rfl rfl (by rw [hgN]; decide) (by decide) (by decide) (q_dm dm_X10_init 4 rfl) ?_
  refine qb_putF (kf := 0) (i := 16) (j := 17) (X' := xs_34) (ty := tyX10 0) o cf_X10 rfl rfl (Nat.le_of_ble_eq_true rfl) fl_X10_9 rfl rfl rfl (tyX10_ok 0 (by decide)) rfl rfl rfl (q_dm dm_X10_init 5 rfl) ?_
  refine qb_aload_n o (q_dm dm_X10_init 6 rfl) rfl ?_
  refine qb_bipush o (q_dm dm_X10_init 7 rfl) bi_96 ?_
  refine qb_newa0 (X' := xs_35) (i := 18) (n := 96) o ac_int (by decide) (by decide) (by decide) (fun _ => rfl) rfl rfl (by rw [hgN]; decide) (by decide) (by decide) (q_dm dm_X10_init 8 rfl) ?_
  refine qb_putF (kf := 1) (i := 16) (j := 18) (X' := xs_36) (ty := tyX10 1) o cf_X10 rfl rfl (Nat.le_of_ble_eq_true rfl) fl_X10_15 rfl rfl rfl (tyX10_ok 1 (by decide)) rfl rfl rfl (q_dm dm_X10_init 9 rfl) ?_
  refine qb_aload_n o (q_dm dm_X10_init 10 rfl) rfl ?_
  refine qb_bipush o (q_dm dm_X10_init 11 rfl) bi_96 ?_
  refine qb_newa0 (X' := xs_37) (i := 19) (n := 96) o ac_int (by decide) (by decide) (by decide) (fun _ => rfl) rfl rfl (by rw [hgN]; decide) (by decide) (by decide) (q_dm dm_X10_init 12 rfl) ?_
  refine qb_putF (kf := 2) (i := 16) (j := 19) (X' := xs_38) (ty := tyX10 2) o cf_X10 rfl rfl (Nat.le_of_ble_eq_true rfl) fl_X10_18 rfl rfl rfl (tyX10_ok 2 (by decide)) rfl rfl rfl (q_dm dm_X10_init 13 rfl) ?_
  refine qb_aload_n o (q_dm dm_X10_init 14 rfl) rfl ?_
  refine qb_bipush o (q_dm dm_X10_init 15 rfl) bi_96 ?_
  refine qb_newa0 (X' := xs_39) (i := 20) (n := 96) o ac_int (by decide) (by decide) (by decide) (fun _ => rfl) rfl rfl (by rw [hgN]; decide) (by decide) (by decide) (q_dm dm_X10_init 16 rfl) ?_
  refine qb_putF (kf := 3) (i := 16) (j := 20) (X' := xs_40) (ty := tyX10 3) o cf_X10 rfl rfl (Nat.le_of_ble_eq_true rfl) fl_X10_21 rfl rfl rfl (tyX10_ok 3 (by decide)) rfl rfl rfl (q_dm dm_X10_init 17 rfl) ?_
  refine qb_aload_n o (q_dm dm_X10_init 18 rfl) rfl ?_
  refine qb_sipush o (q_dm dm_X10_init 19 rfl) si_320 ?_
  refine qb_newa0 (X' := xs_41) (i := 21) (n := 320) o ac_int (by decide) (by decide) (by decide) (fun _ => rfl) rfl rfl (by rw [hgN]; decide) (by decide) (by decide) (q_dm dm_X10_init 20 rfl) ?_
  refine qb_putF (kf := 4) (i := 16) (j := 21) (X' := xs_42) (ty := tyX10 4) o cf_X10 rfl rfl (Nat.le_of_ble_eq_true rfl) fl_X10_24 rfl rfl rfl (tyX10_ok 4 (by decide)) rfl rfl rfl (q_dm dm_X10_init 21 rfl) ?_
  refine qb_aload_n o (q_dm dm_X10_init 22 rfl) rfl ?_
  refine qb_sipush o (q_dm dm_X10_init 23 rfl) si_320 ?_
  refine qb_newa0 (X' := xs_43) (i := 22) (n := 320) o ac_int (by decide) (by decide) (by decide) (fun _ => rfl) rfl rfl (by rw [hgN]; decide) (by decide) (by decide) (q_dm dm_X10_init 24 rfl) ?_
  refine qb_putF (kf := 5) (i := 16) (j := 22) (X' := xs_44) (ty := tyX10 5) o cf_X10 rfl rfl (Nat.le_of_ble_eq_true rfl) fl_X10_27 rfl rfl rfl (tyX10_ok 5 (by decide)) rfl rfl rfl (q_dm dm_X10_init 25 rfl) ?_
  refine qb_aload_n o (q_dm dm_X10_init 26 rfl) rfl ?_
  refine qb_bipush o (q_dm dm_X10_init 27 rfl) bi_8 ?_
  refine qb_newa0 (X' := xs_45) (i := 23) (n := 8) o ac_int (by decide) (by decide) (by decide) (fun _ => rfl) rfl rfl (by rw [hgN]; decide) (by decide) (by decide) (q_dm dm_X10_init 28 rfl) ?_
  refine qb_putF (kf := 6) (i := 16) (j := 23) (X' := xs_46) (ty := tyX10 6) o cf_X10 rfl rfl (Nat.le_of_ble_eq_true rfl) fl_X10_30 rfl rfl rfl (tyX10_ok 6 (by decide)) rfl rfl rfl (q_dm dm_X10_init 29 rfl) ?_
  refine qb_aload_n o (q_dm dm_X10_init 30 rfl) rfl ?_
  refine qb_bipush o (q_dm dm_X10_init 31 rfl) bi_8 ?_
  refine qb_newa0 (X' := xs_47) (i := 24) (n := 8) o ac_int (by decide) (by decide) (by decide) (fun _ => rfl) rfl rfl (by rw [hgN]; decide) (by decide) (by decide) (q_dm dm_X10_init 32 rfl) ?_
  refine qb_putF (kf := 7) (i := 16) (j := 24) (X' := xs_48) (ty := tyX10 7) o cf_X10 rfl rfl (Nat.le_of_ble_eq_true rfl) fl_X10_33 rfl rfl rfl (tyX10_ok 7 (by decide)) rfl rfl rfl (q_dm dm_X10_init 33 rfl) ?_
  exact qb_ret o (q_dm dm_X10_init 34 rfl)
theorem k_X10_init_25 (g : qG) (hgN : g.2.2.2.2.1 = 121) (l : Launch) : qBM g l 1 64 zX10_init [.inr (some 25)] (xs_50, q0) (xs_66, q0) 8 952 := by
  refine qBM.of zi_X10_init (by decide) (fun k hk o => ?_)
  subst hk
  refine qb_aload_n o (q_dm dm_X10_init 0 rfl) rfl ?_
  refine qb_obj o mo_X10_3 oi_inst oi_code (Nat.le_of_ble_eq_true rfl) (Nat.le_of_ble_eq_true rfl) (q_dm dm_X10_init 1 rfl) ?_
  refine qb_aload_n o (q_dm dm_X10_init 2 rfl) rfl ?_
  refine qb_bipush o (q_dm dm_X10_init 3 rfl) bi_8 ?_
  refine qb_newa0 (X' := xs_51) (i := 26) (n := 8) o ac_int (by decide) (by decide) (by decide) (fun _ => rfl) rfl rfl (by rw [hgN]; decide) (by decide) (by decide) (q_dm dm_X10_init 4 rfl) ?_
  refine qb_putF (kf := 0) (i := 25) (j := 26) (X' := xs_52) (ty := tyX10 0) o cf_X10 rfl rfl (Nat.le_of_ble_eq_true rfl) fl_X10_9 rfl rfl rfl (tyX10_ok 0 (by decide)) rfl rfl rfl (q_dm dm_X10_init 5 rfl) ?_
  refine qb_aload_n o (q_dm dm_X10_init 6 rfl) rfl ?_
  refine qb_bipush o (q_dm dm_X10_init 7 rfl) bi_96 ?_
  refine qb_newa0 (X' := xs_53) (i := 27) (n := 96) o ac_int (by decide) (by decide) (by decide) (fun _ => rfl) rfl rfl (by rw [hgN]; decide) (by decide) (by decide) (q_dm dm_X10_init 8 rfl) ?_
  refine qb_putF (kf := 1) (i := 25) (j := 27) (X' := xs_54) (ty := tyX10 1) o cf_X10 rfl rfl (Nat.le_of_ble_eq_true rfl) fl_X10_15 rfl rfl rfl (tyX10_ok 1 (by decide)) rfl rfl rfl (q_dm dm_X10_init 9 rfl) ?_
  refine qb_aload_n o (q_dm dm_X10_init 10 rfl) rfl ?_
  refine qb_bipush o (q_dm dm_X10_init 11 rfl) bi_96 ?_
  refine qb_newa0 (X' := xs_55) (i := 28) (n := 96) o ac_int (by decide) (by decide) (by decide) (fun _ => rfl) rfl rfl (by rw [hgN]; decide) (by decide) (by decide) (q_dm dm_X10_init 12 rfl) ?_
  refine qb_putF (kf := 2) (i := 25) (j := 28) (X' := xs_56) (ty := tyX10 2) o cf_X10 rfl rfl (Nat.le_of_ble_eq_true rfl) fl_X10_18 rfl rfl rfl (tyX10_ok 2 (by decide)) rfl rfl rfl (q_dm dm_X10_init 13 rfl) ?_
  refine qb_aload_n o (q_dm dm_X10_init 14 rfl) rfl ?_
  refine qb_bipush o (q_dm dm_X10_init 15 rfl) bi_96 ?_
  refine qb_newa0 (X' := xs_57) (i := 29) (n := 96) o ac_int (by decide) (by decide) (by decide) (fun _ => rfl) rfl rfl (by rw [hgN]; decide) (by decide) (by decide) (q_dm dm_X10_init 16 rfl) ?_
  refine qb_putF (kf := 3) (i := 25) (j := 29) (X' := xs_58) (ty := tyX10 3) o cf_X10 rfl rfl (Nat.le_of_ble_eq_true rfl) fl_X10_21 rfl rfl rfl (tyX10_ok 3 (by decide)) rfl rfl rfl (q_dm dm_X10_init 17 rfl) ?_
  refine qb_aload_n o (q_dm dm_X10_init 18 rfl) rfl ?_
  refine qb_sipush o (q_dm dm_X10_init 19 rfl) si_320 ?_
  refine qb_newa0 (X' := xs_59) (i := 30) (n := 320) o ac_int (by decide) (by decide) (by decide) (fun _ => rfl) rfl rfl (by rw [hgN]; decide) (by decide) (by decide) (q_dm dm_X10_init 20 rfl) ?_
  refine qb_putF (kf := 4) (i := 25) (j := 30) (X' := xs_60) (ty := tyX10 4) o cf_X10 rfl rfl (Nat.le_of_ble_eq_true rfl) fl_X10_24 rfl rfl rfl (tyX10_ok 4 (by decide)) rfl rfl rfl (q_dm dm_X10_init 21 rfl) ?_
  refine qb_aload_n o (q_dm dm_X10_init 22 rfl) rfl ?_
  refine qb_sipush o (q_dm dm_X10_init 23 rfl) si_320 ?_
  refine qb_newa0 (X' := xs_61) (i := 31) (n := 320) o ac_int (by decide) (by decide) (by decide) (fun _ => rfl) rfl rfl (by rw [hgN]; decide) (by decide) (by decide) (q_dm dm_X10_init 24 rfl) ?_
  refine qb_putF (kf := 5) (i := 25) (j := 31) (X' := xs_62) (ty := tyX10 5) o cf_X10 rfl rfl (Nat.le_of_ble_eq_true rfl) fl_X10_27 rfl rfl rfl (tyX10_ok 5 (by decide)) rfl rfl rfl (q_dm dm_X10_init 25 rfl) ?_
  refine qb_aload_n o (q_dm dm_X10_init 26 rfl) rfl ?_
  refine qb_bipush o (q_dm dm_X10_init 27 rfl) bi_8 ?_
  refine qb_newa0 (X' := xs_63) (i := 32) (n := 8) o ac_int (by decide) (by decide) (by decide) (fun _ => rfl) rfl rfl (by rw [hgN]; decide) (by decide) (by decide) (q_dm dm_X10_init 28 rfl) ?_
  refine qb_putF (kf := 6) (i := 25) (j := 32) (X' := xs_64) (ty := tyX10 6) o cf_X10 rfl rfl (Nat.le_of_ble_eq_true rfl) fl_X10_30 rfl rfl rfl (tyX10_ok 6 (by decide)) rfl rfl rfl (q_dm dm_X10_init 29 rfl) ?_
  refine qb_aload_n o (q_dm dm_X10_init 30 rfl) rfl ?_
  refine qb_bipush o (q_dm dm_X10_init 31 rfl) bi_8 ?_
  refine qb_newa0 (X' := xs_65) (i := 33) (n := 8) o ac_int (by decide) (by decide) (by decide) (fun _ => rfl) rfl rfl (by rw [hgN]; decide) (by decide) (by decide) (q_dm dm_X10_init 32 rfl) ?_
  refine qb_putF (kf := 7) (i := 25) (j := 33) (X' := xs_66) (ty := tyX10 7) o cf_X10 rfl rfl (Nat.le_of_ble_eq_true rfl) fl_X10_33 rfl rfl rfl (tyX10_ok 7 (by decide)) rfl rfl rfl (q_dm dm_X10_init 33 rfl) ?_
  exact qb_ret o (q_dm dm_X10_init 34 rfl)
def tb_X1_init : List (Nat × Instr × Nat) := [(0, (.aload_n 0, 1)), (1, (.invokespecial 3, 3)), (4, (.aload_n 0, 1)), (5, (.getstatic 9, 3)), (8, (.arraylength, 1)), (9, (.newarray .int, 2)), (11, (.putfield 13, 3)), (14, (.aload_n 0, 1)), (15, (.bipush 64, 2)), (17, (.newarray .int, 2)), (19, (.putfield 18, 3)), (22, (.aload_n 0, 1)), (23, (.new 21, 3)), (26, (.dup, 1)), (27, (.invokespecial 23, 3)), (30, (.putfield 24, 3)), (33, (.aload_n 0, 1)), (34, (.aload_n 1, 1)), (35, (.putfield 28, 3)), (38, (.return_, 1))]
theorem dm_X1_init : ∀ q ∈ tb_X1_init, decode zX1_init.2.1 q.1 = .ok q.2 := by decide +kernel
def tb_X3_init : List (Nat × Instr × Nat) := [(0, (.aload_n 0, 1)), (1, (.invokespecial 3, 3)), (4, (.aload_n 0, 1)), (5, (.sipush 240, 3)), (8, (.newarray .int, 2)), (10, (.putfield 9, 3)), (13, (.aload_n 0, 1)), (14, (.sipush 240, 3)), (17, (.newarray .int, 2)), (19, (.putfield 15, 3)), (22, (.aload_n 0, 1)), (23, (.bipush 16, 2)), (25, (.newarray .int, 2)), (27, (.putfield 18, 3)), (30, (.aload_n 0, 1)), (31, (.bipush 16, 2)), (33, (.newarray .int, 2)), (35, (.putfield 21, 3)), (38, (.aload_n 0, 1)), (39, (.bipush 16, 2)), (41, (.newarray .int, 2)), (43, (.putfield 24, 3)), (46, (.aload_n 0, 1)), (47, (.bipush 16, 2)), (49, (.newarray .int, 2)), (51, (.putfield 27, 3)), (54, (.return_, 1))]
theorem dm_X3_init : ∀ q ∈ tb_X3_init, decode zX3_init.2.1 q.1 = .ok q.2 := by decide +kernel
theorem k_X3_init_37 (g : qG) (hgN : g.2.2.2.2.1 = 121) (l : Launch) : qBM g l 1 64 zX3_init [.inr (some 37)] (xs_73, q0) (xs_85, q0) 6 544 := by
  refine qBM.of zi_X3_init (by decide) (fun k hk o => ?_)
  subst hk
  refine qb_aload_n o (q_dm dm_X3_init 0 rfl) rfl ?_
  refine qb_obj o mo_X3_3 oi_inst oi_code (Nat.le_of_ble_eq_true rfl) (Nat.le_of_ble_eq_true rfl) (q_dm dm_X3_init 1 rfl) ?_
  refine qb_aload_n o (q_dm dm_X3_init 2 rfl) rfl ?_
  refine qb_sipush o (q_dm dm_X3_init 3 rfl) si_240 ?_
  refine qb_newa0 (X' := xs_74) (i := 38) (n := 240) o ac_int (by decide) (by decide) (by decide) (fun _ => rfl) rfl rfl (by rw [hgN]; decide) (by decide) (by decide) (q_dm dm_X3_init 4 rfl) ?_
  refine qb_putF (kf := 0) (i := 37) (j := 38) (X' := xs_75) (ty := tyX3 0) o cf_X3 rfl rfl (Nat.le_of_ble_eq_true rfl) fl_X3_9 rfl rfl rfl (tyX3_ok 0 (by decide)) rfl rfl rfl (q_dm dm_X3_init 5 rfl) ?_
  refine qb_aload_n o (q_dm dm_X3_init 6 rfl) rfl ?_
  refine qb_sipush o (q_dm dm_X3_init 7 rfl) si_240 ?_
  refine qb_newa0 (X' := xs_76) (i := 39) (n := 240) o ac_int (by decide) (by decide) (by decide) (fun _ => rfl) rfl rfl (by rw [hgN]; decide) (by decide) (by decide) (q_dm dm_X3_init 8 rfl) ?_
  refine qb_putF (kf := 1) (i := 37) (j := 39) (X' := xs_77) (ty := tyX3 1) o cf_X3 rfl rfl (Nat.le_of_ble_eq_true rfl) fl_X3_15 rfl rfl rfl (tyX3_ok 1 (by decide)) rfl rfl rfl (q_dm dm_X3_init 9 rfl) ?_
  refine qb_aload_n o (q_dm dm_X3_init 10 rfl) rfl ?_
  refine qb_bipush o (q_dm dm_X3_init 11 rfl) bi_16 ?_
  refine qb_newa0 (X' := xs_78) (i := 40) (n := 16) o ac_int (by decide) (by decide) (by decide) (fun _ => rfl) rfl rfl (by rw [hgN]; decide) (by decide) (by decide) (q_dm dm_X3_init 12 rfl) ?_
  refine qb_putF (kf := 2) (i := 37) (j := 40) (X' := xs_79) (ty := tyX3 2) o cf_X3 rfl rfl (Nat.le_of_ble_eq_true rfl) fl_X3_18 rfl rfl rfl (tyX3_ok 2 (by decide)) rfl rfl rfl (q_dm dm_X3_init 13 rfl) ?_
  refine qb_aload_n o (q_dm dm_X3_init 14 rfl) rfl ?_
  refine qb_bipush o (q_dm dm_X3_init 15 rfl) bi_16 ?_
  refine qb_newa0 (X' := xs_80) (i := 41) (n := 16) o ac_int (by decide) (by decide) (by decide) (fun _ => rfl) rfl rfl (by rw [hgN]; decide) (by decide) (by decide) (q_dm dm_X3_init 16 rfl) ?_
  refine qb_putF (kf := 3) (i := 37) (j := 41) (X' := xs_81) (ty := tyX3 3) o cf_X3 rfl rfl (Nat.le_of_ble_eq_true rfl) fl_X3_21 rfl rfl rfl (tyX3_ok 3 (by decide)) rfl rfl rfl (q_dm dm_X3_init 17 rfl) ?_
  refine qb_aload_n o (q_dm dm_X3_init 18 rfl) rfl ?_
  refine qb_bipush o (q_dm dm_X3_init 19 rfl) bi_16 ?_
  refine qb_newa0 (X' := xs_82) (i := 42) (n := 16) o ac_int (by decide) (by decide) (by decide) (fun _ => rfl) rfl rfl (by rw [hgN]; decide) (by decide) (by decide) (q_dm dm_X3_init 20 rfl) ?_
  refine qb_putF (kf := 4) (i := 37) (j := 42) (X' := xs_83) (ty := tyX3 4) o cf_X3 rfl rfl (Nat.le_of_ble_eq_true rfl) fl_X3_24 rfl rfl rfl (tyX3_ok 4 (by decide)) rfl rfl rfl (q_dm dm_X3_init 21 rfl) ?_
  refine qb_aload_n o (q_dm dm_X3_init 22 rfl) rfl ?_
  refine qb_bipush o (q_dm dm_X3_init 23 rfl) bi_16 ?_
  refine qb_newa0 (X' := xs_84) (i := 43) (n := 16) o ac_int (by decide) (by decide) (by decide) (fun _ => rfl) rfl rfl (by rw [hgN]; decide) (by decide) (by decide) (q_dm dm_X3_init 24 rfl) ?_
  refine qb_putF (kf := 5) (i := 37) (j := 43) (X' := xs_85) (ty := tyX3 5) o cf_X3 rfl rfl (Nat.le_of_ble_eq_true rfl) fl_X3_27 rfl rfl rfl (tyX3_ok 5 (by decide)) rfl rfl rfl (q_dm dm_X3_init 25 rfl) ?_
  exact qb_ret o (q_dm dm_X3_init 26 rfl)
theorem k_X1_init_34 (g : qG) (hgN : g.2.2.2.2.1 = 121) (l : Launch) : qBM g l 2 128 zX1_init [.inr (some 34), .inr (some 3)] (xs_68, q0) (xs_87, q0) 9 628 := by
  refine qBM.of zi_X1_init (by decide) (fun k hk o => ?_)
  subst hk
  refine qb_aload_n o (q_dm dm_X1_init 0 rfl) rfl ?_
  refine qb_obj o mo_X1_3 oi_inst oi_code (Nat.le_of_ble_eq_true rfl) (Nat.le_of_ble_eq_true rfl) (q_dm dm_X1_init 1 rfl) ?_
  refine qb_aload_n o (q_dm dm_X1_init 2 rfl) rfl ?_
  refine qb_gets o rfl (q_dm dm_X1_init 3 rfl) ?_
  refine qb_llen o (q_dm dm_X1_init 4 rfl) ?_
  refine qb_newa0 (X' := xs_69) (i := 35) (n := 12) o ac_int (by decide) (by decide) (by decide) (fun _ => rfl) rfl rfl (by rw [hgN]; decide) (by decide) (by decide) (q_dm dm_X1_init 5 rfl) ?_
  refine qb_putF (kf := 1) (i := 34) (j := 35) (X' := xs_70) (ty := tyX1 1) o cf_X1 rfl rfl (Nat.le_of_ble_eq_true rfl) fl_X1_13 rfl rfl rfl (tyX1_ok 1 (by decide)) rfl rfl rfl (q_dm dm_X1_init 6 rfl) ?_
  refine qb_aload_n o (q_dm dm_X1_init 7 rfl) rfl ?_
  refine qb_bipush o (q_dm dm_X1_init 8 rfl) bi_64 ?_
  refine qb_newa0 (X' := xs_71) (i := 36) (n := 64) o ac_int (by decide) (by decide) (by decide) (fun _ => rfl) rfl rfl (by rw [hgN]; decide) (by decide) (by decide) (q_dm dm_X1_init 9 rfl) ?_
  refine qb_putF (kf := 2) (i := 34) (j := 36) (X' := xs_72) (ty := tyX1 2) o cf_X1 rfl rfl (Nat.le_of_ble_eq_true rfl) fl_X1_18 rfl rfl rfl (tyX1_ok 2 (by decide)) rfl rfl rfl (q_dm dm_X1_init 10 rfl) ?_
  refine qb_aload_n o (q_dm dm_X1_init 11 rfl) rfl ?_
  refine qb_new (fds := [some none, some none, some none, some none, some none, some none, none, none]) (X' := xs_73) (i := 37) o cf_X3 cl_X1_21 in_X3 ii_X3 (by decide +kernel) (fun _ => rfl) rfl rfl (by rw [hgN]; decide) (by decide) (by decide) (q_dm dm_X1_init 12 rfl) ?_
  refine qb_dup o (q_dm dm_X1_init 13 rfl) ?_
  have hNB := q_OB_nb o
  refine qb_callN (As := []) (S := [.inr (some 37), .inr (some 34)]) o (k_X3_init_37 g hgN _) zi_X3_init (hNB.2.2.2.1) (by decide) (by decide) (by decide) (by decide) (Nat.le_of_ble_eq_true rfl) (q_dm dm_X1_init 14 rfl) ?_
  refine qb_putr (kf := 3) (i := 34) (j := 37) (X' := xs_86) (ty := tyX1 3) o cf_X1 rfl rfl (Nat.le_of_ble_eq_true rfl) fl_X1_24 rfl (tyX1_ok 3 (by decide)) rfl rfl rfl (q_dm dm_X1_init 15 rfl) ?_
  refine qb_aload_n o (q_dm dm_X1_init 16 rfl) rfl ?_
  refine qb_aload_n o (q_dm dm_X1_init 17 rfl) rfl ?_
  refine qb_putF (kf := 0) (i := 34) (j := 3) (X' := xs_87) (ty := tyX1 0) o cf_X1 rfl rfl (Nat.le_of_ble_eq_true rfl) fl_X1_28 rfl rfl rfl (tyX1_ok 0 (by decide)) rfl rfl rfl (q_dm dm_X1_init 18 rfl) ?_
  exact qb_ret o (q_dm dm_X1_init 19 rfl)
def tb_X0_init : List (Nat × Instr × Nat) := [(0, (.aload_n 0, 1)), (1, (.invokespecial 3, 3)), (4, (.aload_n 0, 1)), (5, (.aload_n 1, 1)), (6, (.putfield 9, 3)), (9, (.aload_n 0, 1)), (10, (.aload_n 2, 1)), (11, (.putfield 15, 3)), (14, (.return_, 1))]
theorem dm_X0_init : ∀ q ∈ tb_X0_init, decode zX0_init.2.1 q.1 = .ok q.2 := by decide +kernel
theorem k_X0_init_44 (g : qG) (hgN : g.2.2.2.2.1 = 121) (l : Launch) : qBM g l 1 64 zX0_init [.inr (some 44), .inr (some 3), .inr (some 34)] (xs_89, q0) (xs_91, q0) 0 0 := by
  refine qBM.of zi_X0_init (by decide) (fun k hk o => ?_)
  subst hk
  refine qb_aload_n o (q_dm dm_X0_init 0 rfl) rfl ?_
  refine qb_obj o mo_X0_3 oi_inst oi_code (Nat.le_of_ble_eq_true rfl) (Nat.le_of_ble_eq_true rfl) (q_dm dm_X0_init 1 rfl) ?_
  refine qb_aload_n o (q_dm dm_X0_init 2 rfl) rfl ?_
  refine qb_aload_n o (q_dm dm_X0_init 3 rfl) rfl ?_
  refine qb_putF (kf := 0) (i := 44) (j := 3) (X' := xs_90) (ty := tyX0 0) o cf_X0 rfl rfl (Nat.le_of_ble_eq_true rfl) fl_X0_9 rfl rfl rfl (tyX0_ok 0 (by decide)) rfl rfl rfl (q_dm dm_X0_init 4 rfl) ?_
  refine qb_aload_n o (q_dm dm_X0_init 5 rfl) rfl ?_
  refine qb_aload_n o (q_dm dm_X0_init 6 rfl) rfl ?_
  refine qb_putF (kf := 1) (i := 44) (j := 34) (X' := xs_91) (ty := tyX0 1) o cf_X0 rfl rfl (Nat.le_of_ble_eq_true rfl) fl_X0_15 rfl rfl rfl (tyX0_ok 1 (by decide)) rfl rfl rfl (q_dm dm_X0_init 7 rfl) ?_
  exact qb_ret o (q_dm dm_X0_init 8 rfl)
def tb_X4_init : List (Nat × Instr × Nat) := [(0, (.aload_n 0, 1)), (1, (.invokespecial 3, 3)), (4, (.aload_n 0, 1)), (5, (.new 9, 3)), (8, (.dup, 1)), (9, (.invokespecial 11, 3)), (12, (.putfield 12, 3)), (15, (.aload_n 0, 1)), (16, (.aload_n 1, 1)), (17, (.putfield 18, 3)), (20, (.return_, 1))]
theorem dm_X4_init : ∀ q ∈ tb_X4_init, decode zX4_init.2.1 q.1 = .ok q.2 := by decide +kernel
theorem k_X3_init_46 (g : qG) (hgN : g.2.2.2.2.1 = 121) (l : Launch) : qBM g l 1 64 zX3_init [.inr (some 46)] (xs_94, q0) (xs_106, q0) 6 544 := by
  refine qBM.of zi_X3_init (by decide) (fun k hk o => ?_)
  subst hk
  refine qb_aload_n o (q_dm dm_X3_init 0 rfl) rfl ?_
  refine qb_obj o mo_X3_3 oi_inst oi_code (Nat.le_of_ble_eq_true rfl) (Nat.le_of_ble_eq_true rfl) (q_dm dm_X3_init 1 rfl) ?_
  refine qb_aload_n o (q_dm dm_X3_init 2 rfl) rfl ?_
  refine qb_sipush o (q_dm dm_X3_init 3 rfl) si_240 ?_
  refine qb_newa0 (X' := xs_95) (i := 47) (n := 240) o ac_int (by decide) (by decide) (by decide) (fun _ => rfl) rfl rfl (by rw [hgN]; decide) (by decide) (by decide) (q_dm dm_X3_init 4 rfl) ?_
  refine qb_putF (kf := 0) (i := 46) (j := 47) (X' := xs_96) (ty := tyX3 0) o cf_X3 rfl rfl (Nat.le_of_ble_eq_true rfl) fl_X3_9 rfl rfl rfl (tyX3_ok 0 (by decide)) rfl rfl rfl (q_dm dm_X3_init 5 rfl) ?_
  refine qb_aload_n o (q_dm dm_X3_init 6 rfl) rfl ?_
  refine qb_sipush o (q_dm dm_X3_init 7 rfl) si_240 ?_
  refine qb_newa0 (X' := xs_97) (i := 48) (n := 240) o ac_int (by decide) (by decide) (by decide) (fun _ => rfl) rfl rfl (by rw [hgN]; decide) (by decide) (by decide) (q_dm dm_X3_init 8 rfl) ?_
  refine qb_putF (kf := 1) (i := 46) (j := 48) (X' := xs_98) (ty := tyX3 1) o cf_X3 rfl rfl (Nat.le_of_ble_eq_true rfl) fl_X3_15 rfl rfl rfl (tyX3_ok 1 (by decide)) rfl rfl rfl (q_dm dm_X3_init 9 rfl) ?_
  refine qb_aload_n o (q_dm dm_X3_init 10 rfl) rfl ?_
  refine qb_bipush o (q_dm dm_X3_init 11 rfl) bi_16 ?_
  refine qb_newa0 (X' := xs_99) (i := 49) (n := 16) o ac_int (by decide) (by decide) (by decide) (fun _ => rfl) rfl rfl (by rw [hgN]; decide) (by decide) (by decide) (q_dm dm_X3_init 12 rfl) ?_
  refine qb_putF (kf := 2) (i := 46) (j := 49) (X' := xs_100) (ty := tyX3 2) o cf_X3 rfl rfl (Nat.le_of_ble_eq_true rfl) fl_X3_18 rfl rfl rfl (tyX3_ok 2 (by decide)) rfl rfl rfl (q_dm dm_X3_init 13 rfl) ?_
  refine qb_aload_n o (q_dm dm_X3_init 14 rfl) rfl ?_
  refine qb_bipush o (q_dm dm_X3_init 15 rfl) bi_16 ?_
  refine qb_newa0 (X' := xs_101) (i := 50) (n := 16) o ac_int (by decide) (by decide) (by decide) (fun _ => rfl) rfl rfl (by rw [hgN]; decide) (by decide) (by decide) (q_dm dm_X3_init 16 rfl) ?_
  refine qb_putF (kf := 3) (i := 46) (j := 50) (X' := xs_102) (ty := tyX3 3) o cf_X3 rfl rfl (Nat.le_of_ble_eq_true rfl) fl_X3_21 rfl rfl rfl (tyX3_ok 3 (by decide)) rfl rfl rfl (q_dm dm_X3_init 17 rfl) ?_
  refine qb_aload_n o (q_dm dm_X3_init 18 rfl) rfl ?_
  refine qb_bipush o (q_dm dm_X3_init 19 rfl) bi_16 ?_
  refine qb_newa0 (X' := xs_103) (i := 51) (n := 16) o ac_int (by decide) (by decide) (by decide) (fun _ => rfl) rfl rfl (by rw [hgN]; decide) (by decide) (by decide) (q_dm dm_X3_init 20 rfl) ?_
  refine qb_putF (kf := 4) (i := 46) (j := 51) (X' := xs_104) (ty := tyX3 4) o cf_X3 rfl rfl (Nat.le_of_ble_eq_true rfl) fl_X3_24 rfl rfl rfl (tyX3_ok 4 (by decide)) rfl rfl rfl (q_dm dm_X3_init 21 rfl) ?_
  refine qb_aload_n o (q_dm dm_X3_init 22 rfl) rfl ?_
  refine qb_bipush o (q_dm dm_X3_init 23 rfl) bi_16 ?_
  refine qb_newa0 (X' := xs_105) (i := 52) (n := 16) o ac_int (by decide) (by decide) (by decide) (fun _ => rfl) rfl rfl (by rw [hgN]; decide) (by decide) (by decide) (q_dm dm_X3_init 24 rfl) ?_
  refine qb_putF (kf := 5) (i := 46) (j := 52) (X' := xs_106) (ty := tyX3 5) o cf_X3 rfl rfl (Nat.le_of_ble_eq_true rfl) fl_X3_27 rfl rfl rfl (tyX3_ok 5 (by decide)) rfl rfl rfl (q_dm dm_X3_init 25 rfl) ?_
  exact qb_ret o (q_dm dm_X3_init 26 rfl)
theorem k_X4_init_45 (g : qG) (hgN : g.2.2.2.2.1 = 121) (l : Launch) : qBM g l 2 128 zX4_init [.inr (some 45), .inr (some 1)] (xs_93, q0) (xs_108, q0) 7 552 := by
  refine qBM.of zi_X4_init (by decide) (fun k hk o => ?_)
  subst hk
  refine qb_aload_n o (q_dm dm_X4_init 0 rfl) rfl ?_
  refine qb_obj o mo_X4_3 oi_inst oi_code (Nat.le_of_ble_eq_true rfl) (Nat.le_of_ble_eq_true rfl) (q_dm dm_X4_init 1 rfl) ?_
  refine qb_aload_n o (q_dm dm_X4_init 2 rfl) rfl ?_
  refine qb_new (fds := [some none, some none, some none, some none, some none, some none, none, none]) (X' := xs_94) (i := 46) o cf_X3 cl_X4_9 in_X3 ii_X3 (by decide +kernel) (fun _ => rfl) rfl rfl (by rw [hgN]; decide) (by decide) (by decide) (q_dm dm_X4_init 3 rfl) ?_
  refine qb_dup o (q_dm dm_X4_init 4 rfl) ?_
  have hNB := q_OB_nb o
  refine qb_callN (As := []) (S := [.inr (some 46), .inr (some 45)]) o (k_X3_init_46 g hgN _) zi_X3_init (hNB.2.2.2.2.1) (by decide) (by decide) (by decide) (by decide) (Nat.le_of_ble_eq_true rfl) (q_dm dm_X4_init 5 rfl) ?_
  refine qb_putr (kf := 1) (i := 45) (j := 46) (X' := xs_107) (ty := tyX4 1) o cf_X4 rfl rfl (Nat.le_of_ble_eq_true rfl) fl_X4_12 rfl (tyX4_ok 1 (by decide)) rfl rfl rfl (q_dm dm_X4_init 6 rfl) ?_
  refine qb_aload_n o (q_dm dm_X4_init 7 rfl) rfl ?_
  refine qb_aload_n o (q_dm dm_X4_init 8 rfl) rfl ?_
  refine qb_putF (kf := 0) (i := 45) (j := 1) (X' := xs_108) (ty := tyX4 0) o cf_X4 rfl rfl (Nat.le_of_ble_eq_true rfl) fl_X4_18 rfl rfl rfl (tyX4_ok 0 (by decide)) rfl rfl rfl (q_dm dm_X4_init 9 rfl) ?_
  exact qb_ret o (q_dm dm_X4_init 10 rfl)
def tb_X6_init : List (Nat × Instr × Nat) := [(0, (.aload_n 0, 1)), (1, (.invokespecial 3, 3)), (4, (.aload_n 0, 1)), (5, (.bipush 40, 2)), (7, (.newarray .int, 2)), (9, (.putfield 9, 3)), (12, (.aload_n 0, 1)), (13, (.bipush 40, 2)), (15, (.newarray .int, 2)), (17, (.putfield 15, 3)), (20, (.aload_n 0, 1)), (21, (.aload_n 1, 1)), (22, (.putfield 18, 3)), (25, (.return_, 1))]
theorem dm_X6_init : ∀ q ∈ tb_X6_init, decode zX6_init.2.1 q.1 = .ok q.2 := by decide +kernel
theorem k_X6_init_53 (g : qG) (hgN : g.2.2.2.2.1 = 121) (l : Launch) : qBM g l 1 64 zX6_init [.inr (some 53), .inr (some 1)] (xs_110, q0) (xs_115, q0) 2 80 := by
  refine qBM.of zi_X6_init (by decide) (fun k hk o => ?_)
  subst hk
  refine qb_aload_n o (q_dm dm_X6_init 0 rfl) rfl ?_
  refine qb_obj o mo_X6_3 oi_inst oi_code (Nat.le_of_ble_eq_true rfl) (Nat.le_of_ble_eq_true rfl) (q_dm dm_X6_init 1 rfl) ?_
  refine qb_aload_n o (q_dm dm_X6_init 2 rfl) rfl ?_
  refine qb_bipush o (q_dm dm_X6_init 3 rfl) bi_40 ?_
  refine qb_newa0 (X' := xs_111) (i := 54) (n := 40) o ac_int (by decide) (by decide) (by decide) (fun _ => rfl) rfl rfl (by rw [hgN]; decide) (by decide) (by decide) (q_dm dm_X6_init 4 rfl) ?_
  refine qb_putF (kf := 1) (i := 53) (j := 54) (X' := xs_112) (ty := tyX6 1) o cf_X6 rfl rfl (Nat.le_of_ble_eq_true rfl) fl_X6_9 rfl rfl rfl (tyX6_ok 1 (by decide)) rfl rfl rfl (q_dm dm_X6_init 5 rfl) ?_
  refine qb_aload_n o (q_dm dm_X6_init 6 rfl) rfl ?_
  refine qb_bipush o (q_dm dm_X6_init 7 rfl) bi_40 ?_
  refine qb_newa0 (X' := xs_113) (i := 55) (n := 40) o ac_int (by decide) (by decide) (by decide) (fun _ => rfl) rfl rfl (by rw [hgN]; decide) (by decide) (by decide) (q_dm dm_X6_init 8 rfl) ?_
  refine qb_putF (kf := 2) (i := 53) (j := 55) (X' := xs_114) (ty := tyX6 2) o cf_X6 rfl rfl (Nat.le_of_ble_eq_true rfl) fl_X6_15 rfl rfl rfl (tyX6_ok 2 (by decide)) rfl rfl rfl (q_dm dm_X6_init 9 rfl) ?_
  refine qb_aload_n o (q_dm dm_X6_init 10 rfl) rfl ?_
  refine qb_aload_n o (q_dm dm_X6_init 11 rfl) rfl ?_
  refine qb_putF (kf := 0) (i := 53) (j := 1) (X' := xs_115) (ty := tyX6 0) o cf_X6 rfl rfl (Nat.le_of_ble_eq_true rfl) fl_X6_18 rfl rfl rfl (tyX6_ok 0 (by decide)) rfl rfl rfl (q_dm dm_X6_init 12 rfl) ?_
  exact qb_ret o (q_dm dm_X6_init 13 rfl)
def tb_X7_init : List (Nat × Instr × Nat) := [(0, (.aload_n 0, 1)), (1, (.invokespecial 3, 3)), (4, (.aload_n 0, 1)), (5, (.iconst 4, 1)), (6, (.newarray .int, 2)), (8, (.putfield 9, 3)), (11, (.aload_n 0, 1)), (12, (.iconst 4, 1)), (13, (.newarray .int, 2)), (15, (.putfield 15, 3)), (18, (.aload_n 0, 1)), (19, (.iconst 4, 1)), (20, (.newarray .int, 2)), (22, (.putfield 18, 3)), (25, (.aload_n 0, 1)), (26, (.iconst 4, 1)), (27, (.newarray .int, 2)), (29, (.putfield 21, 3)), (32, (.aload_n 0, 1)), (33, (.iconst 4, 1)), (34, (.newarray .int, 2)), (36, (.putfield 24, 3)), (39, (.aload_n 0, 1)), (40, (.bipush 16, 2)), (42, (.newarray .int, 2)), (44, (.putfield 27, 3)), (47, (.aload_n 0, 1)), (48, (.sipush 8192, 3)), (51, (.newarray .int, 2)), (53, (.putfield 30, 3)), (56, (.aload_n 0, 1)), (57, (.aload_n 1, 1)), (58, (.putfield 33, 3)), (61, (.aload_n 0, 1)), (62, (.aload_n 2, 1)), (63, (.putfield 37, 3)), (66, (.aload_n 0, 1)), (67, (.aload_n 3, 1)), (68, (.putfield 41, 3)), (71, (.return_, 1))]
theorem dm_X7_init : ∀ q ∈ tb_X7_init, decode zX7_init.2.1 q.1 = .ok q.2 := by decide +kernel
theorem k_X7_init_56 (g : qG) (hgN : g.2.2.2.2.1 = 121) (l : Launch) : qBM g l 1 64 zX7_init [.inr (some 56), .inr (some 3), .inr (some 34), .inr (some 44)] (xs_117, q0) (xs_134, q0) 7 8228 := by
  refine qBM.of zi_X7_init (by decide) (fun k hk o => ?_)
  subst hk
  refine qb_aload_n o (q_dm dm_X7_init 0 rfl) rfl ?_
  refine qb_obj o mo_X7_3 oi_inst oi_code (Nat.le_of_ble_eq_true rfl) (Nat.le_of_ble_eq_true rfl) (q_dm dm_X7_init 1 rfl) ?_
  refine qb_aload_n o (q_dm dm_X7_init 2 rfl) rfl ?_
  refine qb_iconst o (q_dm dm_X7_init 3 rfl) ic_4 ?_
  refine qb_newa0 (X' := xs_118) (i := 57) (n := 4) o ac_int (by decide) (by decide) (by decide) (fun _ => rfl) rfl rfl (by rw [hgN]; decide) (by decide) (by decide) (q_dm dm_X7_init 4 rfl) ?_
  refine qb_putF (kf := 3) (i := 56) (j := 57) (X' := xs_119) (ty := tyX7 3) o cf_X7 rfl rfl (Nat.le_of_ble_eq_true rfl) fl_X7_9 rfl rfl rfl (tyX7_ok 3 (by decide)) rfl rfl rfl (q_dm dm_X7_init 5 rfl) ?_
  refine qb_aload_n o (q_dm dm_X7_init 6 rfl) rfl ?_
  refine qb_iconst o (q_dm dm_X7_init 7 rfl) ic_4 ?_
  refine qb_newa0 (X' := xs_120) (i := 58) (n := 4) o ac_int (by decide) (by decide) (by decide) (fun _ => rfl) rfl rfl (by rw [hgN]; decide) (by decide) (by decide) (q_dm dm_X7_init 8 rfl) ?_
  refine qb_putF (kf := 4) (i := 56) (j := 58) (X' := xs_121) (ty := tyX7 4) o cf_X7 rfl rfl (Nat.le_of_ble_eq_true rfl) fl_X7_15 rfl rfl rfl (tyX7_ok 4 (by decide)) rfl rfl rfl (q_dm dm_X7_init 9 rfl) ?_
  refine qb_aload_n o (q_dm dm_X7_init 10 rfl) rfl ?_
  refine qb_iconst o (q_dm dm_X7_init 11 rfl) ic_4 ?_
  refine qb_newa0 (X' := xs_122) (i := 59) (n := 4) o ac_int (by decide) (by decide) (by decide) (fun _ => rfl) rfl rfl (by rw [hgN]; decide) (by decide) (by decide) (q_dm dm_X7_init 12 rfl) ?_
  refine qb_putF (kf := 5) (i := 56) (j := 59) (X' := xs_123) (ty := tyX7 5) o cf_X7 rfl rfl (Nat.le_of_ble_eq_true rfl) fl_X7_18 rfl rfl rfl (tyX7_ok 5 (by decide)) rfl rfl rfl (q_dm dm_X7_init 13 rfl) ?_
  refine qb_aload_n o (q_dm dm_X7_init 14 rfl) rfl ?_
  refine qb_iconst o (q_dm dm_X7_init 15 rfl) ic_4 ?_
  refine qb_newa0 (X' := xs_124) (i := 60) (n := 4) o ac_int (by decide) (by decide) (by decide) (fun _ => rfl) rfl rfl (by rw [hgN]; decide) (by decide) (by decide) (q_dm dm_X7_init 16 rfl) ?_
  refine qb_putF (kf := 6) (i := 56) (j := 60) (X' := xs_125) (ty := tyX7 6) o cf_X7 rfl rfl (Nat.le_of_ble_eq_true rfl) fl_X7_21 rfl rfl rfl (tyX7_ok 6 (by decide)) rfl rfl rfl (q_dm dm_X7_init 17 rfl) ?_
  refine qb_aload_n o (q_dm dm_X7_init 18 rfl) rfl ?_
  refine qb_iconst o (q_dm dm_X7_init 19 rfl) ic_4 ?_
  refine qb_newa0 (X' := xs_126) (i := 61) (n := 4) o ac_int (by decide) (by decide) (by decide) (fun _ => rfl) rfl rfl (by rw [hgN]; decide) (by decide) (by decide) (q_dm dm_X7_init 20 rfl) ?_
  refine qb_putF (kf := 7) (i := 56) (j := 61) (X' := xs_127) (ty := tyX7 7) o cf_X7 rfl rfl (Nat.le_of_ble_eq_true rfl) fl_X7_24 rfl rfl rfl (tyX7_ok 7 (by decide)) rfl rfl rfl (q_dm dm_X7_init 21 rfl) ?_
  refine qb_aload_n o (q_dm dm_X7_init 22 rfl) rfl ?_
  refine qb_bipush o (q_dm dm_X7_init 23 rfl) bi_16 ?_
  refine qb_newa0 (X' := xs_128) (i := 62) (n := 16) o ac_int (by decide) (by decide) (by decide) (fun _ => rfl) rfl rfl (by rw [hgN]; decide) (by decide) (by decide) (q_dm dm_X7_init 24 rfl) ?_
  refine qb_putF (kf := 8) (i := 56) (j := 62) (X' := xs_129) (ty := tyX7 8) o cf_X7 rfl rfl (Nat.le_of_ble_eq_true rfl) fl_X7_27 rfl rfl rfl (tyX7_ok 8 (by decide)) rfl rfl rfl (q_dm dm_X7_init 25 rfl) ?_
  refine qb_aload_n o (q_dm dm_X7_init 26 rfl) rfl ?_
  refine qb_sipush o (q_dm dm_X7_init 27 rfl) si_8192 ?_
  refine qb_newa0 (X' := xs_130) (i := 63) (n := 8192) o ac_int (by decide) (by decide) (by decide) (fun _ => rfl) rfl rfl (by rw [hgN]; decide) (by decide) (by decide) (q_dm dm_X7_init 28 rfl) ?_
  refine qb_putF (kf := 9) (i := 56) (j := 63) (X' := xs_131) (ty := tyX7 9) o cf_X7 rfl rfl (Nat.le_of_ble_eq_true rfl) fl_X7_30 rfl rfl rfl (tyX7_ok 9 (by decide)) rfl rfl rfl (q_dm dm_X7_init 29 rfl) ?_
  refine qb_aload_n o (q_dm dm_X7_init 30 rfl) rfl ?_
  refine qb_aload_n o (q_dm dm_X7_init 31 rfl) rfl ?_
  refine qb_putF (kf := 0) (i := 56) (j := 3) (X' := xs_132) (ty := tyX7 0) o cf_X7 rfl rfl (Nat.le_of_ble_eq_true rfl) fl_X7_33 rfl rfl rfl (tyX7_ok 0 (by decide)) rfl rfl rfl (q_dm dm_X7_init 32 rfl) ?_
  refine qb_aload_n o (q_dm dm_X7_init 33 rfl) rfl ?_
  refine qb_aload_n o (q_dm dm_X7_init 34 rfl) rfl ?_
  refine qb_putF (kf := 1) (i := 56) (j := 34) (X' := xs_133) (ty := tyX7 1) o cf_X7 rfl rfl (Nat.le_of_ble_eq_true rfl) fl_X7_37 rfl rfl rfl (tyX7_ok 1 (by decide)) rfl rfl rfl (q_dm dm_X7_init 35 rfl) ?_
  refine qb_aload_n o (q_dm dm_X7_init 36 rfl) rfl ?_
  refine qb_aload_n o (q_dm dm_X7_init 37 rfl) rfl ?_
  refine qb_putF (kf := 2) (i := 56) (j := 44) (X' := xs_134) (ty := tyX7 2) o cf_X7 rfl rfl (Nat.le_of_ble_eq_true rfl) fl_X7_41 rfl rfl rfl (tyX7_ok 2 (by decide)) rfl rfl rfl (q_dm dm_X7_init 38 rfl) ?_
  exact qb_ret o (q_dm dm_X7_init 39 rfl)
def tb_X5_init : List (Nat × Instr × Nat) := [(0, (.aload_n 0, 1)), (1, (.invokespecial 3, 3)), (4, (.aload_n 0, 1)), (5, (.bipush 8, 2)), (7, (.newarray .int, 2)), (9, (.putfield 9, 3)), (12, (.aload_n 0, 1)), (13, (.iconst 3, 1)), (14, (.newarray .int, 2)), (16, (.putfield 15, 3)), (19, (.aload_n 0, 1)), (20, (.sipush 768, 3)), (23, (.newarray .int, 2)), (25, (.putfield 18, 3)), (28, (.aload_n 0, 1)), (29, (.bipush 12, 2)), (31, (.newarray .int, 2)), (33, (.putfield 21, 3)), (36, (.aload_n 0, 1)), (37, (.iconst 3, 1)), (38, (.newarray .int, 2)), (40, (.putfield 24, 3)), (43, (.aload_n 0, 1)), (44, (.aload_n 1, 1)), (45, (.putfield 27, 3)), (48, (.aload_n 0, 1)), (49, (.aload_n 2, 1)), (50, (.putfield 31, 3)), (53, (.aload_n 0, 1)), (54, (.aload_n 3, 1)), (55, (.putfield 35, 3)), (58, (.aload_n 0, 1)), (59, (.aload 4, 2)), (61, (.putfield 39, 3)), (64, (.return_, 1))]
theorem dm_X5_init : ∀ q ∈ tb_X5_init, decode zX5_init.2.1 q.1 = .ok q.2 := by decide +kernel
theorem k_X5_init_64 (g : qG) (hgN : g.2.2.2.2.1 = 121) (l : Launch) : qBM g l 1 64 zX5_init [.inr (some 64), .inr (some 3), .inr (some 34), .inr (some 44), .inr (some 25)] (xs_136, q0) (xs_150, q0) 5 794 := by
  refine qBM.of zi_X5_init (by decide) (fun k hk o => ?_)
  subst hk
  refine qb_aload_n o (q_dm dm_X5_init 0 rfl) rfl ?_
  refine qb_obj o mo_X5_3 oi_inst oi_code (Nat.le_of_ble_eq_true rfl) (Nat.le_of_ble_eq_true rfl) (q_dm dm_X5_init 1 rfl) ?_
  refine qb_aload_n o (q_dm dm_X5_init 2 rfl) rfl ?_
  refine qb_bipush o (q_dm dm_X5_init 3 rfl) bi_8 ?_
  refine qb_newa0 (X' := xs_137) (i := 65) (n := 8) o ac_int (by decide) (by decide) (by decide) (fun _ => rfl) rfl rfl (by rw [hgN]; decide) (by decide) (by decide) (q_dm dm_X5_init 4 rfl) ?_
  refine qb_putF (kf := 3) (i := 64) (j := 65) (X' := xs_138) (ty := tyX5 3) o cf_X5 rfl rfl (Nat.le_of_ble_eq_true rfl) fl_X5_9 rfl rfl rfl (tyX5_ok 3 (by decide)) rfl rfl rfl (q_dm dm_X5_init 5 rfl) ?_
  refine qb_aload_n o (q_dm dm_X5_init 6 rfl) rfl ?_
  refine qb_iconst o (q_dm dm_X5_init 7 rfl) ic_3 ?_
  refine qb_newa0 (X' := xs_139) (i := 66) (n := 3) o ac_int (by decide) (by decide) (by decide) (fun _ => rfl) rfl rfl (by rw [hgN]; decide) (by decide) (by decide) (q_dm dm_X5_init 8 rfl) ?_
  refine qb_putF (kf := 4) (i := 64) (j := 66) (X' := xs_140) (ty := tyX5 4) o cf_X5 rfl rfl (Nat.le_of_ble_eq_true rfl) fl_X5_15 rfl rfl rfl (tyX5_ok 4 (by decide)) rfl rfl rfl (q_dm dm_X5_init 9 rfl) ?_
  refine qb_aload_n o (q_dm dm_X5_init 10 rfl) rfl ?_
  refine qb_sipush o (q_dm dm_X5_init 11 rfl) si_768 ?_
  refine qb_newa0 (X' := xs_141) (i := 67) (n := 768) o ac_int (by decide) (by decide) (by decide) (fun _ => rfl) rfl rfl (by rw [hgN]; decide) (by decide) (by decide) (q_dm dm_X5_init 12 rfl) ?_
  refine qb_putF (kf := 5) (i := 64) (j := 67) (X' := xs_142) (ty := tyX5 5) o cf_X5 rfl rfl (Nat.le_of_ble_eq_true rfl) fl_X5_18 rfl rfl rfl (tyX5_ok 5 (by decide)) rfl rfl rfl (q_dm dm_X5_init 13 rfl) ?_
  refine qb_aload_n o (q_dm dm_X5_init 14 rfl) rfl ?_
  refine qb_bipush o (q_dm dm_X5_init 15 rfl) bi_12 ?_
  refine qb_newa0 (X' := xs_143) (i := 68) (n := 12) o ac_int (by decide) (by decide) (by decide) (fun _ => rfl) rfl rfl (by rw [hgN]; decide) (by decide) (by decide) (q_dm dm_X5_init 16 rfl) ?_
  refine qb_putF (kf := 6) (i := 64) (j := 68) (X' := xs_144) (ty := tyX5 6) o cf_X5 rfl rfl (Nat.le_of_ble_eq_true rfl) fl_X5_21 rfl rfl rfl (tyX5_ok 6 (by decide)) rfl rfl rfl (q_dm dm_X5_init 17 rfl) ?_
  refine qb_aload_n o (q_dm dm_X5_init 18 rfl) rfl ?_
  refine qb_iconst o (q_dm dm_X5_init 19 rfl) ic_3 ?_
  refine qb_newa0 (X' := xs_145) (i := 69) (n := 3) o ac_int (by decide) (by decide) (by decide) (fun _ => rfl) rfl rfl (by rw [hgN]; decide) (by decide) (by decide) (q_dm dm_X5_init 20 rfl) ?_
  refine qb_putF (kf := 7) (i := 64) (j := 69) (X' := xs_146) (ty := tyX5 7) o cf_X5 rfl rfl (Nat.le_of_ble_eq_true rfl) fl_X5_24 rfl rfl rfl (tyX5_ok 7 (by decide)) rfl rfl rfl (q_dm dm_X5_init 21 rfl) ?_
  refine qb_aload_n o (q_dm dm_X5_init 22 rfl) rfl ?_
  refine qb_aload_n o (q_dm dm_X5_init 23 rfl) rfl ?_
  refine qb_putF (kf := 0) (i := 64) (j := 3) (X' := xs_147) (ty := tyX5 0) o cf_X5 rfl rfl (Nat.le_of_ble_eq_true rfl) fl_X5_27 rfl rfl rfl (tyX5_ok 0 (by decide)) rfl rfl rfl (q_dm dm_X5_init 24 rfl) ?_
  refine qb_aload_n o (q_dm dm_X5_init 25 rfl) rfl ?_
  refine qb_aload_n o (q_dm dm_X5_init 26 rfl) rfl ?_
  refine qb_putF (kf := 1) (i := 64) (j := 34) (X' := xs_148) (ty := tyX5 1) o cf_X5 rfl rfl (Nat.le_of_ble_eq_true rfl) fl_X5_31 rfl rfl rfl (tyX5_ok 1 (by decide)) rfl rfl rfl (q_dm dm_X5_init 27 rfl) ?_
  refine qb_aload_n o (q_dm dm_X5_init 28 rfl) rfl ?_
  refine qb_aload_n o (q_dm dm_X5_init 29 rfl) rfl ?_
  refine qb_putF (kf := 2) (i := 64) (j := 44) (X' := xs_149) (ty := tyX5 2) o cf_X5 rfl rfl (Nat.le_of_ble_eq_true rfl) fl_X5_35 rfl rfl rfl (tyX5_ok 2 (by decide)) rfl rfl rfl (q_dm dm_X5_init 30 rfl) ?_
  refine qb_aload_n o (q_dm dm_X5_init 31 rfl) rfl ?_
  refine qb_aload o (q_dm dm_X5_init 32 rfl) rfl ?_
  refine qb_putF (kf := 8) (i := 64) (j := 25) (X' := xs_150) (ty := tyX5 8) o cf_X5 rfl rfl (Nat.le_of_ble_eq_true rfl) fl_X5_39 rfl rfl rfl (tyX5_ok 8 (by decide)) rfl rfl rfl (q_dm dm_X5_init 33 rfl) ?_
  exact qb_ret o (q_dm dm_X5_init 34 rfl)
def tb_X8_init : List (Nat × Instr × Nat) := [(0, (.aload_n 0, 1)), (1, (.invokespecial 3, 3)), (4, (.aload_n 0, 1)), (5, (.iconst 4, 1)), (6, (.newarray .int, 2)), (8, (.putfield 9, 3)), (11, (.aload_n 0, 1)), (12, (.iconst 4, 1)), (13, (.newarray .int, 2)), (15, (.putfield 15, 3)), (18, (.aload_n 0, 1)), (19, (.bipush 10, 2)), (21, (.newarray .int, 2)), (23, (.putfield 18, 3)), (26, (.aload_n 0, 1)), (27, (.bipush 10, 2)), (29, (.newarray .int, 2)), (31, (.putfield 21, 3)), (34, (.aload_n 0, 1)), (35, (.iconst 4, 1)), (36, (.newarray .int, 2)), (38, (.putfield 24, 3)), (41, (.aload_n 0, 1)), (42, (.iconst 4, 1)), (43, (.newarray .int, 2)), (45, (.putfield 27, 3)), (48, (.aload_n 0, 1)), (49, (.aload_n 1, 1)), (50, (.putfield 30, 3)), (53, (.aload_n 0, 1)), (54, (.aload_n 2, 1)), (55, (.putfield 34, 3)), (58, (.return_, 1))]
theorem dm_X8_init : ∀ q ∈ tb_X8_init, decode zX8_init.2.1 q.1 = .ok q.2 := by decide +kernel
theorem k_X8_init_70 (g : qG) (hgN : g.2.2.2.2.1 = 121) (l : Launch) : qBM g l 1 64 zX8_init [.inr (some 70), .inr (some 3), .inr (some 34)] (xs_152, q0) (xs_166, q0) 6 36 := by
  refine qBM.of zi_X8_init (by decide) (fun k hk o => ?_)
  subst hk
  refine qb_aload_n o (q_dm dm_X8_init 0 rfl) rfl ?_
  refine qb_obj o mo_X8_3 oi_inst oi_code (Nat.le_of_ble_eq_true rfl) (Nat.le_of_ble_eq_true rfl) (q_dm dm_X8_init 1 rfl) ?_
  refine qb_aload_n o (q_dm dm_X8_init 2 rfl) rfl ?_
  refine qb_iconst o (q_dm dm_X8_init 3 rfl) ic_4 ?_
  refine qb_newa0 (X' := xs_153) (i := 71) (n := 4) o ac_int (by decide) (by decide) (by decide) (fun _ => rfl) rfl rfl (by rw [hgN]; decide) (by decide) (by decide) (q_dm dm_X8_init 4 rfl) ?_
  refine qb_putF (kf := 2) (i := 70) (j := 71) (X' := xs_154) (ty := tyX8 2) o cf_X8 rfl rfl (Nat.le_of_ble_eq_true rfl) fl_X8_9 rfl rfl rfl (tyX8_ok 2 (by decide)) rfl rfl rfl (q_dm dm_X8_init 5 rfl) ?_
  refine qb_aload_n o (q_dm dm_X8_init 6 rfl) rfl ?_
  refine qb_iconst o (q_dm dm_X8_init 7 rfl) ic_4 ?_
  refine qb_newa0 (X' := xs_155) (i := 72) (n := 4) o ac_int (by decide) (by decide) (by decide) (fun _ => rfl) rfl rfl (by rw [hgN]; decide) (by decide) (by decide) (q_dm dm_X8_init 8 rfl) ?_
  refine qb_putF (kf := 3) (i := 70) (j := 72) (X' := xs_156) (ty := tyX8 3) o cf_X8 rfl rfl (Nat.le_of_ble_eq_true rfl) fl_X8_15 rfl rfl rfl (tyX8_ok 3 (by decide)) rfl rfl rfl (q_dm dm_X8_init 9 rfl) ?_
  refine qb_aload_n o (q_dm dm_X8_init 10 rfl) rfl ?_
  refine qb_bipush o (q_dm dm_X8_init 11 rfl) bi_10 ?_
  refine qb_newa0 (X' := xs_157) (i := 73) (n := 10) o ac_int (by decide) (by decide) (by decide) (fun _ => rfl) rfl rfl (by rw [hgN]; decide) (by decide) (by decide) (q_dm dm_X8_init 12 rfl) ?_
  refine qb_putF (kf := 4) (i := 70) (j := 73) (X' := xs_158) (ty := tyX8 4) o cf_X8 rfl rfl (Nat.le_of_ble_eq_true rfl) fl_X8_18 rfl rfl rfl (tyX8_ok 4 (by decide)) rfl rfl rfl (q_dm dm_X8_init 13 rfl) ?_
  refine qb_aload_n o (q_dm dm_X8_init 14 rfl) rfl ?_
  refine qb_bipush o (q_dm dm_X8_init 15 rfl) bi_10 ?_
  refine qb_newa0 (X' := xs_159) (i := 74) (n := 10) o ac_int (by decide) (by decide) (by decide) (fun _ => rfl) rfl rfl (by rw [hgN]; decide) (by decide) (by decide) (q_dm dm_X8_init 16 rfl) ?_
  refine qb_putF (kf := 5) (i := 70) (j := 74) (X' := xs_160) (ty := tyX8 5) o cf_X8 rfl rfl (Nat.le_of_ble_eq_true rfl) fl_X8_21 rfl rfl rfl (tyX8_ok 5 (by decide)) rfl rfl rfl (q_dm dm_X8_init 17 rfl) ?_
  refine qb_aload_n o (q_dm dm_X8_init 18 rfl) rfl ?_
  refine qb_iconst o (q_dm dm_X8_init 19 rfl) ic_4 ?_
  refine qb_newa0 (X' := xs_161) (i := 75) (n := 4) o ac_int (by decide) (by decide) (by decide) (fun _ => rfl) rfl rfl (by rw [hgN]; decide) (by decide) (by decide) (q_dm dm_X8_init 20 rfl) ?_
  refine qb_putF (kf := 6) (i := 70) (j := 75) (X' := xs_162) (ty := tyX8 6) o cf_X8 rfl rfl (Nat.le_of_ble_eq_true rfl) fl_X8_24 rfl rfl rfl (tyX8_ok 6 (by decide)) rfl rfl rfl (q_dm dm_X8_init 21 rfl) ?_
  refine qb_aload_n o (q_dm dm_X8_init 22 rfl) rfl ?_
  refine qb_iconst o (q_dm dm_X8_init 23 rfl) ic_4 ?_
  refine qb_newa0 (X' := xs_163) (i := 76) (n := 4) o ac_int (by decide) (by decide) (by decide) (fun _ => rfl) rfl rfl (by rw [hgN]; decide) (by decide) (by decide) (q_dm dm_X8_init 24 rfl) ?_
  refine qb_putF (kf := 7) (i := 70) (j := 76) (X' := xs_164) (ty := tyX8 7) o cf_X8 rfl rfl (Nat.le_of_ble_eq_true rfl) fl_X8_27 rfl rfl rfl (tyX8_ok 7 (by decide)) rfl rfl rfl (q_dm dm_X8_init 25 rfl) ?_
  refine qb_aload_n o (q_dm dm_X8_init 26 rfl) rfl ?_
  refine qb_aload_n o (q_dm dm_X8_init 27 rfl) rfl ?_
  refine qb_putF (kf := 0) (i := 70) (j := 3) (X' := xs_165) (ty := tyX8 0) o cf_X8 rfl rfl (Nat.le_of_ble_eq_true rfl) fl_X8_30 rfl rfl rfl (tyX8_ok 0 (by decide)) rfl rfl rfl (q_dm dm_X8_init 28 rfl) ?_
  refine qb_aload_n o (q_dm dm_X8_init 29 rfl) rfl ?_
  refine qb_aload_n o (q_dm dm_X8_init 30 rfl) rfl ?_
  refine qb_putF (kf := 1) (i := 70) (j := 34) (X' := xs_166) (ty := tyX8 1) o cf_X8 rfl rfl (Nat.le_of_ble_eq_true rfl) fl_X8_34 rfl rfl rfl (tyX8_ok 1 (by decide)) rfl rfl rfl (q_dm dm_X8_init 31 rfl) ?_
  exact qb_ret o (q_dm dm_X8_init 32 rfl)
theorem k_X11_init_0 (g : qG) (hgN : g.2.2.2.2.1 = 121) (l : Launch) : qBM g l 3 192 zX11_init [.inr (some 0)] (xs_1, q0) (xs_167, q0) 76 13569 := by
  refine qBM.of zi_X11_init (by decide) (fun k hk o => ?_)
  subst hk
  refine qb_aload_n o (q_dm dm_X11_init 0 rfl) rfl ?_
  refine qb_obj o mo_X11_1 oi_inst oi_code (Nat.le_of_ble_eq_true rfl) (Nat.le_of_ble_eq_true rfl) (q_dm dm_X11_init 1 rfl) ?_
  refine qb_aload_n o (q_dm dm_X11_init 2 rfl) rfl ?_
  refine qb_new (fds := [some none, none, none, none, none]) (X' := xs_2) (i := 1) o cf_X9 cl_X11_7 in_X9 ii_X9 (by decide +kernel) (fun _ => rfl) rfl rfl (by rw [hgN]; decide) (by decide) (by decide) (q_dm dm_X11_init 3 rfl) ?_
  refine qb_dup o (q_dm dm_X11_init 4 rfl) ?_
  have hNB := q_OB_nb o
  refine qb_callN (As := []) (S := [.inr (some 1), .inr (some 0)]) o (k_X9_init_1 g hgN _) zi_X9_init (hNB.1) (by decide) (by decide) (by decide) (by decide) (Nat.le_of_ble_eq_true rfl) (q_dm dm_X11_init 5 rfl) ?_
  refine qb_putF (kf := 0) (i := 0) (j := 1) (X' := xs_5) (ty := tyX11 0) o cf_X11 rfl rfl (Nat.le_of_ble_eq_true rfl) fl_X11_10 rfl rfl rfl (tyX11_ok 0 (by decide)) rfl rfl rfl (q_dm dm_X11_init 6 rfl) ?_
  refine qb_aload_n o (q_dm dm_X11_init 7 rfl) rfl ?_
  refine qb_new (fds := [some none, some none, some none, none]) (X' := xs_6) (i := 3) o cf_X2 cl_X11_16 in_X2 ii_X2 (by decide +kernel) (fun _ => rfl) rfl rfl (by rw [hgN]; decide) (by decide) (by decide) (q_dm dm_X11_init 8 rfl) ?_
  refine qb_dup o (q_dm dm_X11_init 9 rfl) ?_
  have hNB := q_OB_nb o
  refine qb_callN (As := []) (S := [.inr (some 3), .inr (some 0)]) o (k_X2_init_3 g hgN _) zi_X2_init (hNB.2.1) (by decide) (by decide) (by decide) (by decide) (Nat.le_of_ble_eq_true rfl) (q_dm dm_X11_init 10 rfl) ?_
  refine qb_putF (kf := 1) (i := 0) (j := 3) (X' := xs_13) (ty := tyX11 1) o cf_X11 rfl rfl (Nat.le_of_ble_eq_true rfl) fl_X11_19 rfl rfl rfl (tyX11_ok 1 (by decide)) rfl rfl rfl (q_dm dm_X11_init 11 rfl) ?_
  refine qb_aload_n o (q_dm dm_X11_init 12 rfl) rfl ?_
  refine qb_new (fds := [some none, some none, some none, some none, some none, some none, some none, some none, none, none]) (X' := xs_14) (i := 7) o cf_X10 cl_X11_23 in_X10 ii_X10 (by decide +kernel) (fun _ => rfl) rfl rfl (by rw [hgN]; decide) (by decide) (by decide) (q_dm dm_X11_init 13 rfl) ?_
  refine qb_dup o (q_dm dm_X11_init 14 rfl) ?_
  have hNB := q_OB_nb o
  refine qb_callN (As := []) (S := [.inr (some 7), .inr (some 0)]) o (k_X10_init_7 g hgN _) zi_X10_init (hNB.2.2.1) (by decide) (by decide) (by decide) (by decide) (Nat.le_of_ble_eq_true rfl) (q_dm dm_X11_init 15 rfl) ?_
  refine qb_putF (kf := 2) (i := 0) (j := 7) (X' := xs_31) (ty := tyX11 2) o cf_X11 rfl rfl (Nat.le_of_ble_eq_true rfl) fl_X11_26 rfl rfl rfl (tyX11_ok 2 (by decide)) rfl rfl rfl (q_dm dm_X11_init 16 rfl) ?_
  refine qb_aload_n o (q_dm dm_X11_init 17 rfl) rfl ?_
  refine qb_new (fds := [some none, some none, some none, some none, some none, some none, some none, some none, none, none]) (X' := xs_32) (i := 16) o cf_X10 cl_X11_23 in_X10 ii_X10 (by decide +kernel) (fun _ => rfl) rfl rfl (by rw [hgN]; decide) (by decide) (by decide) (q_dm dm_X11_init 18 rfl) ?_
  refine qb_dup o (q_dm dm_X11_init 19 rfl) ?_
  have hNB := q_OB_nb o
  refine qb_callN (As := []) (S := [.inr (some 16), .inr (some 0)]) o (k_X10_init_16 g hgN _) zi_X10_init (hNB.2.2.1) (by decide) (by decide) (by decide) (by decide) (Nat.le_of_ble_eq_true rfl) (q_dm dm_X11_init 20 rfl) ?_
  refine qb_putF (kf := 3) (i := 0) (j := 16) (X' := xs_49) (ty := tyX11 3) o cf_X11 rfl rfl (Nat.le_of_ble_eq_true rfl) fl_X11_30 rfl rfl rfl (tyX11_ok 3 (by decide)) rfl rfl rfl (q_dm dm_X11_init 21 rfl) ?_
  refine qb_aload_n o (q_dm dm_X11_init 22 rfl) rfl ?_
  refine qb_new (fds := [some none, some none, some none, some none, some none, some none, some none, some none, none, none]) (X' := xs_50) (i := 25) o cf_X10 cl_X11_23 in_X10 ii_X10 (by decide +kernel) (fun _ => rfl) rfl rfl (by rw [hgN]; decide) (by decide) (by decide) (q_dm dm_X11_init 23 rfl) ?_
  refine qb_dup o (q_dm dm_X11_init 24 rfl) ?_
  have hNB := q_OB_nb o
  refine qb_callN (As := []) (S := [.inr (some 25), .inr (some 0)]) o (k_X10_init_25 g hgN _) zi_X10_init (hNB.2.2.1) (by decide) (by decide) (by decide) (by decide) (Nat.le_of_ble_eq_true rfl) (q_dm dm_X11_init 25 rfl) ?_
  refine qb_putF (kf := 4) (i := 0) (j := 25) (X' := xs_67) (ty := tyX11 4) o cf_X11 rfl rfl (Nat.le_of_ble_eq_true rfl) fl_X11_33 rfl rfl rfl (tyX11_ok 4 (by decide)) rfl rfl rfl (q_dm dm_X11_init 26 rfl) ?_
  refine qb_aload_n o (q_dm dm_X11_init 27 rfl) rfl ?_
  refine qb_new (fds := [some none, some none, some none, some none, none]) (X' := xs_68) (i := 34) o cf_X1 cl_X11_36 in_X1 ii_X1 (by decide +kernel) (fun _ => rfl) rfl rfl (by rw [hgN]; decide) (by decide) (by decide) (q_dm dm_X11_init 28 rfl) ?_
  refine qb_dup o (q_dm dm_X11_init 29 rfl) ?_
  refine qb_aload_n o (q_dm dm_X11_init 30 rfl) rfl ?_
  refine qb_getr (kf := 1) o cf_X11 (i := 0) (j := 3) rfl rfl (Nat.le_of_ble_eq_true rfl) fl_X11_19 (q_dm dm_X11_init 31 rfl) ?_
  refine qb_call (As := [.inr (some 3)]) (S := [.inr (some 34), .inr (some 0)]) o (k_X1_init_34 g hgN _) zi_X1_init mc_X11_38 (by decide) (by decide) (by decide) (by decide) (Nat.le_of_ble_eq_true rfl) (q_dm dm_X11_init 32 rfl) ?_
  refine qb_putF (kf := 5) (i := 0) (j := 34) (X' := xs_88) (ty := tyX11 5) o cf_X11 rfl rfl (Nat.le_of_ble_eq_true rfl) fl_X11_41 rfl rfl rfl (tyX11_ok 5 (by decide)) rfl rfl rfl (q_dm dm_X11_init 33 rfl) ?_
  refine qb_aload_n o (q_dm dm_X11_init 34 rfl) rfl ?_
  refine qb_new (fds := [some none, some none, none, none, none, none, none, none, none, none]) (X' := xs_89) (i := 44) o cf_X0 cl_X11_45 in_X0 ii_X0 (by decide +kernel) (fun _ => rfl) rfl rfl (by rw [hgN]; decide) (by decide) (by decide) (q_dm dm_X11_init 35 rfl) ?_
  refine qb_dup o (q_dm dm_X11_init 36 rfl) ?_
  refine qb_aload_n o (q_dm dm_X11_init 37 rfl) rfl ?_
  refine qb_getr (kf := 1) o cf_X11 (i := 0) (j := 3) rfl rfl (Nat.le_of_ble_eq_true rfl) fl_X11_19 (q_dm dm_X11_init 38 rfl) ?_
  refine qb_aload_n o (q_dm dm_X11_init 39 rfl) rfl ?_
  refine qb_getr (kf := 5) o cf_X11 (i := 0) (j := 34) rfl rfl (Nat.le_of_ble_eq_true rfl) fl_X11_41 (q_dm dm_X11_init 40 rfl) ?_
  refine qb_call (As := [.inr (some 3), .inr (some 34)]) (S := [.inr (some 44), .inr (some 0)]) o (k_X0_init_44 g hgN _) zi_X0_init mc_X11_47 (by decide) (by decide) (by decide) (by decide) (Nat.le_of_ble_eq_true rfl) (q_dm dm_X11_init 41 rfl) ?_
  refine qb_putF (kf := 6) (i := 0) (j := 44) (X' := xs_92) (ty := tyX11 6) o cf_X11 rfl rfl (Nat.le_of_ble_eq_true rfl) fl_X11_50 rfl rfl rfl (tyX11_ok 6 (by decide)) rfl rfl rfl (q_dm dm_X11_init 42 rfl) ?_
  refine qb_aload_n o (q_dm dm_X11_init 43 rfl) rfl ?_
  refine qb_new (fds := [some none, some none]) (X' := xs_93) (i := 45) o cf_X4 cl_X11_54 in_X4 ii_X4 (by decide +kernel) (fun _ => rfl) rfl rfl (by rw [hgN]; decide) (by decide) (by decide) (q_dm dm_X11_init 44 rfl) ?_
  refine qb_dup o (q_dm dm_X11_init 45 rfl) ?_
  refine qb_aload_n o (q_dm dm_X11_init 46 rfl) rfl ?_
  refine qb_getr (kf := 0) o cf_X11 (i := 0) (j := 1) rfl rfl (Nat.le_of_ble_eq_true rfl) fl_X11_10 (q_dm dm_X11_init 47 rfl) ?_
  refine qb_call (As := [.inr (some 1)]) (S := [.inr (some 45), .inr (some 0)]) o (k_X4_init_45 g hgN _) zi_X4_init mc_X11_56 (by decide) (by decide) (by decide) (by decide) (Nat.le_of_ble_eq_true rfl) (q_dm dm_X11_init 48 rfl) ?_
  refine qb_putF (kf := 7) (i := 0) (j := 45) (X' := xs_109) (ty := tyX11 7) o cf_X11 rfl rfl (Nat.le_of_ble_eq_true rfl) fl_X11_59 rfl rfl rfl (tyX11_ok 7 (by decide)) rfl rfl rfl (q_dm dm_X11_init 49 rfl) ?_
  refine qb_aload_n o (q_dm dm_X11_init 50 rfl) rfl ?_
  refine qb_new (fds := [some none, some none, some none, none]) (X' := xs_110) (i := 53) o cf_X6 cl_X11_63 in_X6 ii_X6 (by decide +kernel) (fun _ => rfl) rfl rfl (by rw [hgN]; decide) (by decide) (by decide) (q_dm dm_X11_init 51 rfl) ?_
  refine qb_dup o (q_dm dm_X11_init 52 rfl) ?_
  refine qb_aload_n o (q_dm dm_X11_init 53 rfl) rfl ?_
  refine qb_getr (kf := 0) o cf_X11 (i := 0) (j := 1) rfl rfl (Nat.le_of_ble_eq_true rfl) fl_X11_10 (q_dm dm_X11_init 54 rfl) ?_
  refine qb_call (As := [.inr (some 1)]) (S := [.inr (some 53), .inr (some 0)]) o (k_X6_init_53 g hgN _) zi_X6_init mc_X11_65 (by decide) (by decide) (by decide) (by decide) (Nat.le_of_ble_eq_true rfl) (q_dm dm_X11_init 55 rfl) ?_
  refine qb_putF (kf := 8) (i := 0) (j := 53) (X' := xs_116) (ty := tyX11 8) o cf_X11 rfl rfl (Nat.le_of_ble_eq_true rfl) fl_X11_66 rfl rfl rfl (tyX11_ok 8 (by decide)) rfl rfl rfl (q_dm dm_X11_init 56 rfl) ?_
  refine qb_aload_n o (q_dm dm_X11_init 57 rfl) rfl ?_
  refine qb_new (fds := [some none, some none, some none, some none, some none, some none, some none, some none, some none, some none, none, none, none, none]) (X' := xs_117) (i := 56) o cf_X7 cl_X11_70 in_X7 ii_X7 (by decide +kernel) (fun _ => rfl) rfl rfl (by rw [hgN]; decide) (by decide) (by decide) (q_dm dm_X11_init 58 rfl) ?_
  refine qb_dup o (q_dm dm_X11_init 59 rfl) ?_
  refine qb_aload_n o (q_dm dm_X11_init 60 rfl) rfl ?_
  refine qb_getr (kf := 1) o cf_X11 (i := 0) (j := 3) rfl rfl (Nat.le_of_ble_eq_true rfl) fl_X11_19 (q_dm dm_X11_init 61 rfl) ?_
  refine qb_aload_n o (q_dm dm_X11_init 62 rfl) rfl ?_
  refine qb_getr (kf := 5) o cf_X11 (i := 0) (j := 34) rfl rfl (Nat.le_of_ble_eq_true rfl) fl_X11_41 (q_dm dm_X11_init 63 rfl) ?_
  refine qb_aload_n o (q_dm dm_X11_init 64 rfl) rfl ?_
  refine qb_getr (kf := 6) o cf_X11 (i := 0) (j := 44) rfl rfl (Nat.le_of_ble_eq_true rfl) fl_X11_50 (q_dm dm_X11_init 65 rfl) ?_
  refine qb_call (As := [.inr (some 3), .inr (some 34), .inr (some 44)]) (S := [.inr (some 56), .inr (some 0)]) o (k_X7_init_56 g hgN _) zi_X7_init mc_X11_72 (by decide) (by decide) (by decide) (by decide) (Nat.le_of_ble_eq_true rfl) (q_dm dm_X11_init 66 rfl) ?_
  refine qb_putF (kf := 9) (i := 0) (j := 56) (X' := xs_135) (ty := tyX11 9) o cf_X11 rfl rfl (Nat.le_of_ble_eq_true rfl) fl_X11_75 rfl rfl rfl (tyX11_ok 9 (by decide)) rfl rfl rfl (q_dm dm_X11_init 67 rfl) ?_
  refine qb_aload_n o (q_dm dm_X11_init 68 rfl) rfl ?_
  refine qb_new (fds := [some none, some none, some none, some none, some none, some none, some none, some none, some none, none, none, none, none]) (X' := xs_136) (i := 64) o cf_X5 cl_X11_79 in_X5 ii_X5 (by decide +kernel) (fun _ => rfl) rfl rfl (by rw [hgN]; decide) (by decide) (by decide) (q_dm dm_X11_init 69 rfl) ?_
  refine qb_dup o (q_dm dm_X11_init 70 rfl) ?_
  refine qb_aload_n o (q_dm dm_X11_init 71 rfl) rfl ?_
  refine qb_getr (kf := 1) o cf_X11 (i := 0) (j := 3) rfl rfl (Nat.le_of_ble_eq_true rfl) fl_X11_19 (q_dm dm_X11_init 72 rfl) ?_
  refine qb_aload_n o (q_dm dm_X11_init 73 rfl) rfl ?_
  refine qb_getr (kf := 5) o cf_X11 (i := 0) (j := 34) rfl rfl (Nat.le_of_ble_eq_true rfl) fl_X11_41 (q_dm dm_X11_init 74 rfl) ?_
  refine qb_aload_n o (q_dm dm_X11_init 75 rfl) rfl ?_
  refine qb_getr (kf := 6) o cf_X11 (i := 0) (j := 44) rfl rfl (Nat.le_of_ble_eq_true rfl) fl_X11_50 (q_dm dm_X11_init 76 rfl) ?_
  refine qb_aload_n o (q_dm dm_X11_init 77 rfl) rfl ?_
  refine qb_getr (kf := 4) o cf_X11 (i := 0) (j := 25) rfl rfl (Nat.le_of_ble_eq_true rfl) fl_X11_33 (q_dm dm_X11_init 78 rfl) ?_
  refine qb_call (As := [.inr (some 3), .inr (some 34), .inr (some 44), .inr (some 25)]) (S := [.inr (some 64), .inr (some 0)]) o (k_X5_init_64 g hgN _) zi_X5_init mc_X11_81 (by decide) (by decide) (by decide) (by decide) (Nat.le_of_ble_eq_true rfl) (q_dm dm_X11_init 79 rfl) ?_
  refine qb_putF (kf := 10) (i := 0) (j := 64) (X' := xs_151) (ty := tyX11 10) o cf_X11 rfl rfl (Nat.le_of_ble_eq_true rfl) fl_X11_84 rfl rfl rfl (tyX11_ok 10 (by decide)) rfl rfl rfl (q_dm dm_X11_init 80 rfl) ?_
  refine qb_aload_n o (q_dm dm_X11_init 81 rfl) rfl ?_
  refine qb_new (fds := [some none, some none, some none, some none, some none, some none, some none, some none, none, none, none, none]) (X' := xs_152) (i := 70) o cf_X8 cl_X11_88 in_X8 ii_X8 (by decide +kernel) (fun _ => rfl) rfl rfl (by rw [hgN]; decide) (by decide) (by decide) (q_dm dm_X11_init 82 rfl) ?_
  refine qb_dup o (q_dm dm_X11_init 83 rfl) ?_
  refine qb_aload_n o (q_dm dm_X11_init 84 rfl) rfl ?_
  refine qb_getr (kf := 1) o cf_X11 (i := 0) (j := 3) rfl rfl (Nat.le_of_ble_eq_true rfl) fl_X11_19 (q_dm dm_X11_init 85 rfl) ?_
  refine qb_aload_n o (q_dm dm_X11_init 86 rfl) rfl ?_
  refine qb_getr (kf := 5) o cf_X11 (i := 0) (j := 34) rfl rfl (Nat.le_of_ble_eq_true rfl) fl_X11_41 (q_dm dm_X11_init 87 rfl) ?_
  refine qb_call (As := [.inr (some 3), .inr (some 34)]) (S := [.inr (some 70), .inr (some 0)]) o (k_X8_init_70 g hgN _) zi_X8_init mc_X11_90 (by decide) (by decide) (by decide) (by decide) (Nat.le_of_ble_eq_true rfl) (q_dm dm_X11_init 88 rfl) ?_
  refine qb_putF (kf := 11) (i := 0) (j := 70) (X' := xs_167) (ty := tyX11 11) o cf_X11 rfl rfl (Nat.le_of_ble_eq_true rfl) fl_X11_91 rfl rfl rfl (tyX11_ok 11 (by decide)) rfl rfl rfl (q_dm dm_X11_init 89 rfl) ?_
  refine qb_aload_n o (q_dm dm_X11_init 90 rfl) rfl ?_
  refine qb_iconst o (q_dm dm_X11_init 91 rfl) ic_0 ?_
  refine qb_putz (kf := 12) (i := 0) (M' := q0) o cf_X11 rfl rfl (Nat.le_of_ble_eq_true rfl) fl_X11_95 rfl (by decide +kernel) q0_mu (q_dm dm_X11_init 92 rfl) ?_
  exact qb_ret o (q_dm dm_X11_init 93 rfl)
