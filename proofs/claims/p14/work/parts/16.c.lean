def tb_X12_init : List (Nat × Instr × Nat) := [(0, (.aload_n 0, 1)), (1, (.invokespecial 1, 3)), (4, (.aload_n 0, 1)), (5, (.sipush 954, 3)), (8, (.newarray .int, 2)), (10, (.putfield 7, 3)), (13, (.aload_n 0, 1)), (14, (.sipush 954, 3)), (17, (.newarray .int, 2)), (19, (.putfield 13, 3)), (22, (.aload_n 0, 1)), (23, (.sipush 954, 3)), (26, (.newarray .int, 2)), (28, (.putfield 16, 3)), (31, (.aload_n 0, 1)), (32, (.bipush 13, 2)), (34, (.newarray .int, 2)), (36, (.putfield 19, 3)), (39, (.aload_n 0, 1)), (40, (.bipush 13, 2)), (42, (.newarray .int, 2)), (44, (.putfield 22, 3)), (47, (.aload_n 0, 1)), (48, (.bipush 13, 2)), (50, (.newarray .int, 2)), (52, (.putfield 25, 3)), (55, (.aload_n 0, 1)), (56, (.sipush 260, 3)), (59, (.newarray .byte, 2)), (61, (.putfield 28, 3)), (64, (.aload_n 0, 1)), (65, (.sipush 260, 3)), (68, (.newarray .int, 2)), (70, (.putfield 32, 3)), (73, (.aload_n 0, 1)), (74, (.sipush 260, 3)), (77, (.newarray .int, 2)), (79, (.putfield 35, 3)), (82, (.aload_n 0, 1)), (83, (.bipush 16, 2)), (85, (.newarray .int, 2)), (87, (.putfield 38, 3)), (90, (.aload_n 0, 1)), (91, (.bipush 16, 2)), (93, (.newarray .int, 2)), (95, (.putfield 41, 3)), (98, (.aload_n 0, 1)), (99, (.bipush 16, 2)), (101, (.newarray .int, 2)), (103, (.putfield 44, 3)), (106, (.aload_n 0, 1)), (107, (.bipush 16, 2)), (109, (.newarray .int, 2)), (111, (.putfield 47, 3)), (114, (.aload_n 0, 1)), (115, (.sipush 260, 3)), (118, (.newarray .int, 2)), (120, (.putfield 50, 3)), (123, (.aload_n 0, 1)), (124, (.bipush 16, 2)), (126, (.newarray .int, 2)), (128, (.putfield 53, 3)), (131, (.aload_n 0, 1)), (132, (.bipush 16, 2)), (134, (.newarray .int, 2)), (136, (.putfield 56, 3)), (139, (.aload_n 0, 1)), (140, (.bipush 16, 2)), (142, (.newarray .int, 2)), (144, (.putfield 59, 3)), (147, (.aload_n 0, 1)), (148, (.bipush 16, 2)), (150, (.newarray .int, 2)), (152, (.putfield 62, 3)), (155, (.aload_n 0, 1)), (156, (.sipush 260, 3)), (159, (.newarray .int, 2)), (161, (.putfield 65, 3)), (164, (.aload_n 0, 1)), (165, (.bipush 12, 2)), (167, (.newarray .int, 2)), (169, (.putfield 68, 3)), (172, (.aload_n 0, 1)), (173, (.bipush 40, 2)), (175, (.newarray .int, 2)), (177, (.putfield 71, 3)), (180, (.aload_n 0, 1)), (181, (.bipush 40, 2)), (183, (.newarray .int, 2)), (185, (.putfield 74, 3)), (188, (.aload_n 0, 1)), (189, (.iconst 3, 1)), (190, (.newarray .int, 2)), (192, (.putfield 77, 3)), (195, (.aload_n 0, 1)), (196, (.iconst 3, 1)), (197, (.newarray .int, 2)), (199, (.putfield 80, 3)), (202, (.aload_n 0, 1)), (203, (.bipush 20, 2)), (205, (.newarray .int, 2)), (207, (.putfield 83, 3)), (210, (.aload_n 0, 1)), (211, (.bipush 20, 2)), (213, (.newarray .int, 2)), (215, (.putfield 86, 3)), (218, (.aload_n 0, 1)), (219, (.bipush 20, 2)), (221, (.newarray .int, 2)), (223, (.putfield 89, 3)), (226, (.aload_n 0, 1)), (227, (.iconst 4, 1)), (228, (.newarray .int, 2)), (230, (.putfield 92, 3)), (233, (.aload_n 0, 1)), (234, (.iconst 4, 1)), (235, (.newarray .int, 2)), (237, (.putfield 95, 3)), (240, (.aload_n 0, 1)), (241, (.iconst 4, 1)), (242, (.newarray .int, 2)), (244, (.putfield 98, 3)), (247, (.aload_n 0, 1)), (248, (.iconst 4, 1)), (249, (.newarray .int, 2)), (251, (.putfield 101, 3)), (254, (.aload_n 0, 1)), (255, (.iconst 4, 1)), (256, (.newarray .int, 2)), (258, (.putfield 104, 3)), (261, (.aload_n 0, 1)), (262, (.ldc 107, 2)), (264, (.newarray .boolean, 2)), (266, (.putfield 108, 3)), (269, (.aload_n 0, 1)), (270, (.bipush 8, 2)), (272, (.newarray .int, 2)), (274, (.putfield 112, 3)), (277, (.aload_n 0, 1)), (278, (.iconst 3, 1)), (279, (.newarray .int, 2)), (281, (.putfield 115, 3)), (284, (.aload_n 0, 1)), (285, (.bipush 12, 2)), (287, (.newarray .int, 2)), (289, (.putfield 118, 3)), (292, (.aload_n 0, 1)), (293, (.bipush 12, 2)), (295, (.newarray .int, 2)), (297, (.putfield 121, 3)), (300, (.aload_n 0, 1)), (301, (.bipush 12, 2)), (303, (.newarray .int, 2)), (305, (.putfield 124, 3)), (308, (.aload_n 0, 1)), (309, (.iconst 4, 1)), (310, (.newarray .int, 2)), (312, (.putfield 127, 3)), (315, (.aload_n 0, 1)), (316, (.iconst 4, 1)), (317, (.newarray .int, 2)), (319, (.putfield 130, 3)), (322, (.aload_n 0, 1)), (323, (.iconst 4, 1)), (324, (.newarray .int, 2)), (326, (.putfield 133, 3)), (329, (.aload_n 0, 1)), (330, (.sipush 256, 3)), (333, (.newarray .boolean, 2)), (335, (.putfield 136, 3)), (338, (.aload_n 0, 1)), (339, (.sipush 2048, 3)), (342, (.newarray .boolean, 2)), (344, (.putfield 139, 3)), (347, (.iconst 0, 1)), (348, (.istore_n 1, 1)), (349, (.iload_n 1, 1)), (350, (.bipush 96, 2)), (352, (.if_icmp .ge 20, 3)), (355, (.aload_n 0, 1)), (356, (.getfield 7, 3)), (359, (.bipush 96, 2)), (361, (.iload_n 1, 1)), (362, (.iadd, 1)), (363, (.bipush (-2), 2)), (365, (.iastore, 1)), (366, (.iinc 1 1, 3)), (369, (.goto (-20), 3)), (372, (.aload_n 0, 1)), (373, (.invokevirtual 142, 3)), (376, (.return_, 1))]
theorem dm_X12_init : ∀ q ∈ tb_X12_init, decode zX12_init.2.1 q.1 = .ok q.2 := by decide +kernel
def b_X12_init_349 (n : Nat) (K349 : Int32 → qM → qR) (a1 : Int32) (M : qM) : qR :=
  (if (96 : Int32) ≤ a1 then qc (f_X12_laysWays n  M) (fun _ m1 => some (0, m1)) else qg ((96 : Int32) + a1) 954 (qlm (mu M 78 ((96 : Int32) + a1).toNatClampNeg (-2 : Int32)) (fun m2 => ql (a1 + (1 : Int32)) (fun x3 => K349 x3 m2))))
set_option maxRecDepth 4000 in
theorem wb_X12_init_349 {g : qG} {k : qK} (n : Nat) (j r : Nat) (hj : q_isLaw j) (hr : q_isLaw r) (o : qOk g 1 zX12_init k) (K349 : Int32 → qM → qR) (hK349 : ∀ (a1 : Int32) (M : qM), qAE g k zX12_init (qL j r) 349 [some (.inr (some 77)), some (.inl a1)] [] (qL j r, M) (K349 a1 M)) (a1 : Int32) (M : qM) : qAE g k zX12_init (qL j r) 349 [some (.inr (some 77)), some (.inl a1)] [] (qL j r, M) (b_X12_init_349 n K349 a1 M) := by
  unfold b_X12_init_349
  refine qr_iload_n o (q_dm dm_X12_init 176 rfl) rfl ?_
  refine qr_bipush o (q_dm dm_X12_init 177 rfl) bi_96 ?_
  refine qr_icmp_ge (tgt := 372) o (q_dm dm_X12_init 178 rfl) (by decide) ?_ ?_
  · refine qr_aload_n o (q_dm dm_X12_init 188 rfl) rfl ?_
    refine qr_callv_v (As := []) (S := []) o (a_X12_laysWays g k.2.1 n j r hj hr  M) (Nat.le_of_ble_eq_true rfl) zv_X12_laysWays rfl cf_X12 (sh77 j r) ml_X12_142 (Nat.le_of_ble_eq_true rfl) (q_dm dm_X12_init 189 rfl) (fun _ m1 => ?_)
    exact qr_vret o rfl (q_dm dm_X12_init 190 rfl)
  · refine qr_aload_n o (q_dm dm_X12_init 179 rfl) rfl ?_
    refine qr_getr (kf := 0) o cf_X12 (sh77 j r) rfl (Nat.le_of_ble_eq_true rfl) fl_X12_7 (q_dm dm_X12_init 180 rfl) ?_
    refine qr_bipush o (q_dm dm_X12_init 181 rfl) bi_96 ?_
    refine qr_iload_n o (q_dm dm_X12_init 182 rfl) rfl ?_
    refine qr_iadd o (q_dm dm_X12_init 183 rfl) ?_
    refine qr_bipush o (q_dm dm_X12_init 184 rfl) bi_m2 ?_
    refine qr_iast o (sh78 j r) (q_dm dm_X12_init 185 rfl) ?_
    refine qr_letm (fun m2 => ?_)
    refine qs_iincl2 (L' := fun x3 => [some (.inr (some 77)), some (.inl x3)]) o (q_dm dm_X12_init 186 rfl) rfl ic_1 (Nat.le_of_ble_eq_true rfl) (fun _ => rfl) (fun x3 => ?_)
    refine qr_goto (tgt := 349) o (q_dm dm_X12_init 187 rfl) (by decide) ?_
    exact qr_loc (q_leS (q_leS q_le0)) (hK349 x3 m2)

def f_X12_init_349 (n : Nat) : Nat → Int32 → qM → qR
  | 0, _, _ => none
  | m + 1, a1, M => b_X12_init_349 n (f_X12_init_349 n m) a1 M
theorem w_X12_init_349 {g : qG} {k : qK} (n : Nat) (j r : Nat) (hj : q_isLaw j) (hr : q_isLaw r) (o : qOk g 1 zX12_init k) : ∀ (m : Nat) (a1 : Int32) (M : qM), qAE g k zX12_init (qL j r) 349 [some (.inr (some 77)), some (.inl a1)] [] (qL j r, M) (f_X12_init_349 n m a1 M) := by
  intro m
  induction m with
  | zero =>
    intro a1 M
    exact qr_none
  | succ m ih =>
    intro a1 M
    exact wb_X12_init_349 n j r hj hr o (f_X12_init_349 n m) ih a1 M
theorem qb_ae {g : qG} {k : qK} {y : qMY} {pc : Nat} {L : List (Option qV)} {S : List qV} {st : qSt} {cs sl : Nat} (h : qAW g (k.1, k.2.1, k.2.2.1, k.2.2.2.1, k.2.2.2.2.1, k.2.2.2.2.2.1, k.2.2.2.2.2.2.1, k.2.2.2.2.2.2.2.1, k.2.2.2.2.2.2.2.2.1, k.2.2.2.2.2.2.2.2.2.1, cs, sl, k.2.2.2.2.2.2.2.2.2.2.2.2) y pc L S st) : qBW g k y pc L S st cs sl := by
  obtain ⟨p, l, e, R, s, m, args, below, meth, c, c0, s0, Q⟩ := k
  intro H locs ls _ hN hP hS hl
  exact h H locs ls hN hP hS hl
theorem q_ok_of {g : qG} {k : qK} {y : qMY} {fr lo ce so d cs sl : Nat} (o : qOB g y fr lo ce so k) (h1 : d ≤ fr) (h2 : 64 * d ≤ lo) (h3 : cs ≤ ce) (h4 : sl ≤ so) : qOk g d y (k.1, k.2.1, k.2.2.1, k.2.2.2.1, k.2.2.2.2.1, k.2.2.2.2.2.1, k.2.2.2.2.2.2.1, k.2.2.2.2.2.2.2.1, k.2.2.2.2.2.2.2.2.1, k.2.2.2.2.2.2.2.2.2.1, cs, sl, k.2.2.2.2.2.2.2.2.2.2.2.2) := by
  obtain ⟨p, l, e, R, s, m, args, below, meth, c, c0, s0, Q⟩ := k
  obtain ⟨hx, hb, hml, hown, hts, hr, hlocks, hK, hRO, hNB, hB, hDD, hin, hR1, hR2, hR3, hR4⟩ := o
  exact ⟨hx, hb, hml, hown, hts, hr, hlocks, hK, hRO, hDD, Nat.le_trans h1 hR1, Nat.le_trans h2 hR2, Nat.le_trans h3 hR3, Nat.le_trans h4 hR4⟩
set_option maxRecDepth 8000 in
set_option maxHeartbeats 4000000 in
/-- the model's constructor up to its loop -/
theorem k_model_a {g : qG} (hgN : g.2.2.2.2.1 = 121) {k : qK} {st9 : qSt} {mc ms : Nat} (o : qOB g zX12_init 2 128 43 166870 k) (h : qBE g k zX12_init st9 mc ms 347 [some (.inr (some 77)), none] [] (xs_254, q0) 43 166870) : qBE g k zX12_init st9 mc ms 0 [some (.inr (some 77)), none] [] (xs_168, q0) 0 0 := by
  refine qb_aload_n o (q_dm dm_X12_init 0 rfl) rfl ?_
  refine qb_obj o mo_X12_1 oi_inst oi_code (Nat.le_of_ble_eq_true rfl) (Nat.le_of_ble_eq_true rfl) (q_dm dm_X12_init 1 rfl) ?_
  refine qb_aload_n o (q_dm dm_X12_init 2 rfl) rfl ?_
  refine qb_sipush o (q_dm dm_X12_init 3 rfl) si_954 ?_
  refine qb_newa0 (X' := xs_169) (i := 78) (n := 954) o ac_int (by decide) (by decide) (by decide) (fun _ => rfl) rfl rfl (by rw [hgN]; decide) (by decide) (by decide) (q_dm dm_X12_init 4 rfl) ?_
  refine qb_putF (kf := 0) (i := 77) (j := 78) (X' := xs_170) (ty := tyX12 0) o cf_X12 rfl rfl (Nat.le_of_ble_eq_true rfl) fl_X12_7 rfl rfl rfl (tyX12_ok 0 (by decide)) rfl rfl rfl (q_dm dm_X12_init 5 rfl) ?_
  refine qb_aload_n o (q_dm dm_X12_init 6 rfl) rfl ?_
  refine qb_sipush o (q_dm dm_X12_init 7 rfl) si_954 ?_
  refine qb_newa0 (X' := xs_171) (i := 79) (n := 954) o ac_int (by decide) (by decide) (by decide) (fun _ => rfl) rfl rfl (by rw [hgN]; decide) (by decide) (by decide) (q_dm dm_X12_init 8 rfl) ?_
  refine qb_putF (kf := 1) (i := 77) (j := 79) (X' := xs_172) (ty := tyX12 1) o cf_X12 rfl rfl (Nat.le_of_ble_eq_true rfl) fl_X12_13 rfl rfl rfl (tyX12_ok 1 (by decide)) rfl rfl rfl (q_dm dm_X12_init 9 rfl) ?_
  refine qb_aload_n o (q_dm dm_X12_init 10 rfl) rfl ?_
  refine qb_sipush o (q_dm dm_X12_init 11 rfl) si_954 ?_
  refine qb_newa0 (X' := xs_173) (i := 80) (n := 954) o ac_int (by decide) (by decide) (by decide) (fun _ => rfl) rfl rfl (by rw [hgN]; decide) (by decide) (by decide) (q_dm dm_X12_init 12 rfl) ?_
  refine qb_putF (kf := 2) (i := 77) (j := 80) (X' := xs_174) (ty := tyX12 2) o cf_X12 rfl rfl (Nat.le_of_ble_eq_true rfl) fl_X12_16 rfl rfl rfl (tyX12_ok 2 (by decide)) rfl rfl rfl (q_dm dm_X12_init 13 rfl) ?_
  refine qb_aload_n o (q_dm dm_X12_init 14 rfl) rfl ?_
  refine qb_bipush o (q_dm dm_X12_init 15 rfl) bi_13 ?_
  refine qb_newa0 (X' := xs_175) (i := 81) (n := 13) o ac_int (by decide) (by decide) (by decide) (fun _ => rfl) rfl rfl (by rw [hgN]; decide) (by decide) (by decide) (q_dm dm_X12_init 16 rfl) ?_
  refine qb_putF (kf := 3) (i := 77) (j := 81) (X' := xs_176) (ty := tyX12 3) o cf_X12 rfl rfl (Nat.le_of_ble_eq_true rfl) fl_X12_19 rfl rfl rfl (tyX12_ok 3 (by decide)) rfl rfl rfl (q_dm dm_X12_init 17 rfl) ?_
  refine qb_aload_n o (q_dm dm_X12_init 18 rfl) rfl ?_
  refine qb_bipush o (q_dm dm_X12_init 19 rfl) bi_13 ?_
  refine qb_newa0 (X' := xs_177) (i := 82) (n := 13) o ac_int (by decide) (by decide) (by decide) (fun _ => rfl) rfl rfl (by rw [hgN]; decide) (by decide) (by decide) (q_dm dm_X12_init 20 rfl) ?_
  refine qb_putF (kf := 4) (i := 77) (j := 82) (X' := xs_178) (ty := tyX12 4) o cf_X12 rfl rfl (Nat.le_of_ble_eq_true rfl) fl_X12_22 rfl rfl rfl (tyX12_ok 4 (by decide)) rfl rfl rfl (q_dm dm_X12_init 21 rfl) ?_
  refine qb_aload_n o (q_dm dm_X12_init 22 rfl) rfl ?_
  refine qb_bipush o (q_dm dm_X12_init 23 rfl) bi_13 ?_
  refine qb_newa0 (X' := xs_179) (i := 83) (n := 13) o ac_int (by decide) (by decide) (by decide) (fun _ => rfl) rfl rfl (by rw [hgN]; decide) (by decide) (by decide) (q_dm dm_X12_init 24 rfl) ?_
  refine qb_putF (kf := 5) (i := 77) (j := 83) (X' := xs_180) (ty := tyX12 5) o cf_X12 rfl rfl (Nat.le_of_ble_eq_true rfl) fl_X12_25 rfl rfl rfl (tyX12_ok 5 (by decide)) rfl rfl rfl (q_dm dm_X12_init 25 rfl) ?_
  refine qb_aload_n o (q_dm dm_X12_init 26 rfl) rfl ?_
  refine qb_sipush o (q_dm dm_X12_init 27 rfl) si_260 ?_
  refine qb_newa1 (X' := xs_181) (i := 84) (n := 260) o ac_byte (by decide) (by decide) (by decide) (fun _ => rfl) rfl rfl (by rw [hgN]; decide) (by decide) (by decide) (q_dm dm_X12_init 28 rfl) ?_
  refine qb_putF (kf := 7) (i := 77) (j := 84) (X' := xs_182) (ty := tyX12 7) o cf_X12 rfl rfl (Nat.le_of_ble_eq_true rfl) fl_X12_28 rfl rfl rfl (tyX12_ok 7 (by decide)) rfl rfl rfl (q_dm dm_X12_init 29 rfl) ?_
  refine qb_aload_n o (q_dm dm_X12_init 30 rfl) rfl ?_
  refine qb_sipush o (q_dm dm_X12_init 31 rfl) si_260 ?_
  refine qb_newa0 (X' := xs_183) (i := 85) (n := 260) o ac_int (by decide) (by decide) (by decide) (fun _ => rfl) rfl rfl (by rw [hgN]; decide) (by decide) (by decide) (q_dm dm_X12_init 32 rfl) ?_
  refine qb_putF (kf := 18) (i := 77) (j := 85) (X' := xs_184) (ty := tyX12 18) o cf_X12 rfl rfl (Nat.le_of_ble_eq_true rfl) fl_X12_32 rfl rfl rfl (tyX12_ok 18 (by decide)) rfl rfl rfl (q_dm dm_X12_init 33 rfl) ?_
  refine qb_aload_n o (q_dm dm_X12_init 34 rfl) rfl ?_
  refine qb_sipush o (q_dm dm_X12_init 35 rfl) si_260 ?_
  refine qb_newa0 (X' := xs_185) (i := 86) (n := 260) o ac_int (by decide) (by decide) (by decide) (fun _ => rfl) rfl rfl (by rw [hgN]; decide) (by decide) (by decide) (q_dm dm_X12_init 36 rfl) ?_
  refine qb_putF (kf := 19) (i := 77) (j := 86) (X' := xs_186) (ty := tyX12 19) o cf_X12 rfl rfl (Nat.le_of_ble_eq_true rfl) fl_X12_35 rfl rfl rfl (tyX12_ok 19 (by decide)) rfl rfl rfl (q_dm dm_X12_init 37 rfl) ?_
  refine qb_aload_n o (q_dm dm_X12_init 38 rfl) rfl ?_
  refine qb_bipush o (q_dm dm_X12_init 39 rfl) bi_16 ?_
  refine qb_newa0 (X' := xs_187) (i := 87) (n := 16) o ac_int (by decide) (by decide) (by decide) (fun _ => rfl) rfl rfl (by rw [hgN]; decide) (by decide) (by decide) (q_dm dm_X12_init 40 rfl) ?_
  refine qb_putF (kf := 20) (i := 77) (j := 87) (X' := xs_188) (ty := tyX12 20) o cf_X12 rfl rfl (Nat.le_of_ble_eq_true rfl) fl_X12_38 rfl rfl rfl (tyX12_ok 20 (by decide)) rfl rfl rfl (q_dm dm_X12_init 41 rfl) ?_
  refine qb_aload_n o (q_dm dm_X12_init 42 rfl) rfl ?_
  refine qb_bipush o (q_dm dm_X12_init 43 rfl) bi_16 ?_
  refine qb_newa0 (X' := xs_189) (i := 88) (n := 16) o ac_int (by decide) (by decide) (by decide) (fun _ => rfl) rfl rfl (by rw [hgN]; decide) (by decide) (by decide) (q_dm dm_X12_init 44 rfl) ?_
  refine qb_putF (kf := 21) (i := 77) (j := 88) (X' := xs_190) (ty := tyX12 21) o cf_X12 rfl rfl (Nat.le_of_ble_eq_true rfl) fl_X12_41 rfl rfl rfl (tyX12_ok 21 (by decide)) rfl rfl rfl (q_dm dm_X12_init 45 rfl) ?_
  refine qb_aload_n o (q_dm dm_X12_init 46 rfl) rfl ?_
  refine qb_bipush o (q_dm dm_X12_init 47 rfl) bi_16 ?_
  refine qb_newa0 (X' := xs_191) (i := 89) (n := 16) o ac_int (by decide) (by decide) (by decide) (fun _ => rfl) rfl rfl (by rw [hgN]; decide) (by decide) (by decide) (q_dm dm_X12_init 48 rfl) ?_
  refine qb_putF (kf := 22) (i := 77) (j := 89) (X' := xs_192) (ty := tyX12 22) o cf_X12 rfl rfl (Nat.le_of_ble_eq_true rfl) fl_X12_44 rfl rfl rfl (tyX12_ok 22 (by decide)) rfl rfl rfl (q_dm dm_X12_init 49 rfl) ?_
  refine qb_aload_n o (q_dm dm_X12_init 50 rfl) rfl ?_
  refine qb_bipush o (q_dm dm_X12_init 51 rfl) bi_16 ?_
  refine qb_newa0 (X' := xs_193) (i := 90) (n := 16) o ac_int (by decide) (by decide) (by decide) (fun _ => rfl) rfl rfl (by rw [hgN]; decide) (by decide) (by decide) (q_dm dm_X12_init 52 rfl) ?_
  refine qb_putF (kf := 23) (i := 77) (j := 90) (X' := xs_194) (ty := tyX12 23) o cf_X12 rfl rfl (Nat.le_of_ble_eq_true rfl) fl_X12_47 rfl rfl rfl (tyX12_ok 23 (by decide)) rfl rfl rfl (q_dm dm_X12_init 53 rfl) ?_
  refine qb_aload_n o (q_dm dm_X12_init 54 rfl) rfl ?_
  refine qb_sipush o (q_dm dm_X12_init 55 rfl) si_260 ?_
  refine qb_newa0 (X' := xs_195) (i := 91) (n := 260) o ac_int (by decide) (by decide) (by decide) (fun _ => rfl) rfl rfl (by rw [hgN]; decide) (by decide) (by decide) (q_dm dm_X12_init 56 rfl) ?_
  refine qb_putF (kf := 24) (i := 77) (j := 91) (X' := xs_196) (ty := tyX12 24) o cf_X12 rfl rfl (Nat.le_of_ble_eq_true rfl) fl_X12_50 rfl rfl rfl (tyX12_ok 24 (by decide)) rfl rfl rfl (q_dm dm_X12_init 57 rfl) ?_
  refine qb_aload_n o (q_dm dm_X12_init 58 rfl) rfl ?_
  refine qb_bipush o (q_dm dm_X12_init 59 rfl) bi_16 ?_
  refine qb_newa0 (X' := xs_197) (i := 92) (n := 16) o ac_int (by decide) (by decide) (by decide) (fun _ => rfl) rfl rfl (by rw [hgN]; decide) (by decide) (by decide) (q_dm dm_X12_init 60 rfl) ?_
  refine qb_putF (kf := 25) (i := 77) (j := 92) (X' := xs_198) (ty := tyX12 25) o cf_X12 rfl rfl (Nat.le_of_ble_eq_true rfl) fl_X12_53 rfl rfl rfl (tyX12_ok 25 (by decide)) rfl rfl rfl (q_dm dm_X12_init 61 rfl) ?_
  refine qb_aload_n o (q_dm dm_X12_init 62 rfl) rfl ?_
  refine qb_bipush o (q_dm dm_X12_init 63 rfl) bi_16 ?_
  refine qb_newa0 (X' := xs_199) (i := 93) (n := 16) o ac_int (by decide) (by decide) (by decide) (fun _ => rfl) rfl rfl (by rw [hgN]; decide) (by decide) (by decide) (q_dm dm_X12_init 64 rfl) ?_
  refine qb_putF (kf := 26) (i := 77) (j := 93) (X' := xs_200) (ty := tyX12 26) o cf_X12 rfl rfl (Nat.le_of_ble_eq_true rfl) fl_X12_56 rfl rfl rfl (tyX12_ok 26 (by decide)) rfl rfl rfl (q_dm dm_X12_init 65 rfl) ?_
  refine qb_aload_n o (q_dm dm_X12_init 66 rfl) rfl ?_
  refine qb_bipush o (q_dm dm_X12_init 67 rfl) bi_16 ?_
  refine qb_newa0 (X' := xs_201) (i := 94) (n := 16) o ac_int (by decide) (by decide) (by decide) (fun _ => rfl) rfl rfl (by rw [hgN]; decide) (by decide) (by decide) (q_dm dm_X12_init 68 rfl) ?_
  refine qb_putF (kf := 27) (i := 77) (j := 94) (X' := xs_202) (ty := tyX12 27) o cf_X12 rfl rfl (Nat.le_of_ble_eq_true rfl) fl_X12_59 rfl rfl rfl (tyX12_ok 27 (by decide)) rfl rfl rfl (q_dm dm_X12_init 69 rfl) ?_
  refine qb_aload_n o (q_dm dm_X12_init 70 rfl) rfl ?_
  refine qb_bipush o (q_dm dm_X12_init 71 rfl) bi_16 ?_
  refine qb_newa0 (X' := xs_203) (i := 95) (n := 16) o ac_int (by decide) (by decide) (by decide) (fun _ => rfl) rfl rfl (by rw [hgN]; decide) (by decide) (by decide) (q_dm dm_X12_init 72 rfl) ?_
  refine qb_putF (kf := 28) (i := 77) (j := 95) (X' := xs_204) (ty := tyX12 28) o cf_X12 rfl rfl (Nat.le_of_ble_eq_true rfl) fl_X12_62 rfl rfl rfl (tyX12_ok 28 (by decide)) rfl rfl rfl (q_dm dm_X12_init 73 rfl) ?_
  refine qb_aload_n o (q_dm dm_X12_init 74 rfl) rfl ?_
  refine qb_sipush o (q_dm dm_X12_init 75 rfl) si_260 ?_
  refine qb_newa0 (X' := xs_205) (i := 96) (n := 260) o ac_int (by decide) (by decide) (by decide) (fun _ => rfl) rfl rfl (by rw [hgN]; decide) (by decide) (by decide) (q_dm dm_X12_init 76 rfl) ?_
  refine qb_putF (kf := 29) (i := 77) (j := 96) (X' := xs_206) (ty := tyX12 29) o cf_X12 rfl rfl (Nat.le_of_ble_eq_true rfl) fl_X12_65 rfl rfl rfl (tyX12_ok 29 (by decide)) rfl rfl rfl (q_dm dm_X12_init 77 rfl) ?_
  refine qb_aload_n o (q_dm dm_X12_init 78 rfl) rfl ?_
  refine qb_bipush o (q_dm dm_X12_init 79 rfl) bi_12 ?_
  refine qb_newa0 (X' := xs_207) (i := 97) (n := 12) o ac_int (by decide) (by decide) (by decide) (fun _ => rfl) rfl rfl (by rw [hgN]; decide) (by decide) (by decide) (q_dm dm_X12_init 80 rfl) ?_
  refine qb_putF (kf := 30) (i := 77) (j := 97) (X' := xs_208) (ty := tyX12 30) o cf_X12 rfl rfl (Nat.le_of_ble_eq_true rfl) fl_X12_68 rfl rfl rfl (tyX12_ok 30 (by decide)) rfl rfl rfl (q_dm dm_X12_init 81 rfl) ?_
  refine qb_aload_n o (q_dm dm_X12_init 82 rfl) rfl ?_
  refine qb_bipush o (q_dm dm_X12_init 83 rfl) bi_40 ?_
  refine qb_newa0 (X' := xs_209) (i := 98) (n := 40) o ac_int (by decide) (by decide) (by decide) (fun _ => rfl) rfl rfl (by rw [hgN]; decide) (by decide) (by decide) (q_dm dm_X12_init 84 rfl) ?_
  refine qb_putF (kf := 31) (i := 77) (j := 98) (X' := xs_210) (ty := tyX12 31) o cf_X12 rfl rfl (Nat.le_of_ble_eq_true rfl) fl_X12_71 rfl rfl rfl (tyX12_ok 31 (by decide)) rfl rfl rfl (q_dm dm_X12_init 85 rfl) ?_
  refine qb_aload_n o (q_dm dm_X12_init 86 rfl) rfl ?_
  refine qb_bipush o (q_dm dm_X12_init 87 rfl) bi_40 ?_
  refine qb_newa0 (X' := xs_211) (i := 99) (n := 40) o ac_int (by decide) (by decide) (by decide) (fun _ => rfl) rfl rfl (by rw [hgN]; decide) (by decide) (by decide) (q_dm dm_X12_init 88 rfl) ?_
  refine qb_putF (kf := 32) (i := 77) (j := 99) (X' := xs_212) (ty := tyX12 32) o cf_X12 rfl rfl (Nat.le_of_ble_eq_true rfl) fl_X12_74 rfl rfl rfl (tyX12_ok 32 (by decide)) rfl rfl rfl (q_dm dm_X12_init 89 rfl) ?_
  refine qb_aload_n o (q_dm dm_X12_init 90 rfl) rfl ?_
  refine qb_iconst o (q_dm dm_X12_init 91 rfl) ic_3 ?_
  refine qb_newa0 (X' := xs_213) (i := 100) (n := 3) o ac_int (by decide) (by decide) (by decide) (fun _ => rfl) rfl rfl (by rw [hgN]; decide) (by decide) (by decide) (q_dm dm_X12_init 92 rfl) ?_
  refine qb_putF (kf := 33) (i := 77) (j := 100) (X' := xs_214) (ty := tyX12 33) o cf_X12 rfl rfl (Nat.le_of_ble_eq_true rfl) fl_X12_77 rfl rfl rfl (tyX12_ok 33 (by decide)) rfl rfl rfl (q_dm dm_X12_init 93 rfl) ?_
  refine qb_aload_n o (q_dm dm_X12_init 94 rfl) rfl ?_
  refine qb_iconst o (q_dm dm_X12_init 95 rfl) ic_3 ?_
  refine qb_newa0 (X' := xs_215) (i := 101) (n := 3) o ac_int (by decide) (by decide) (by decide) (fun _ => rfl) rfl rfl (by rw [hgN]; decide) (by decide) (by decide) (q_dm dm_X12_init 96 rfl) ?_
  refine qb_putF (kf := 34) (i := 77) (j := 101) (X' := xs_216) (ty := tyX12 34) o cf_X12 rfl rfl (Nat.le_of_ble_eq_true rfl) fl_X12_80 rfl rfl rfl (tyX12_ok 34 (by decide)) rfl rfl rfl (q_dm dm_X12_init 97 rfl) ?_
  refine qb_aload_n o (q_dm dm_X12_init 98 rfl) rfl ?_
  refine qb_bipush o (q_dm dm_X12_init 99 rfl) bi_20 ?_
  refine qb_newa0 (X' := xs_217) (i := 102) (n := 20) o ac_int (by decide) (by decide) (by decide) (fun _ => rfl) rfl rfl (by rw [hgN]; decide) (by decide) (by decide) (q_dm dm_X12_init 100 rfl) ?_
  refine qb_putF (kf := 45) (i := 77) (j := 102) (X' := xs_218) (ty := tyX12 45) o cf_X12 rfl rfl (Nat.le_of_ble_eq_true rfl) fl_X12_83 rfl rfl rfl (tyX12_ok 45 (by decide)) rfl rfl rfl (q_dm dm_X12_init 101 rfl) ?_
  refine qb_aload_n o (q_dm dm_X12_init 102 rfl) rfl ?_
  refine qb_bipush o (q_dm dm_X12_init 103 rfl) bi_20 ?_
  refine qb_newa0 (X' := xs_219) (i := 103) (n := 20) o ac_int (by decide) (by decide) (by decide) (fun _ => rfl) rfl rfl (by rw [hgN]; decide) (by decide) (by decide) (q_dm dm_X12_init 104 rfl) ?_
  refine qb_putF (kf := 46) (i := 77) (j := 103) (X' := xs_220) (ty := tyX12 46) o cf_X12 rfl rfl (Nat.le_of_ble_eq_true rfl) fl_X12_86 rfl rfl rfl (tyX12_ok 46 (by decide)) rfl rfl rfl (q_dm dm_X12_init 105 rfl) ?_
  refine qb_aload_n o (q_dm dm_X12_init 106 rfl) rfl ?_
  refine qb_bipush o (q_dm dm_X12_init 107 rfl) bi_20 ?_
  refine qb_newa0 (X' := xs_221) (i := 104) (n := 20) o ac_int (by decide) (by decide) (by decide) (fun _ => rfl) rfl rfl (by rw [hgN]; decide) (by decide) (by decide) (q_dm dm_X12_init 108 rfl) ?_
  refine qb_putF (kf := 47) (i := 77) (j := 104) (X' := xs_222) (ty := tyX12 47) o cf_X12 rfl rfl (Nat.le_of_ble_eq_true rfl) fl_X12_89 rfl rfl rfl (tyX12_ok 47 (by decide)) rfl rfl rfl (q_dm dm_X12_init 109 rfl) ?_
  refine qb_aload_n o (q_dm dm_X12_init 110 rfl) rfl ?_
  refine qb_iconst o (q_dm dm_X12_init 111 rfl) ic_4 ?_
  refine qb_newa0 (X' := xs_223) (i := 105) (n := 4) o ac_int (by decide) (by decide) (by decide) (fun _ => rfl) rfl rfl (by rw [hgN]; decide) (by decide) (by decide) (q_dm dm_X12_init 112 rfl) ?_
  refine qb_putF (kf := 48) (i := 77) (j := 105) (X' := xs_224) (ty := tyX12 48) o cf_X12 rfl rfl (Nat.le_of_ble_eq_true rfl) fl_X12_92 rfl rfl rfl (tyX12_ok 48 (by decide)) rfl rfl rfl (q_dm dm_X12_init 113 rfl) ?_
  refine qb_aload_n o (q_dm dm_X12_init 114 rfl) rfl ?_
  refine qb_iconst o (q_dm dm_X12_init 115 rfl) ic_4 ?_
  refine qb_newa0 (X' := xs_225) (i := 106) (n := 4) o ac_int (by decide) (by decide) (by decide) (fun _ => rfl) rfl rfl (by rw [hgN]; decide) (by decide) (by decide) (q_dm dm_X12_init 116 rfl) ?_
  refine qb_putF (kf := 49) (i := 77) (j := 106) (X' := xs_226) (ty := tyX12 49) o cf_X12 rfl rfl (Nat.le_of_ble_eq_true rfl) fl_X12_95 rfl rfl rfl (tyX12_ok 49 (by decide)) rfl rfl rfl (q_dm dm_X12_init 117 rfl) ?_
  refine qb_aload_n o (q_dm dm_X12_init 118 rfl) rfl ?_
  refine qb_iconst o (q_dm dm_X12_init 119 rfl) ic_4 ?_
  refine qb_newa0 (X' := xs_227) (i := 107) (n := 4) o ac_int (by decide) (by decide) (by decide) (fun _ => rfl) rfl rfl (by rw [hgN]; decide) (by decide) (by decide) (q_dm dm_X12_init 120 rfl) ?_
  refine qb_putF (kf := 50) (i := 77) (j := 107) (X' := xs_228) (ty := tyX12 50) o cf_X12 rfl rfl (Nat.le_of_ble_eq_true rfl) fl_X12_98 rfl rfl rfl (tyX12_ok 50 (by decide)) rfl rfl rfl (q_dm dm_X12_init 121 rfl) ?_
  refine qb_aload_n o (q_dm dm_X12_init 122 rfl) rfl ?_
  refine qb_iconst o (q_dm dm_X12_init 123 rfl) ic_4 ?_
  refine qb_newa0 (X' := xs_229) (i := 108) (n := 4) o ac_int (by decide) (by decide) (by decide) (fun _ => rfl) rfl rfl (by rw [hgN]; decide) (by decide) (by decide) (q_dm dm_X12_init 124 rfl) ?_
  refine qb_putF (kf := 51) (i := 77) (j := 108) (X' := xs_230) (ty := tyX12 51) o cf_X12 rfl rfl (Nat.le_of_ble_eq_true rfl) fl_X12_101 rfl rfl rfl (tyX12_ok 51 (by decide)) rfl rfl rfl (q_dm dm_X12_init 125 rfl) ?_
  refine qb_aload_n o (q_dm dm_X12_init 126 rfl) rfl ?_
  refine qb_iconst o (q_dm dm_X12_init 127 rfl) ic_4 ?_
  refine qb_newa0 (X' := xs_231) (i := 109) (n := 4) o ac_int (by decide) (by decide) (by decide) (fun _ => rfl) rfl rfl (by rw [hgN]; decide) (by decide) (by decide) (q_dm dm_X12_init 128 rfl) ?_
  refine qb_putF (kf := 52) (i := 77) (j := 109) (X' := xs_232) (ty := tyX12 52) o cf_X12 rfl rfl (Nat.le_of_ble_eq_true rfl) fl_X12_104 rfl rfl rfl (tyX12_ok 52 (by decide)) rfl rfl rfl (q_dm dm_X12_init 129 rfl) ?_
  refine qb_aload_n o (q_dm dm_X12_init 130 rfl) rfl ?_
  refine qb_ldc o (q_dm dm_X12_init 131 rfl) kc_X12_107 ?_
  refine qb_newa2 (X' := xs_233) (i := 110) (n := 160000) o ac_boolean (by decide) (by decide) (by decide) (fun _ => rfl) rfl rfl (by rw [hgN]; decide) (by decide) (by decide) (q_dm dm_X12_init 132 rfl) ?_
  refine qb_putF (kf := 53) (i := 77) (j := 110) (X' := xs_234) (ty := tyX12 53) o cf_X12 rfl rfl (Nat.le_of_ble_eq_true rfl) fl_X12_108 rfl rfl rfl (tyX12_ok 53 (by decide)) rfl rfl rfl (q_dm dm_X12_init 133 rfl) ?_
  refine qb_aload_n o (q_dm dm_X12_init 134 rfl) rfl ?_
  refine qb_bipush o (q_dm dm_X12_init 135 rfl) bi_8 ?_
  refine qb_newa0 (X' := xs_235) (i := 111) (n := 8) o ac_int (by decide) (by decide) (by decide) (fun _ => rfl) rfl rfl (by rw [hgN]; decide) (by decide) (by decide) (q_dm dm_X12_init 136 rfl) ?_
  refine qb_putF (kf := 54) (i := 77) (j := 111) (X' := xs_236) (ty := tyX12 54) o cf_X12 rfl rfl (Nat.le_of_ble_eq_true rfl) fl_X12_112 rfl rfl rfl (tyX12_ok 54 (by decide)) rfl rfl rfl (q_dm dm_X12_init 137 rfl) ?_
  refine qb_aload_n o (q_dm dm_X12_init 138 rfl) rfl ?_
  refine qb_iconst o (q_dm dm_X12_init 139 rfl) ic_3 ?_
  refine qb_newa0 (X' := xs_237) (i := 112) (n := 3) o ac_int (by decide) (by decide) (by decide) (fun _ => rfl) rfl rfl (by rw [hgN]; decide) (by decide) (by decide) (q_dm dm_X12_init 140 rfl) ?_
  refine qb_putF (kf := 55) (i := 77) (j := 112) (X' := xs_238) (ty := tyX12 55) o cf_X12 rfl rfl (Nat.le_of_ble_eq_true rfl) fl_X12_115 rfl rfl rfl (tyX12_ok 55 (by decide)) rfl rfl rfl (q_dm dm_X12_init 141 rfl) ?_
  refine qb_aload_n o (q_dm dm_X12_init 142 rfl) rfl ?_
  refine qb_bipush o (q_dm dm_X12_init 143 rfl) bi_12 ?_
  refine qb_newa0 (X' := xs_239) (i := 113) (n := 12) o ac_int (by decide) (by decide) (by decide) (fun _ => rfl) rfl rfl (by rw [hgN]; decide) (by decide) (by decide) (q_dm dm_X12_init 144 rfl) ?_
  refine qb_putF (kf := 56) (i := 77) (j := 113) (X' := xs_240) (ty := tyX12 56) o cf_X12 rfl rfl (Nat.le_of_ble_eq_true rfl) fl_X12_118 rfl rfl rfl (tyX12_ok 56 (by decide)) rfl rfl rfl (q_dm dm_X12_init 145 rfl) ?_
  refine qb_aload_n o (q_dm dm_X12_init 146 rfl) rfl ?_
  refine qb_bipush o (q_dm dm_X12_init 147 rfl) bi_12 ?_
  refine qb_newa0 (X' := xs_241) (i := 114) (n := 12) o ac_int (by decide) (by decide) (by decide) (fun _ => rfl) rfl rfl (by rw [hgN]; decide) (by decide) (by decide) (q_dm dm_X12_init 148 rfl) ?_
  refine qb_putF (kf := 57) (i := 77) (j := 114) (X' := xs_242) (ty := tyX12 57) o cf_X12 rfl rfl (Nat.le_of_ble_eq_true rfl) fl_X12_121 rfl rfl rfl (tyX12_ok 57 (by decide)) rfl rfl rfl (q_dm dm_X12_init 149 rfl) ?_
  refine qb_aload_n o (q_dm dm_X12_init 150 rfl) rfl ?_
  refine qb_bipush o (q_dm dm_X12_init 151 rfl) bi_12 ?_
  refine qb_newa0 (X' := xs_243) (i := 115) (n := 12) o ac_int (by decide) (by decide) (by decide) (fun _ => rfl) rfl rfl (by rw [hgN]; decide) (by decide) (by decide) (q_dm dm_X12_init 152 rfl) ?_
  refine qb_putF (kf := 58) (i := 77) (j := 115) (X' := xs_244) (ty := tyX12 58) o cf_X12 rfl rfl (Nat.le_of_ble_eq_true rfl) fl_X12_124 rfl rfl rfl (tyX12_ok 58 (by decide)) rfl rfl rfl (q_dm dm_X12_init 153 rfl) ?_
  refine qb_aload_n o (q_dm dm_X12_init 154 rfl) rfl ?_
  refine qb_iconst o (q_dm dm_X12_init 155 rfl) ic_4 ?_
  refine qb_newa0 (X' := xs_245) (i := 116) (n := 4) o ac_int (by decide) (by decide) (by decide) (fun _ => rfl) rfl rfl (by rw [hgN]; decide) (by decide) (by decide) (q_dm dm_X12_init 156 rfl) ?_
  refine qb_putF (kf := 62) (i := 77) (j := 116) (X' := xs_246) (ty := tyX12 62) o cf_X12 rfl rfl (Nat.le_of_ble_eq_true rfl) fl_X12_127 rfl rfl rfl (tyX12_ok 62 (by decide)) rfl rfl rfl (q_dm dm_X12_init 157 rfl) ?_
  refine qb_aload_n o (q_dm dm_X12_init 158 rfl) rfl ?_
  refine qb_iconst o (q_dm dm_X12_init 159 rfl) ic_4 ?_
  refine qb_newa0 (X' := xs_247) (i := 117) (n := 4) o ac_int (by decide) (by decide) (by decide) (fun _ => rfl) rfl rfl (by rw [hgN]; decide) (by decide) (by decide) (q_dm dm_X12_init 160 rfl) ?_
  refine qb_putF (kf := 63) (i := 77) (j := 117) (X' := xs_248) (ty := tyX12 63) o cf_X12 rfl rfl (Nat.le_of_ble_eq_true rfl) fl_X12_130 rfl rfl rfl (tyX12_ok 63 (by decide)) rfl rfl rfl (q_dm dm_X12_init 161 rfl) ?_
  refine qb_aload_n o (q_dm dm_X12_init 162 rfl) rfl ?_
  refine qb_iconst o (q_dm dm_X12_init 163 rfl) ic_4 ?_
  refine qb_newa0 (X' := xs_249) (i := 118) (n := 4) o ac_int (by decide) (by decide) (by decide) (fun _ => rfl) rfl rfl (by rw [hgN]; decide) (by decide) (by decide) (q_dm dm_X12_init 164 rfl) ?_
  refine qb_putF (kf := 64) (i := 77) (j := 118) (X' := xs_250) (ty := tyX12 64) o cf_X12 rfl rfl (Nat.le_of_ble_eq_true rfl) fl_X12_133 rfl rfl rfl (tyX12_ok 64 (by decide)) rfl rfl rfl (q_dm dm_X12_init 165 rfl) ?_
  refine qb_aload_n o (q_dm dm_X12_init 166 rfl) rfl ?_
  refine qb_sipush o (q_dm dm_X12_init 167 rfl) si_256 ?_
  refine qb_newa2 (X' := xs_251) (i := 119) (n := 256) o ac_boolean (by decide) (by decide) (by decide) (fun _ => rfl) rfl rfl (by rw [hgN]; decide) (by decide) (by decide) (q_dm dm_X12_init 168 rfl) ?_
  refine qb_putF (kf := 65) (i := 77) (j := 119) (X' := xs_252) (ty := tyX12 65) o cf_X12 rfl rfl (Nat.le_of_ble_eq_true rfl) fl_X12_136 rfl rfl rfl (tyX12_ok 65 (by decide)) rfl rfl rfl (q_dm dm_X12_init 169 rfl) ?_
  refine qb_aload_n o (q_dm dm_X12_init 170 rfl) rfl ?_
  refine qb_sipush o (q_dm dm_X12_init 171 rfl) si_2048 ?_
  refine qb_newa2 (X' := xs_253) (i := 120) (n := 2048) o ac_boolean (by decide) (by decide) (by decide) (fun _ => rfl) rfl rfl (by rw [hgN]; decide) (by decide) (by decide) (q_dm dm_X12_init 172 rfl) ?_
  refine qb_putF (kf := 66) (i := 77) (j := 120) (X' := xs_254) (ty := tyX12 66) o cf_X12 rfl rfl (Nat.le_of_ble_eq_true rfl) fl_X12_139 rfl rfl rfl (tyX12_ok 66 (by decide)) rfl rfl rfl (q_dm dm_X12_init 173 rfl) ?_
  exact h
def f_model (n : Nat) (M : qM) : qR := f_X12_init_349 n n (0 : Int32) M
theorem k_model_t {g : qG} {k : qK} (n : Nat) (oD : qOk g 1 zX12_init k) : qAE g k zX12_init (qL 37 46) 347 [some (.inr (some 77)), none] [] (qL 37 46, q0) (f_model n q0) := by
  unfold f_model
  refine qr_iconst oD (q_dm dm_X12_init 174 rfl) ic_0 ?_
  refine qs_istore_n (L' := [some (.inr (some 77)), some (.inl (0 : Int32))]) oD (q_dm dm_X12_init 175 rfl) (Nat.le_of_ble_eq_true rfl) rfl ?_
  exact w_X12_init_349 n 37 46 (Or.inl rfl) (Or.inr rfl) oD n (0 : Int32) q0
/-- the model's constructor -/
theorem k_model (g : qG) (hgN : g.2.2.2.2.1 = 121) (l : Launch) (n : Nat) (M' : qM) (hE : f_model n q0 = some (0, M')) : Met l zX12_init.1 (q_wy zX12_init) { frames := 2, cells := 43, slots := 166870, locals := 128 } (va_Pc ([.inr (some 77)].map (q_v g.2.2.1)) (q_IB g (xs_168, q0))) (q_QC g zX12_init 0 (qL 37 46, M')) 43 166870 g.2.2.2.1 := by
  have hZ := zi_X12_init
  refine Met.ofW (cc := zX12_init.2.1) (maxL := zX12_init.2.2.1) (ret := zX12_init.2.2.2) hZ.1.2.2.1 rfl ?_
  intro p e s m args below meth c s₁ B hml hv
  obtain ⟨rfl, hZs, hN, hP, hK, hRO, hNB, hB, hDD⟩ := hv
  have hts := atoms_spec (ws := q_wy zX12_init) B.pre
  have hown : s.vm.findClass zX12_init.1.cls = some m.cls := findClass_of_methodNamed B.named
  have hlocks := B.notSynchronized
  have hr := B.returns
  have hin : meth.name = zX12_init.1.name := (name_of_methodNamed B.named B.method).1
  have hl := lv_entry (([.inr (some 77)] : List qV).map (q_v g.2.2.1)) (n := zX12_init.2.2.1) (by rw [q_sl_len]; decide)
  rw [lg_entry_eq]
  generalize (lg_sl (([.inr (some 77)] : List qV).map (q_v g.2.2.1)) ++ List.replicate (zX12_init.2.2.1 - (lg_sl (([.inr (some 77)] : List qV).map (q_v g.2.2.1))).length) Slot.unset).toArray = ls at hl ⊢
  have hl2 : lv_has ls zX12_init.2.2.1 (q_l g.2.2.1 0 [some (.inr (some 77)), none]) := hl
  have o : qOB g zX12_init 2 128 43 166870 (p, l, e, (headSpec (q_wy zX12_init) { frames := 2, cells := 43, slots := 166870, locals := 128 }).room, s, m, (([.inr (some 77)] : List qV).map (q_v g.2.2.1)).toArray, below, meth, c, 0, 0, MQ below (q_QC g zX12_init 0 (qL 37 46, M')) (([.inr (some 77)] : List qV).map (q_v g.2.2.1)).toArray s 43 166870 g.2.2.2.1) :=
    ⟨B.exec, B.bytes, hml, hown, fun w hw => hts w (List.mem_cons_of_mem _ hw), hr, hlocks, hK, hRO, hNB, hB, hDD, hin, Nat.le_refl _, Nat.le_refl _, Nat.le_refl _, Nat.le_refl _⟩
  have oD := q_ok_of (d := 1) (cs := 43) (sl := 166870) o (by decide) (by decide) (Nat.le_refl _) (Nat.le_refl _)
  refine k_model_a hgN (st9 := (qL 0 0 ++ qL 0 0, q0)) (mc := 43) (ms := 166870) o (fun _ => qb_ae ?_) (fun H locs ls2 pc hZ2 hN2 hP2 hS2 hdg => ?_) s.heap [] ls hZs hN hP va_S.rf hl2
  · refine k_model_t n oD 0 M' hE ?_
    intro H locs ls2 pc hN2 hP2 hS2 hdg
    exact W.vret B.exec B.bytes hr (fun t ht hW => ⟨⟨rfl, hN2, by rw [ht]; exact hP2⟩, hS2.F ht⟩) hS2.2.2 hdg
  · rw [hgN] at hN2
    have h9 : (qL 0 0 ++ qL 0 0).length = 242 := by rw [List.length_append, qL_len]
    have h8 : (qL 0 0 ++ qL 0 0).length ≤ 121 := hN2
    omega
