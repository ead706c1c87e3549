def tb_X12_game : List (Nat × Instr × Nat) := [(0, (.iload_n 1, 1)), (1, (.iconst 0, 1)), (2, (.bipush 7, 2)), (4, (.invokestatic 153, 3)), (7, (.ifCond .eq 33, 3)), (10, (.iload_n 2, 1)), (11, (.iconst 0, 1)), (12, (.bipush 7, 2)), (14, (.invokestatic 153, 3)), (17, (.ifCond .eq 23, 3)), (20, (.iload_n 3, 1)), (21, (.iconst 0, 1)), (22, (.bipush 7, 2)), (24, (.invokestatic 153, 3)), (27, (.ifCond .eq 13, 3)), (30, (.iload 6, 2)), (32, (.iconst 0, 1)), (33, (.iconst 1, 1)), (34, (.invokestatic 153, 3)), (37, (.ifCond .ne 5, 3)), (40, (.iconst (-1), 1)), (41, (.ireturn, 1)), (42, (.bipush 64, 2)), (44, (.iload_n 1, 1)), (45, (.imul, 1)), (46, (.bipush 8, 2)), (48, (.iload_n 2, 1)), (49, (.imul, 1)), (50, (.iadd, 1)), (51, (.iload_n 3, 1)), (52, (.iadd, 1)), (53, (.istore 7, 2)), (55, (.iconst 0, 1)), (56, (.istore 8, 2)), (58, (.iload 8, 2)), (60, (.iload 7, 2)), (62, (.if_icmp .gt 125, 3)), (65, (.aload_n 0, 1)), (66, (.getfield 139, 3)), (69, (.iload 8, 2)), (71, (.iconst 1, 1)), (72, (.iconst 1, 1)), (73, (.invokestatic 475, 3)), (76, (.aload_n 0, 1)), (77, (.iload 8, 2)), (79, (.iconst 1, 1)), (80, (.iconst 1, 1)), (81, (.invokevirtual 486, 3)), (84, (.iconst (-1), 1)), (85, (.if_icmp .eq 7, 3)), (88, (.iconst 1, 1)), (89, (.goto 4, 3)), (92, (.iconst 0, 1)), (93, (.bastore, 1)), (94, (.aload_n 0, 1)), (95, (.getfield 139, 3)), (98, (.iload 8, 2)), (100, (.iconst 0, 1)), (101, (.iconst 1, 1)), (102, (.invokestatic 475, 3)), (105, (.aload_n 0, 1)), (106, (.iload 8, 2)), (108, (.iconst 0, 1)), (109, (.iconst 1, 1)), (110, (.invokevirtual 486, 3)), (113, (.iconst (-1), 1)), (114, (.if_icmp .eq 7, 3)), (117, (.iconst 1, 1)), (118, (.goto 4, 3)), (121, (.iconst 0, 1)), (122, (.bastore, 1)), (123, (.aload_n 0, 1)), (124, (.getfield 139, 3)), (127, (.iload 8, 2)), (129, (.iconst 1, 1)), (130, (.iconst 0, 1)), (131, (.invokestatic 475, 3)), (134, (.aload_n 0, 1)), (135, (.iload 8, 2)), (137, (.iconst 1, 1)), (138, (.iconst 0, 1)), (139, (.invokevirtual 486, 3)), (142, (.iconst (-1), 1)), (143, (.if_icmp .eq 7, 3)), (146, (.iconst 1, 1)), (147, (.goto 4, 3)), (150, (.iconst 0, 1)), (151, (.bastore, 1)), (152, (.aload_n 0, 1)), (153, (.getfield 139, 3)), (156, (.iload 8, 2)), (158, (.iconst 0, 1)), (159, (.iconst 0, 1)), (160, (.invokestatic 475, 3)), (163, (.aload_n 0, 1)), (164, (.iload 8, 2)), (166, (.iconst 0, 1)), (167, (.iconst 0, 1)), (168, (.invokevirtual 486, 3)), (171, (.iconst (-1), 1)), (172, (.if_icmp .eq 7, 3)), (175, (.iconst 1, 1)), (176, (.goto 4, 3)), (179, (.iconst 0, 1)), (180, (.bastore, 1)), (181, (.iinc 8 1, 3)), (184, (.goto (-126), 3)), (187, (.aload_n 0, 1)), (188, (.iload 7, 2)), (190, (.iload 4, 2)), (192, (.iload 5, 2)), (194, (.invokevirtual 486, 3)), (197, (.istore 8, 2)), (199, (.iload 6, 2)), (201, (.ifCond .ne 17, 3)), (204, (.iload 8, 2)), (206, (.iconst (-1), 1)), (207, (.if_icmp .ne 7, 3)), (210, (.iconst 0, 1)), (211, (.goto 20, 3)), (214, (.iconst 1, 1)), (215, (.goto 16, 3)), (218, (.iload 8, 2)), (220, (.iconst (-1), 1)), (221, (.if_icmp .ne 8, 3)), (224, (.bipush (-2), 2)), (226, (.goto 5, 3)), (229, (.iload 8, 2)), (231, (.ireturn, 1))]
theorem dm_X12_game : ∀ q ∈ tb_X12_game, decode zX12_game.2.1 q.1 = .ok q.2 := by decide +kernel
def f_X12_game_151 (n : Nat) (K58 : Int32 → Int32 → Int32 → Int32 → Int32 → qM → qR) (a4 a5 a6 a7 a8 s1 s2 : Int32) (M : qM) : qR :=
  qg s1 2048 (qlm (mu M 120 s1.toNatClampNeg (vp_nar .boolean s2)) (fun m1 => qc (f_X12_gameState n a8 (0 : Int32) (0 : Int32) m1) (fun r2 m3 => qc (f_X12_winningMove n a8 (0 : Int32) (0 : Int32) m3) (fun r4 m5 => (if r4 = (-1 : Int32) then qg r2 2048 (qlm (mu m5 120 r2.toNatClampNeg (vp_nar .boolean (0 : Int32))) (fun m6 => ql (a8 + (1 : Int32)) (fun x7 => K58 a4 a5 a6 a7 x7 m6))) else qg r2 2048 (qlm (mu m5 120 r2.toNatClampNeg (vp_nar .boolean (1 : Int32))) (fun m8 => ql (a8 + (1 : Int32)) (fun x9 => K58 a4 a5 a6 a7 x9 m8))))))))
set_option maxRecDepth 4000 in
theorem w_X12_game_151 {g : qG} {k : qK} (n : Nat) (j r : Nat) (hj : q_isLaw j) (hr : q_isLaw r) (o : qOk g 3 zX12_game k) (K58 : Int32 → Int32 → Int32 → Int32 → Int32 → qM → qR) (hK58 : ∀ (a4 a5 a6 a7 a8 : Int32) (M : qM), qAE g k zX12_game (qL j r) 58 [some (.inr (some 77)), none, none, none, some (.inl a4), some (.inl a5), some (.inl a6), some (.inl a7), some (.inl a8)] [] (qL j r, M) (K58 a4 a5 a6 a7 a8 M)) (a4 a5 a6 a7 a8 s1 s2 : Int32) (M : qM) : qAE g k zX12_game (qL j r) 151 [some (.inr (some 77)), none, none, none, some (.inl a4), some (.inl a5), some (.inl a6), some (.inl a7), some (.inl a8)] [.inl s2, .inl s1, .inr (some 120)] (qL j r, M) (f_X12_game_151 n K58 a4 a5 a6 a7 a8 s1 s2 M) := by
  unfold f_X12_game_151
  refine qr_zast o (sh120 j r) (q_dm dm_X12_game 87 rfl) ?_
  refine qr_letm (fun m1 => ?_)
  refine qr_aload_n o (q_dm dm_X12_game 88 rfl) rfl ?_
  refine qr_getr (kf := 66) o cf_X12 (sh77 j r) rfl (Nat.le_of_ble_eq_true rfl) fl_X12_139 (q_dm dm_X12_game 89 rfl) ?_
  refine qr_iload o (q_dm dm_X12_game 90 rfl) rfl ?_
  refine qr_iconst o (q_dm dm_X12_game 91 rfl) ic_0 ?_
  refine qr_iconst o (q_dm dm_X12_game 92 rfl) ic_0 ?_
  refine qr_calls_i (As := [.inl a8, .inl (0 : Int32), .inl (0 : Int32)]) (S := [.inr (some 120)]) o (a_X12_gameState g k.2.1 n j r hj hr a8 (0 : Int32) (0 : Int32) m1) (Nat.le_of_ble_eq_true rfl) zs_X12_gameState rfl ml_X12_475 (Nat.le_of_ble_eq_true rfl) (q_dm dm_X12_game 93 rfl) (fun r2 m3 => ?_)
  refine qr_aload_n o (q_dm dm_X12_game 94 rfl) rfl ?_
  refine qr_iload o (q_dm dm_X12_game 95 rfl) rfl ?_
  refine qr_iconst o (q_dm dm_X12_game 96 rfl) ic_0 ?_
  refine qr_iconst o (q_dm dm_X12_game 97 rfl) ic_0 ?_
  refine qr_callv_i (As := [.inl a8, .inl (0 : Int32), .inl (0 : Int32)]) (S := [.inl r2, .inr (some 120)]) o (a_X12_winningMove g k.2.1 n j r hj hr a8 (0 : Int32) (0 : Int32) m3) (Nat.le_of_ble_eq_true rfl) zv_X12_winningMove rfl cf_X12 (sh77 j r) ml_X12_486 (Nat.le_of_ble_eq_true rfl) (q_dm dm_X12_game 98 rfl) (fun r4 m5 => ?_)
  refine qr_iconst o (q_dm dm_X12_game 99 rfl) ic_m1 ?_
  refine qr_icmp_eq (tgt := 179) o (q_dm dm_X12_game 100 rfl) (by decide) ?_ ?_
  · refine qr_iconst o (q_dm dm_X12_game 103 rfl) ic_0 ?_
    refine qr_zast o (sh120 j r) (q_dm dm_X12_game 104 rfl) ?_
    refine qr_letm (fun m6 => ?_)
    refine qs_iincl2 (L' := fun x7 => [some (.inr (some 77)), none, none, none, some (.inl a4), some (.inl a5), some (.inl a6), some (.inl a7), some (.inl x7)]) o (q_dm dm_X12_game 105 rfl) rfl ic_1 (Nat.le_of_ble_eq_true rfl) (fun _ => rfl) (fun x7 => ?_)
    refine qr_goto (tgt := 58) o (q_dm dm_X12_game 106 rfl) (by decide) ?_
    exact qr_loc (q_leS (q_leN (q_leN (q_leN (q_leS (q_leS (q_leS (q_leS (q_leS q_le0))))))))) (hK58 a4 a5 a6 a7 x7 m6)
  · refine qr_iconst o (q_dm dm_X12_game 101 rfl) ic_1 ?_
    refine qr_goto (tgt := 180) o (q_dm dm_X12_game 102 rfl) (by decide) ?_
    refine qr_zast o (sh120 j r) (q_dm dm_X12_game 104 rfl) ?_
    refine qr_letm (fun m8 => ?_)
    refine qs_iincl2 (L' := fun x9 => [some (.inr (some 77)), none, none, none, some (.inl a4), some (.inl a5), some (.inl a6), some (.inl a7), some (.inl x9)]) o (q_dm dm_X12_game 105 rfl) rfl ic_1 (Nat.le_of_ble_eq_true rfl) (fun _ => rfl) (fun x9 => ?_)
    refine qr_goto (tgt := 58) o (q_dm dm_X12_game 106 rfl) (by decide) ?_
    exact qr_loc (q_leS (q_leN (q_leN (q_leN (q_leS (q_leS (q_leS (q_leS (q_leS q_le0))))))))) (hK58 a4 a5 a6 a7 x9 m8)

def f_X12_game_122 (n : Nat) (K58 : Int32 → Int32 → Int32 → Int32 → Int32 → qM → qR) (a4 a5 a6 a7 a8 s1 s2 : Int32) (M : qM) : qR :=
  qg s1 2048 (qlm (mu M 120 s1.toNatClampNeg (vp_nar .boolean s2)) (fun m1 => qc (f_X12_gameState n a8 (1 : Int32) (0 : Int32) m1) (fun r2 m3 => qc (f_X12_winningMove n a8 (1 : Int32) (0 : Int32) m3) (fun r4 m5 => (if r4 = (-1 : Int32) then f_X12_game_151 n K58 a4 a5 a6 a7 a8 r2 (0 : Int32) m5 else f_X12_game_151 n K58 a4 a5 a6 a7 a8 r2 (1 : Int32) m5)))))
set_option maxRecDepth 4000 in
theorem w_X12_game_122 {g : qG} {k : qK} (n : Nat) (j r : Nat) (hj : q_isLaw j) (hr : q_isLaw r) (o : qOk g 3 zX12_game k) (K58 : Int32 → Int32 → Int32 → Int32 → Int32 → qM → qR) (hK58 : ∀ (a4 a5 a6 a7 a8 : Int32) (M : qM), qAE g k zX12_game (qL j r) 58 [some (.inr (some 77)), none, none, none, some (.inl a4), some (.inl a5), some (.inl a6), some (.inl a7), some (.inl a8)] [] (qL j r, M) (K58 a4 a5 a6 a7 a8 M)) (a4 a5 a6 a7 a8 s1 s2 : Int32) (M : qM) : qAE g k zX12_game (qL j r) 122 [some (.inr (some 77)), none, none, none, some (.inl a4), some (.inl a5), some (.inl a6), some (.inl a7), some (.inl a8)] [.inl s2, .inl s1, .inr (some 120)] (qL j r, M) (f_X12_game_122 n K58 a4 a5 a6 a7 a8 s1 s2 M) := by
  unfold f_X12_game_122
  refine qr_zast o (sh120 j r) (q_dm dm_X12_game 70 rfl) ?_
  refine qr_letm (fun m1 => ?_)
  refine qr_aload_n o (q_dm dm_X12_game 71 rfl) rfl ?_
  refine qr_getr (kf := 66) o cf_X12 (sh77 j r) rfl (Nat.le_of_ble_eq_true rfl) fl_X12_139 (q_dm dm_X12_game 72 rfl) ?_
  refine qr_iload o (q_dm dm_X12_game 73 rfl) rfl ?_
  refine qr_iconst o (q_dm dm_X12_game 74 rfl) ic_1 ?_
  refine qr_iconst o (q_dm dm_X12_game 75 rfl) ic_0 ?_
  refine qr_calls_i (As := [.inl a8, .inl (1 : Int32), .inl (0 : Int32)]) (S := [.inr (some 120)]) o (a_X12_gameState g k.2.1 n j r hj hr a8 (1 : Int32) (0 : Int32) m1) (Nat.le_of_ble_eq_true rfl) zs_X12_gameState rfl ml_X12_475 (Nat.le_of_ble_eq_true rfl) (q_dm dm_X12_game 76 rfl) (fun r2 m3 => ?_)
  refine qr_aload_n o (q_dm dm_X12_game 77 rfl) rfl ?_
  refine qr_iload o (q_dm dm_X12_game 78 rfl) rfl ?_
  refine qr_iconst o (q_dm dm_X12_game 79 rfl) ic_1 ?_
  refine qr_iconst o (q_dm dm_X12_game 80 rfl) ic_0 ?_
  refine qr_callv_i (As := [.inl a8, .inl (1 : Int32), .inl (0 : Int32)]) (S := [.inl r2, .inr (some 120)]) o (a_X12_winningMove g k.2.1 n j r hj hr a8 (1 : Int32) (0 : Int32) m3) (Nat.le_of_ble_eq_true rfl) zv_X12_winningMove rfl cf_X12 (sh77 j r) ml_X12_486 (Nat.le_of_ble_eq_true rfl) (q_dm dm_X12_game 81 rfl) (fun r4 m5 => ?_)
  refine qr_iconst o (q_dm dm_X12_game 82 rfl) ic_m1 ?_
  refine qr_icmp_eq (tgt := 150) o (q_dm dm_X12_game 83 rfl) (by decide) ?_ ?_
  · refine qr_iconst o (q_dm dm_X12_game 86 rfl) ic_0 ?_
    exact qr_loc (q_leS (q_leN (q_leN (q_leN (q_leS (q_leS (q_leS (q_leS (q_leS q_le0))))))))) (w_X12_game_151 n j r hj hr o K58 hK58 a4 a5 a6 a7 a8 r2 (0 : Int32) m5)
  · refine qr_iconst o (q_dm dm_X12_game 84 rfl) ic_1 ?_
    refine qr_goto (tgt := 151) o (q_dm dm_X12_game 85 rfl) (by decide) ?_
    exact qr_loc (q_leS (q_leN (q_leN (q_leN (q_leS (q_leS (q_leS (q_leS (q_leS q_le0))))))))) (w_X12_game_151 n j r hj hr o K58 hK58 a4 a5 a6 a7 a8 r2 (1 : Int32) m5)

def f_X12_game_93 (n : Nat) (K58 : Int32 → Int32 → Int32 → Int32 → Int32 → qM → qR) (a4 a5 a6 a7 a8 s1 s2 : Int32) (M : qM) : qR :=
  qg s1 2048 (qlm (mu M 120 s1.toNatClampNeg (vp_nar .boolean s2)) (fun m1 => qc (f_X12_gameState n a8 (0 : Int32) (1 : Int32) m1) (fun r2 m3 => qc (f_X12_winningMove n a8 (0 : Int32) (1 : Int32) m3) (fun r4 m5 => (if r4 = (-1 : Int32) then f_X12_game_122 n K58 a4 a5 a6 a7 a8 r2 (0 : Int32) m5 else f_X12_game_122 n K58 a4 a5 a6 a7 a8 r2 (1 : Int32) m5)))))
set_option maxRecDepth 4000 in
theorem w_X12_game_93 {g : qG} {k : qK} (n : Nat) (j r : Nat) (hj : q_isLaw j) (hr : q_isLaw r) (o : qOk g 3 zX12_game k) (K58 : Int32 → Int32 → Int32 → Int32 → Int32 → qM → qR) (hK58 : ∀ (a4 a5 a6 a7 a8 : Int32) (M : qM), qAE g k zX12_game (qL j r) 58 [some (.inr (some 77)), none, none, none, some (.inl a4), some (.inl a5), some (.inl a6), some (.inl a7), some (.inl a8)] [] (qL j r, M) (K58 a4 a5 a6 a7 a8 M)) (a4 a5 a6 a7 a8 s1 s2 : Int32) (M : qM) : qAE g k zX12_game (qL j r) 93 [some (.inr (some 77)), none, none, none, some (.inl a4), some (.inl a5), some (.inl a6), some (.inl a7), some (.inl a8)] [.inl s2, .inl s1, .inr (some 120)] (qL j r, M) (f_X12_game_93 n K58 a4 a5 a6 a7 a8 s1 s2 M) := by
  unfold f_X12_game_93
  refine qr_zast o (sh120 j r) (q_dm dm_X12_game 53 rfl) ?_
  refine qr_letm (fun m1 => ?_)
  refine qr_aload_n o (q_dm dm_X12_game 54 rfl) rfl ?_
  refine qr_getr (kf := 66) o cf_X12 (sh77 j r) rfl (Nat.le_of_ble_eq_true rfl) fl_X12_139 (q_dm dm_X12_game 55 rfl) ?_
  refine qr_iload o (q_dm dm_X12_game 56 rfl) rfl ?_
  refine qr_iconst o (q_dm dm_X12_game 57 rfl) ic_0 ?_
  refine qr_iconst o (q_dm dm_X12_game 58 rfl) ic_1 ?_
  refine qr_calls_i (As := [.inl a8, .inl (0 : Int32), .inl (1 : Int32)]) (S := [.inr (some 120)]) o (a_X12_gameState g k.2.1 n j r hj hr a8 (0 : Int32) (1 : Int32) m1) (Nat.le_of_ble_eq_true rfl) zs_X12_gameState rfl ml_X12_475 (Nat.le_of_ble_eq_true rfl) (q_dm dm_X12_game 59 rfl) (fun r2 m3 => ?_)
  refine qr_aload_n o (q_dm dm_X12_game 60 rfl) rfl ?_
  refine qr_iload o (q_dm dm_X12_game 61 rfl) rfl ?_
  refine qr_iconst o (q_dm dm_X12_game 62 rfl) ic_0 ?_
  refine qr_iconst o (q_dm dm_X12_game 63 rfl) ic_1 ?_
  refine qr_callv_i (As := [.inl a8, .inl (0 : Int32), .inl (1 : Int32)]) (S := [.inl r2, .inr (some 120)]) o (a_X12_winningMove g k.2.1 n j r hj hr a8 (0 : Int32) (1 : Int32) m3) (Nat.le_of_ble_eq_true rfl) zv_X12_winningMove rfl cf_X12 (sh77 j r) ml_X12_486 (Nat.le_of_ble_eq_true rfl) (q_dm dm_X12_game 64 rfl) (fun r4 m5 => ?_)
  refine qr_iconst o (q_dm dm_X12_game 65 rfl) ic_m1 ?_
  refine qr_icmp_eq (tgt := 121) o (q_dm dm_X12_game 66 rfl) (by decide) ?_ ?_
  · refine qr_iconst o (q_dm dm_X12_game 69 rfl) ic_0 ?_
    exact qr_loc (q_leS (q_leN (q_leN (q_leN (q_leS (q_leS (q_leS (q_leS (q_leS q_le0))))))))) (w_X12_game_122 n j r hj hr o K58 hK58 a4 a5 a6 a7 a8 r2 (0 : Int32) m5)
  · refine qr_iconst o (q_dm dm_X12_game 67 rfl) ic_1 ?_
    refine qr_goto (tgt := 122) o (q_dm dm_X12_game 68 rfl) (by decide) ?_
    exact qr_loc (q_leS (q_leN (q_leN (q_leN (q_leS (q_leS (q_leS (q_leS (q_leS q_le0))))))))) (w_X12_game_122 n j r hj hr o K58 hK58 a4 a5 a6 a7 a8 r2 (1 : Int32) m5)

def b_X12_game_58 (n : Nat) (K58 : Int32 → Int32 → Int32 → Int32 → Int32 → qM → qR) (a4 a5 a6 a7 a8 : Int32) (M : qM) : qR :=
  (if a7 < a8 then qc (f_X12_winningMove n a7 a4 a5 M) (fun r1 m2 => (if a6 = (0 : Int32) then (if r1 = (-1 : Int32) then some ((0 : Int32), m2) else some ((1 : Int32), m2)) else (if r1 = (-1 : Int32) then some ((-2 : Int32), m2) else some (r1, m2)))) else qc (f_X12_gameState n a8 (1 : Int32) (1 : Int32) M) (fun r3 m4 => qc (f_X12_winningMove n a8 (1 : Int32) (1 : Int32) m4) (fun r5 m6 => (if r5 = (-1 : Int32) then f_X12_game_93 n K58 a4 a5 a6 a7 a8 r3 (0 : Int32) m6 else f_X12_game_93 n K58 a4 a5 a6 a7 a8 r3 (1 : Int32) m6))))
set_option maxRecDepth 4000 in
theorem wb_X12_game_58 {g : qG} {k : qK} (n : Nat) (j r : Nat) (hj : q_isLaw j) (hr : q_isLaw r) (o : qOk g 3 zX12_game k) (K58 : Int32 → Int32 → Int32 → Int32 → Int32 → qM → qR) (hK58 : ∀ (a4 a5 a6 a7 a8 : Int32) (M : qM), qAE g k zX12_game (qL j r) 58 [some (.inr (some 77)), none, none, none, some (.inl a4), some (.inl a5), some (.inl a6), some (.inl a7), some (.inl a8)] [] (qL j r, M) (K58 a4 a5 a6 a7 a8 M)) (a4 a5 a6 a7 a8 : Int32) (M : qM) : qAE g k zX12_game (qL j r) 58 [some (.inr (some 77)), none, none, none, some (.inl a4), some (.inl a5), some (.inl a6), some (.inl a7), some (.inl a8)] [] (qL j r, M) (b_X12_game_58 n K58 a4 a5 a6 a7 a8 M) := by
  unfold b_X12_game_58
  refine qr_iload o (q_dm dm_X12_game 34 rfl) rfl ?_
  refine qr_iload o (q_dm dm_X12_game 35 rfl) rfl ?_
  refine qr_icmp_gt (tgt := 187) o (q_dm dm_X12_game 36 rfl) (by decide) ?_ ?_
  · refine qr_aload_n o (q_dm dm_X12_game 107 rfl) rfl ?_
    refine qr_iload o (q_dm dm_X12_game 108 rfl) rfl ?_
    refine qr_iload o (q_dm dm_X12_game 109 rfl) rfl ?_
    refine qr_iload o (q_dm dm_X12_game 110 rfl) rfl ?_
    refine qr_callv_i (As := [.inl a7, .inl a4, .inl a5]) (S := []) o (a_X12_winningMove g k.2.1 n j r hj hr a7 a4 a5 M) (Nat.le_of_ble_eq_true rfl) zv_X12_winningMove rfl cf_X12 (sh77 j r) ml_X12_486 (Nat.le_of_ble_eq_true rfl) (q_dm dm_X12_game 111 rfl) (fun r1 m2 => ?_)
    refine qs_istore (L' := [some (.inr (some 77)), none, none, none, some (.inl a4), some (.inl a5), some (.inl a6), some (.inl a7), some (.inl r1)]) o (q_dm dm_X12_game 112 rfl) (Nat.le_of_ble_eq_true rfl) rfl ?_
    refine qr_iload o (q_dm dm_X12_game 113 rfl) rfl ?_
    refine qr_if_ne (tgt := 218) o (q_dm dm_X12_game 114 rfl) (by decide) ?_ ?_
    · refine qr_iload o (q_dm dm_X12_game 122 rfl) rfl ?_
      refine qr_iconst o (q_dm dm_X12_game 123 rfl) ic_m1 ?_
      refine qr_icmp_ne (tgt := 229) o (q_dm dm_X12_game 124 rfl) (by decide) ?_ ?_
      · refine qr_iload o (q_dm dm_X12_game 127 rfl) rfl ?_
        exact qr_iret o rfl rfl (q_dm dm_X12_game 128 rfl)
      · refine qr_bipush o (q_dm dm_X12_game 125 rfl) bi_m2 ?_
        refine qr_goto (tgt := 231) o (q_dm dm_X12_game 126 rfl) (by decide) ?_
        exact qr_iret o rfl rfl (q_dm dm_X12_game 128 rfl)
    · refine qr_iload o (q_dm dm_X12_game 115 rfl) rfl ?_
      refine qr_iconst o (q_dm dm_X12_game 116 rfl) ic_m1 ?_
      refine qr_icmp_ne (tgt := 214) o (q_dm dm_X12_game 117 rfl) (by decide) ?_ ?_
      · refine qr_iconst o (q_dm dm_X12_game 120 rfl) ic_1 ?_
        refine qr_goto (tgt := 231) o (q_dm dm_X12_game 121 rfl) (by decide) ?_
        exact qr_iret o rfl rfl (q_dm dm_X12_game 128 rfl)
      · refine qr_iconst o (q_dm dm_X12_game 118 rfl) ic_0 ?_
        refine qr_goto (tgt := 231) o (q_dm dm_X12_game 119 rfl) (by decide) ?_
        exact qr_iret o rfl rfl (q_dm dm_X12_game 128 rfl)
  · refine qr_aload_n o (q_dm dm_X12_game 37 rfl) rfl ?_
    refine qr_getr (kf := 66) o cf_X12 (sh77 j r) rfl (Nat.le_of_ble_eq_true rfl) fl_X12_139 (q_dm dm_X12_game 38 rfl) ?_
    refine qr_iload o (q_dm dm_X12_game 39 rfl) rfl ?_
    refine qr_iconst o (q_dm dm_X12_game 40 rfl) ic_1 ?_
    refine qr_iconst o (q_dm dm_X12_game 41 rfl) ic_1 ?_
    refine qr_calls_i (As := [.inl a8, .inl (1 : Int32), .inl (1 : Int32)]) (S := [.inr (some 120)]) o (a_X12_gameState g k.2.1 n j r hj hr a8 (1 : Int32) (1 : Int32) M) (Nat.le_of_ble_eq_true rfl) zs_X12_gameState rfl ml_X12_475 (Nat.le_of_ble_eq_true rfl) (q_dm dm_X12_game 42 rfl) (fun r3 m4 => ?_)
    refine qr_aload_n o (q_dm dm_X12_game 43 rfl) rfl ?_
    refine qr_iload o (q_dm dm_X12_game 44 rfl) rfl ?_
    refine qr_iconst o (q_dm dm_X12_game 45 rfl) ic_1 ?_
    refine qr_iconst o (q_dm dm_X12_game 46 rfl) ic_1 ?_
    refine qr_callv_i (As := [.inl a8, .inl (1 : Int32), .inl (1 : Int32)]) (S := [.inl r3, .inr (some 120)]) o (a_X12_winningMove g k.2.1 n j r hj hr a8 (1 : Int32) (1 : Int32) m4) (Nat.le_of_ble_eq_true rfl) zv_X12_winningMove rfl cf_X12 (sh77 j r) ml_X12_486 (Nat.le_of_ble_eq_true rfl) (q_dm dm_X12_game 47 rfl) (fun r5 m6 => ?_)
    refine qr_iconst o (q_dm dm_X12_game 48 rfl) ic_m1 ?_
    refine qr_icmp_eq (tgt := 92) o (q_dm dm_X12_game 49 rfl) (by decide) ?_ ?_
    · refine qr_iconst o (q_dm dm_X12_game 52 rfl) ic_0 ?_
      exact qr_loc (q_leS (q_leN (q_leN (q_leN (q_leS (q_leS (q_leS (q_leS (q_leS q_le0))))))))) (w_X12_game_93 n j r hj hr o K58 hK58 a4 a5 a6 a7 a8 r3 (0 : Int32) m6)
    · refine qr_iconst o (q_dm dm_X12_game 50 rfl) ic_1 ?_
      refine qr_goto (tgt := 93) o (q_dm dm_X12_game 51 rfl) (by decide) ?_
      exact qr_loc (q_leS (q_leN (q_leN (q_leN (q_leS (q_leS (q_leS (q_leS (q_leS q_le0))))))))) (w_X12_game_93 n j r hj hr o K58 hK58 a4 a5 a6 a7 a8 r3 (1 : Int32) m6)

def f_X12_game_58 (n : Nat) : Nat → Int32 → Int32 → Int32 → Int32 → Int32 → qM → qR
  | 0, _, _, _, _, _, _ => none
  | m + 1, a4, a5, a6, a7, a8, M => b_X12_game_58 n (f_X12_game_58 n m) a4 a5 a6 a7 a8 M
theorem w_X12_game_58 {g : qG} {k : qK} (n : Nat) (j r : Nat) (hj : q_isLaw j) (hr : q_isLaw r) (o : qOk g 3 zX12_game k) : ∀ (m : Nat) (a4 a5 a6 a7 a8 : Int32) (M : qM), qAE g k zX12_game (qL j r) 58 [some (.inr (some 77)), none, none, none, some (.inl a4), some (.inl a5), some (.inl a6), some (.inl a7), some (.inl a8)] [] (qL j r, M) (f_X12_game_58 n m a4 a5 a6 a7 a8 M) := by
  intro m
  induction m with
  | zero =>
    intro a4 a5 a6 a7 a8 M
    exact qr_none
  | succ m ih =>
    intro a4 a5 a6 a7 a8 M
    exact wb_X12_game_58 n j r hj hr o (f_X12_game_58 n m) ih a4 a5 a6 a7 a8 M
def f_X12_game (n : Nat) (a1 a2 a3 a4 a5 a6 : Int32) (M : qM) : qR :=
  qc (f_X12_in n a1 (0 : Int32) (7 : Int32) M) (fun r1 m2 => (if r1 = (0 : Int32) then some ((-1 : Int32), m2) else qc (f_X12_in n a2 (0 : Int32) (7 : Int32) m2) (fun r3 m4 => (if r3 = (0 : Int32) then some ((-1 : Int32), m4) else qc (f_X12_in n a3 (0 : Int32) (7 : Int32) m4) (fun r5 m6 => (if r5 = (0 : Int32) then some ((-1 : Int32), m6) else qc (f_X12_in n a6 (0 : Int32) (1 : Int32) m6) (fun r7 m8 => (if r7 = (0 : Int32) then some ((-1 : Int32), m8) else ql ((((64 : Int32) * a1) + ((8 : Int32) * a2)) + a3) (fun x9 => f_X12_game_58 n n a4 a5 a6 x9 (0 : Int32) m8)))))))))
set_option maxRecDepth 4000 in
theorem w_X12_game {g : qG} {k : qK} (n : Nat) (j r : Nat) (hj : q_isLaw j) (hr : q_isLaw r) (o : qOk g 3 zX12_game k) (a1 a2 a3 a4 a5 a6 : Int32) (M : qM) : qAE g k zX12_game (qL j r) 0 [some (.inr (some 77)), some (.inl a1), some (.inl a2), some (.inl a3), some (.inl a4), some (.inl a5), some (.inl a6), none, none] [] (qL j r, M) (f_X12_game n a1 a2 a3 a4 a5 a6 M) := by
  unfold f_X12_game
  refine qr_iload_n o (q_dm dm_X12_game 0 rfl) rfl ?_
  refine qr_iconst o (q_dm dm_X12_game 1 rfl) ic_0 ?_
  refine qr_bipush o (q_dm dm_X12_game 2 rfl) bi_7 ?_
  refine qr_calls_i (As := [.inl a1, .inl (0 : Int32), .inl (7 : Int32)]) (S := []) o (a_X12_in g k.2.1 n j r hj hr a1 (0 : Int32) (7 : Int32) M) (Nat.le_of_ble_eq_true rfl) zs_X12_in rfl ml_X12_153 (Nat.le_of_ble_eq_true rfl) (q_dm dm_X12_game 3 rfl) (fun r1 m2 => ?_)
  refine qr_if_eq (tgt := 40) o (q_dm dm_X12_game 4 rfl) (by decide) ?_ ?_
  · refine qr_iconst o (q_dm dm_X12_game 20 rfl) ic_m1 ?_
    exact qr_iret o rfl rfl (q_dm dm_X12_game 21 rfl)
  · refine qr_iload_n o (q_dm dm_X12_game 5 rfl) rfl ?_
    refine qr_iconst o (q_dm dm_X12_game 6 rfl) ic_0 ?_
    refine qr_bipush o (q_dm dm_X12_game 7 rfl) bi_7 ?_
    refine qr_calls_i (As := [.inl a2, .inl (0 : Int32), .inl (7 : Int32)]) (S := []) o (a_X12_in g k.2.1 n j r hj hr a2 (0 : Int32) (7 : Int32) m2) (Nat.le_of_ble_eq_true rfl) zs_X12_in rfl ml_X12_153 (Nat.le_of_ble_eq_true rfl) (q_dm dm_X12_game 8 rfl) (fun r3 m4 => ?_)
    refine qr_if_eq (tgt := 40) o (q_dm dm_X12_game 9 rfl) (by decide) ?_ ?_
    · refine qr_iconst o (q_dm dm_X12_game 20 rfl) ic_m1 ?_
      exact qr_iret o rfl rfl (q_dm dm_X12_game 21 rfl)
    · refine qr_iload_n o (q_dm dm_X12_game 10 rfl) rfl ?_
      refine qr_iconst o (q_dm dm_X12_game 11 rfl) ic_0 ?_
      refine qr_bipush o (q_dm dm_X12_game 12 rfl) bi_7 ?_
      refine qr_calls_i (As := [.inl a3, .inl (0 : Int32), .inl (7 : Int32)]) (S := []) o (a_X12_in g k.2.1 n j r hj hr a3 (0 : Int32) (7 : Int32) m4) (Nat.le_of_ble_eq_true rfl) zs_X12_in rfl ml_X12_153 (Nat.le_of_ble_eq_true rfl) (q_dm dm_X12_game 13 rfl) (fun r5 m6 => ?_)
      refine qr_if_eq (tgt := 40) o (q_dm dm_X12_game 14 rfl) (by decide) ?_ ?_
      · refine qr_iconst o (q_dm dm_X12_game 20 rfl) ic_m1 ?_
        exact qr_iret o rfl rfl (q_dm dm_X12_game 21 rfl)
      · refine qr_iload o (q_dm dm_X12_game 15 rfl) rfl ?_
        refine qr_iconst o (q_dm dm_X12_game 16 rfl) ic_0 ?_
        refine qr_iconst o (q_dm dm_X12_game 17 rfl) ic_1 ?_
        refine qr_calls_i (As := [.inl a6, .inl (0 : Int32), .inl (1 : Int32)]) (S := []) o (a_X12_in g k.2.1 n j r hj hr a6 (0 : Int32) (1 : Int32) m6) (Nat.le_of_ble_eq_true rfl) zs_X12_in rfl ml_X12_153 (Nat.le_of_ble_eq_true rfl) (q_dm dm_X12_game 18 rfl) (fun r7 m8 => ?_)
        refine qr_if_ne (tgt := 42) o (q_dm dm_X12_game 19 rfl) (by decide) ?_ ?_
        · refine qr_bipush o (q_dm dm_X12_game 22 rfl) bi_64 ?_
          refine qr_iload_n o (q_dm dm_X12_game 23 rfl) rfl ?_
          refine qr_imul o (q_dm dm_X12_game 24 rfl) ?_
          refine qr_bipush o (q_dm dm_X12_game 25 rfl) bi_8 ?_
          refine qr_iload_n o (q_dm dm_X12_game 26 rfl) rfl ?_
          refine qr_imul o (q_dm dm_X12_game 27 rfl) ?_
          refine qr_iadd o (q_dm dm_X12_game 28 rfl) ?_
          refine qr_iload_n o (q_dm dm_X12_game 29 rfl) rfl ?_
          refine qr_iadd o (q_dm dm_X12_game 30 rfl) ?_
          refine qr_lt (fun x9 => ?_)
          refine qs_istore (L' := [some (.inr (some 77)), some (.inl a1), some (.inl a2), some (.inl a3), some (.inl a4), some (.inl a5), some (.inl a6), some (.inl x9), none]) o (q_dm dm_X12_game 31 rfl) (Nat.le_of_ble_eq_true rfl) rfl ?_
          refine qr_iconst o (q_dm dm_X12_game 32 rfl) ic_0 ?_
          refine qs_istore (L' := [some (.inr (some 77)), some (.inl a1), some (.inl a2), some (.inl a3), some (.inl a4), some (.inl a5), some (.inl a6), some (.inl x9), some (.inl (0 : Int32))]) o (q_dm dm_X12_game 33 rfl) (Nat.le_of_ble_eq_true rfl) rfl ?_
          exact qr_loc (q_leS (q_leN (q_leN (q_leN (q_leS (q_leS (q_leS (q_leS (q_leS q_le0))))))))) (w_X12_game_58 n j r hj hr o n a4 a5 a6 x9 (0 : Int32) m8)
        · refine qr_iconst o (q_dm dm_X12_game 20 rfl) ic_m1 ?_
          exact qr_iret o rfl rfl (q_dm dm_X12_game 21 rfl)

theorem a_X12_game (g : qG) (l : Launch) (n : Nat) (j r : Nat) (hj : q_isLaw j) (hr : q_isLaw r) (a1 a2 a3 a4 a5 a6 : Int32) (M : qM) : qAM g l 3 zX12_game (qL j r) [.inr (some 77), .inl a1, .inl a2, .inl a3, .inl a4, .inl a5, .inl a6] (qL j r, M) (f_X12_game n a1 a2 a3 a4 a5 a6 M) :=
  qAM.of zv_X12_game.1 (by show 7 ≤ 9; decide) (fun k hk o => w_X12_game n j r hj hr o a1 a2 a3 a4 a5 a6 M)
def tb_X12_pastCounts : List (Nat × Instr × Nat) := [(0, (.iconst 0, 1)), (1, (.istore_n 3, 1)), (2, (.iconst 0, 1)), (3, (.istore 4, 2)), (5, (.iload 4, 2)), (7, (.aload_n 0, 1)), (8, (.getfield 454, 3)), (11, (.if_icmp .ge 33, 3)), (14, (.aload_n 0, 1)), (15, (.getfield 130, 3)), (18, (.iload_n 1, 1)), (19, (.iaload, 1)), (20, (.iload 4, 2)), (22, (.invokestatic 149, 3)), (25, (.ifCond .eq 13, 3)), (28, (.iload_n 3, 1)), (29, (.aload_n 0, 1)), (30, (.getfield 133, 3)), (33, (.iload 4, 2)), (35, (.iaload, 1)), (36, (.iadd, 1)), (37, (.istore_n 3, 1)), (38, (.iinc 4 1, 3)), (41, (.goto (-36), 3)), (44, (.iload_n 3, 1)), (45, (.iload_n 2, 1)), (46, (.if_icmp .lt 7, 3)), (49, (.iconst 1, 1)), (50, (.goto 4, 3)), (53, (.iconst 0, 1)), (54, (.ireturn, 1))]
theorem dm_X12_pastCounts : ∀ q ∈ tb_X12_pastCounts, decode zX12_pastCounts.2.1 q.1 = .ok q.2 := by decide +kernel
def b_X12_pastCounts_5 (n : Nat) (K5 : Int32 → Int32 → Int32 → Int32 → qM → qR) (a1 a2 a3 a4 : Int32) (M : qM) : qR :=
  (if (M 77 61) ≤ a4 then (if a3 < a2 then some ((0 : Int32), M) else some ((1 : Int32), M)) else qg a1 4 (qc (f_X12_has0 n (M 117 a1.toNatClampNeg) a4 M) (fun r1 m2 => (if r1 = (0 : Int32) then ql (a4 + (1 : Int32)) (fun x3 => K5 a1 a2 a3 x3 m2) else qg a4 4 (ql (a3 + (m2 118 a4.toNatClampNeg)) (fun x4 => ql (a4 + (1 : Int32)) (fun x5 => K5 a1 a2 x4 x5 m2)))))))
set_option maxRecDepth 4000 in
theorem wb_X12_pastCounts_5 {g : qG} {k : qK} (n : Nat) (j r : Nat) (hj : q_isLaw j) (hr : q_isLaw r) (o : qOk g 1 zX12_pastCounts k) (K5 : Int32 → Int32 → Int32 → Int32 → qM → qR) (hK5 : ∀ (a1 a2 a3 a4 : Int32) (M : qM), qAE g k zX12_pastCounts (qL j r) 5 [some (.inr (some 77)), some (.inl a1), some (.inl a2), some (.inl a3), some (.inl a4)] [] (qL j r, M) (K5 a1 a2 a3 a4 M)) (a1 a2 a3 a4 : Int32) (M : qM) : qAE g k zX12_pastCounts (qL j r) 5 [some (.inr (some 77)), some (.inl a1), some (.inl a2), some (.inl a3), some (.inl a4)] [] (qL j r, M) (b_X12_pastCounts_5 n K5 a1 a2 a3 a4 M) := by
  unfold b_X12_pastCounts_5
  refine qr_iload o (q_dm dm_X12_pastCounts 4 rfl) rfl ?_
  refine qr_aload_n o (q_dm dm_X12_pastCounts 5 rfl) rfl ?_
  refine qr_getf (kf := 61) o cf_X12 (sh77 j r) rfl (Nat.le_of_ble_eq_true rfl) fl_X12_454 (q_dm dm_X12_pastCounts 6 rfl) ?_
  refine qr_icmp_ge (tgt := 44) o (q_dm dm_X12_pastCounts 7 rfl) (by decide) ?_ ?_
  · refine qr_iload_n o (q_dm dm_X12_pastCounts 24 rfl) rfl ?_
    refine qr_iload_n o (q_dm dm_X12_pastCounts 25 rfl) rfl ?_
    refine qr_icmp_lt (tgt := 53) o (q_dm dm_X12_pastCounts 26 rfl) (by decide) ?_ ?_
    · refine qr_iconst o (q_dm dm_X12_pastCounts 29 rfl) ic_0 ?_
      exact qr_iret o rfl (by decide) (q_dm dm_X12_pastCounts 30 rfl)
    · refine qr_iconst o (q_dm dm_X12_pastCounts 27 rfl) ic_1 ?_
      refine qr_goto (tgt := 54) o (q_dm dm_X12_pastCounts 28 rfl) (by decide) ?_
      exact qr_iret o rfl (by decide) (q_dm dm_X12_pastCounts 30 rfl)
  · refine qr_aload_n o (q_dm dm_X12_pastCounts 8 rfl) rfl ?_
    refine qr_getr (kf := 63) o cf_X12 (sh77 j r) rfl (Nat.le_of_ble_eq_true rfl) fl_X12_130 (q_dm dm_X12_pastCounts 9 rfl) ?_
    refine qr_iload_n o (q_dm dm_X12_pastCounts 10 rfl) rfl ?_
    refine qr_iald o (sh117 j r) (q_dm dm_X12_pastCounts 11 rfl) ?_
    refine qr_iload o (q_dm dm_X12_pastCounts 12 rfl) rfl ?_
    refine qr_calls_i (As := [.inl (M 117 a1.toNatClampNeg), .inl a4]) (S := []) o (a_X12_has0 g k.2.1 n j r hj hr (M 117 a1.toNatClampNeg) a4 M) (Nat.le_of_ble_eq_true rfl) zs_X12_has0 rfl ml_X12_149 (Nat.le_of_ble_eq_true rfl) (q_dm dm_X12_pastCounts 13 rfl) (fun r1 m2 => ?_)
    refine qr_if_eq (tgt := 38) o (q_dm dm_X12_pastCounts 14 rfl) (by decide) ?_ ?_
    · refine qs_iincl2 (L' := fun x3 => [some (.inr (some 77)), some (.inl a1), some (.inl a2), some (.inl a3), some (.inl x3)]) o (q_dm dm_X12_pastCounts 22 rfl) rfl ic_1 (Nat.le_of_ble_eq_true rfl) (fun _ => rfl) (fun x3 => ?_)
      refine qr_goto (tgt := 5) o (q_dm dm_X12_pastCounts 23 rfl) (by decide) ?_
      exact qr_loc (q_leS (q_leS (q_leS (q_leS (q_leS q_le0))))) (hK5 a1 a2 a3 x3 m2)
    · refine qr_iload_n o (q_dm dm_X12_pastCounts 15 rfl) rfl ?_
      refine qr_aload_n o (q_dm dm_X12_pastCounts 16 rfl) rfl ?_
      refine qr_getr (kf := 64) o cf_X12 (sh77 j r) rfl (Nat.le_of_ble_eq_true rfl) fl_X12_133 (q_dm dm_X12_pastCounts 17 rfl) ?_
      refine qr_iload o (q_dm dm_X12_pastCounts 18 rfl) rfl ?_
      refine qr_iald o (sh118 j r) (q_dm dm_X12_pastCounts 19 rfl) ?_
      refine qr_iadd o (q_dm dm_X12_pastCounts 20 rfl) ?_
      refine qr_lt (fun x4 => ?_)
      refine qs_istore_n (L' := [some (.inr (some 77)), some (.inl a1), some (.inl a2), some (.inl x4), some (.inl a4)]) o (q_dm dm_X12_pastCounts 21 rfl) (Nat.le_of_ble_eq_true rfl) rfl ?_
      refine qs_iincl2 (L' := fun x5 => [some (.inr (some 77)), some (.inl a1), some (.inl a2), some (.inl x4), some (.inl x5)]) o (q_dm dm_X12_pastCounts 22 rfl) rfl ic_1 (Nat.le_of_ble_eq_true rfl) (fun _ => rfl) (fun x5 => ?_)
      refine qr_goto (tgt := 5) o (q_dm dm_X12_pastCounts 23 rfl) (by decide) ?_
      exact qr_loc (q_leS (q_leS (q_leS (q_leS (q_leS q_le0))))) (hK5 a1 a2 x4 x5 m2)

def f_X12_pastCounts_5 (n : Nat) : Nat → Int32 → Int32 → Int32 → Int32 → qM → qR
  | 0, _, _, _, _, _ => none
  | m + 1, a1, a2, a3, a4, M => b_X12_pastCounts_5 n (f_X12_pastCounts_5 n m) a1 a2 a3 a4 M
theorem w_X12_pastCounts_5 {g : qG} {k : qK} (n : Nat) (j r : Nat) (hj : q_isLaw j) (hr : q_isLaw r) (o : qOk g 1 zX12_pastCounts k) : ∀ (m : Nat) (a1 a2 a3 a4 : Int32) (M : qM), qAE g k zX12_pastCounts (qL j r) 5 [some (.inr (some 77)), some (.inl a1), some (.inl a2), some (.inl a3), some (.inl a4)] [] (qL j r, M) (f_X12_pastCounts_5 n m a1 a2 a3 a4 M) := by
  intro m
  induction m with
  | zero =>
    intro a1 a2 a3 a4 M
    exact qr_none
  | succ m ih =>
    intro a1 a2 a3 a4 M
    exact wb_X12_pastCounts_5 n j r hj hr o (f_X12_pastCounts_5 n m) ih a1 a2 a3 a4 M
def f_X12_pastCounts (n : Nat) (a1 a2 : Int32) (M : qM) : qR :=
  f_X12_pastCounts_5 n n a1 a2 (0 : Int32) (0 : Int32) M
set_option maxRecDepth 4000 in
theorem w_X12_pastCounts {g : qG} {k : qK} (n : Nat) (j r : Nat) (hj : q_isLaw j) (hr : q_isLaw r) (o : qOk g 1 zX12_pastCounts k) (a1 a2 : Int32) (M : qM) : qAE g k zX12_pastCounts (qL j r) 0 [some (.inr (some 77)), some (.inl a1), some (.inl a2), none, none] [] (qL j r, M) (f_X12_pastCounts n a1 a2 M) := by
  unfold f_X12_pastCounts
  refine qr_iconst o (q_dm dm_X12_pastCounts 0 rfl) ic_0 ?_
  refine qs_istore_n (L' := [some (.inr (some 77)), some (.inl a1), some (.inl a2), some (.inl (0 : Int32)), none]) o (q_dm dm_X12_pastCounts 1 rfl) (Nat.le_of_ble_eq_true rfl) rfl ?_
  refine qr_iconst o (q_dm dm_X12_pastCounts 2 rfl) ic_0 ?_
  refine qs_istore (L' := [some (.inr (some 77)), some (.inl a1), some (.inl a2), some (.inl (0 : Int32)), some (.inl (0 : Int32))]) o (q_dm dm_X12_pastCounts 3 rfl) (Nat.le_of_ble_eq_true rfl) rfl ?_
  exact qr_loc (q_leS (q_leS (q_leS (q_leS (q_leS q_le0))))) (w_X12_pastCounts_5 n j r hj hr o n a1 a2 (0 : Int32) (0 : Int32) M)

theorem a_X12_pastCounts (g : qG) (l : Launch) (n : Nat) (j r : Nat) (hj : q_isLaw j) (hr : q_isLaw r) (a1 a2 : Int32) (M : qM) : qAM g l 1 zX12_pastCounts (qL j r) [.inr (some 77), .inl a1, .inl a2] (qL j r, M) (f_X12_pastCounts n a1 a2 M) :=
  qAM.of zv_X12_pastCounts.1 (by show 3 ≤ 5; decide) (fun k hk o => w_X12_pastCounts n j r hj hr o a1 a2 M)
def tb_X12_goesWith : List (Nat × Instr × Nat) := [(0, (.aload_n 0, 1)), (1, (.iload_n 1, 1)), (2, (.invokevirtual 457, 3)), (5, (.iconst 0, 1)), (6, (.istore 4, 2)), (8, (.iload 4, 2)), (10, (.iload_n 2, 1)), (11, (.if_icmp .ge 78, 3)), (14, (.aload_n 0, 1)), (15, (.getfield 28, 3)), (18, (.aload_n 0, 1)), (19, (.getfield 454, 3)), (22, (.iconst 2, 1)), (23, (.iload 4, 2)), (25, (.imul, 1)), (26, (.iadd, 1)), (27, (.baload, 1)), (28, (.istore 5, 2)), (30, (.aload_n 0, 1)), (31, (.iload 5, 2)), (33, (.iload_n 3, 1)), (34, (.invokevirtual 460, 3)), (37, (.aload_n 0, 1)), (38, (.getfield 28, 3)), (41, (.aload_n 0, 1)), (42, (.getfield 454, 3)), (45, (.iconst 2, 1)), (46, (.iload 4, 2)), (48, (.imul, 1)), (49, (.iadd, 1)), (50, (.iconst 1, 1)), (51, (.iadd, 1)), (52, (.baload, 1)), (53, (.iconst 1, 1)), (54, (.if_icmp .ne 7, 3)), (57, (.iconst 1, 1)), (58, (.goto 4, 3)), (61, (.iconst 0, 1)), (62, (.if_icmp .eq 5, 3)), (65, (.iconst 0, 1)), (66, (.ireturn, 1)), (67, (.aload_n 0, 1)), (68, (.getfield 133, 3)), (71, (.iload 5, 2)), (73, (.aload_n 0, 1)), (74, (.getfield 133, 3)), (77, (.iload 5, 2)), (79, (.iaload, 1)), (80, (.iconst 1, 1)), (81, (.iadd, 1)), (82, (.iastore, 1)), (83, (.iinc 4 1, 3)), (86, (.goto (-78), 3)), (89, (.iconst 1, 1)), (90, (.ireturn, 1))]
theorem dm_X12_goesWith : ∀ q ∈ tb_X12_goesWith, decode zX12_goesWith.2.1 q.1 = .ok q.2 := by decide +kernel
def f_X12_goesWith_62 (n : Nat) (K8 : Int32 → Int32 → Int32 → qM → qR) (a2 a3 a4 a5 s0 s1 : Int32) (M : qM) : qR :=
  (if s0 = s1 then qg a5 4 (qg a5 4 (qlm (mu M 118 a5.toNatClampNeg ((M 118 a5.toNatClampNeg) + (1 : Int32))) (fun m1 => ql (a4 + (1 : Int32)) (fun x2 => K8 a2 a3 x2 m1)))) else some ((0 : Int32), M))
set_option maxRecDepth 4000 in
theorem w_X12_goesWith_62 {g : qG} {k : qK} (n : Nat) (j r : Nat) (hj : q_isLaw j) (hr : q_isLaw r) (o : qOk g 2 zX12_goesWith k) (K8 : Int32 → Int32 → Int32 → qM → qR) (hK8 : ∀ (a2 a3 a4 : Int32) (M : qM), qAE g k zX12_goesWith (qL j r) 8 [some (.inr (some 77)), none, some (.inl a2), some (.inl a3), some (.inl a4), none] [] (qL j r, M) (K8 a2 a3 a4 M)) (a2 a3 a4 a5 s0 s1 : Int32) (M : qM) : qAE g k zX12_goesWith (qL j r) 62 [some (.inr (some 77)), none, some (.inl a2), some (.inl a3), some (.inl a4), some (.inl a5)] [.inl s1, .inl s0] (qL j r, M) (f_X12_goesWith_62 n K8 a2 a3 a4 a5 s0 s1 M) := by
  unfold f_X12_goesWith_62
  refine qr_icmp_eq (tgt := 67) o (q_dm dm_X12_goesWith 38 rfl) (by decide) ?_ ?_
  · refine qr_aload_n o (q_dm dm_X12_goesWith 41 rfl) rfl ?_
    refine qr_getr (kf := 64) o cf_X12 (sh77 j r) rfl (Nat.le_of_ble_eq_true rfl) fl_X12_133 (q_dm dm_X12_goesWith 42 rfl) ?_
    refine qr_iload o (q_dm dm_X12_goesWith 43 rfl) rfl ?_
    refine qr_aload_n o (q_dm dm_X12_goesWith 44 rfl) rfl ?_
    refine qr_getr (kf := 64) o cf_X12 (sh77 j r) rfl (Nat.le_of_ble_eq_true rfl) fl_X12_133 (q_dm dm_X12_goesWith 45 rfl) ?_
    refine qr_iload o (q_dm dm_X12_goesWith 46 rfl) rfl ?_
    refine qr_iald o (sh118 j r) (q_dm dm_X12_goesWith 47 rfl) ?_
    refine qr_iconst o (q_dm dm_X12_goesWith 48 rfl) ic_1 ?_
    refine qr_iadd o (q_dm dm_X12_goesWith 49 rfl) ?_
    refine qr_iast o (sh118 j r) (q_dm dm_X12_goesWith 50 rfl) ?_
    refine qr_letm (fun m1 => ?_)
    refine qs_iincl2 (L' := fun x2 => [some (.inr (some 77)), none, some (.inl a2), some (.inl a3), some (.inl x2), some (.inl a5)]) o (q_dm dm_X12_goesWith 51 rfl) rfl ic_1 (Nat.le_of_ble_eq_true rfl) (fun _ => rfl) (fun x2 => ?_)
    refine qr_goto (tgt := 8) o (q_dm dm_X12_goesWith 52 rfl) (by decide) ?_
    exact qr_loc (q_leS (q_leN (q_leS (q_leS (q_leS (q_leN q_le0)))))) (hK8 a2 a3 x2 m1)
  · refine qr_iconst o (q_dm dm_X12_goesWith 39 rfl) ic_0 ?_
    exact qr_iret o rfl (by decide) (q_dm dm_X12_goesWith 40 rfl)

def b_X12_goesWith_8 (n : Nat) (K8 : Int32 → Int32 → Int32 → qM → qR) (a2 a3 a4 : Int32) (M : qM) : qR :=
  (if a2 ≤ a4 then some ((1 : Int32), M) else qg ((M 77 61) + ((2 : Int32) * a4)) 260 (ql (M 84 ((M 77 61) + ((2 : Int32) * a4)).toNatClampNeg) (fun x1 => qc (f_X12_pastCounts n x1 a3 M) (fun r2 m3 => qg (((m3 77 61) + ((2 : Int32) * a4)) + (1 : Int32)) 260 ((if (m3 84 (((m3 77 61) + ((2 : Int32) * a4)) + (1 : Int32)).toNatClampNeg) = (1 : Int32) then f_X12_goesWith_62 n K8 a2 a3 a4 x1 r2 (1 : Int32) m3 else f_X12_goesWith_62 n K8 a2 a3 a4 x1 r2 (0 : Int32) m3))))))
set_option maxRecDepth 4000 in
theorem wb_X12_goesWith_8 {g : qG} {k : qK} (n : Nat) (j r : Nat) (hj : q_isLaw j) (hr : q_isLaw r) (o : qOk g 2 zX12_goesWith k) (K8 : Int32 → Int32 → Int32 → qM → qR) (hK8 : ∀ (a2 a3 a4 : Int32) (M : qM), qAE g k zX12_goesWith (qL j r) 8 [some (.inr (some 77)), none, some (.inl a2), some (.inl a3), some (.inl a4), none] [] (qL j r, M) (K8 a2 a3 a4 M)) (a2 a3 a4 : Int32) (M : qM) : qAE g k zX12_goesWith (qL j r) 8 [some (.inr (some 77)), none, some (.inl a2), some (.inl a3), some (.inl a4), none] [] (qL j r, M) (b_X12_goesWith_8 n K8 a2 a3 a4 M) := by
  unfold b_X12_goesWith_8
  refine qr_iload o (q_dm dm_X12_goesWith 5 rfl) rfl ?_
  refine qr_iload_n o (q_dm dm_X12_goesWith 6 rfl) rfl ?_
  refine qr_icmp_ge (tgt := 89) o (q_dm dm_X12_goesWith 7 rfl) (by decide) ?_ ?_
  · refine qr_iconst o (q_dm dm_X12_goesWith 53 rfl) ic_1 ?_
    exact qr_iret o rfl (by decide) (q_dm dm_X12_goesWith 54 rfl)
  · refine qr_aload_n o (q_dm dm_X12_goesWith 8 rfl) rfl ?_
    refine qr_getr (kf := 7) o cf_X12 (sh77 j r) rfl (Nat.le_of_ble_eq_true rfl) fl_X12_28 (q_dm dm_X12_goesWith 9 rfl) ?_
    refine qr_aload_n o (q_dm dm_X12_goesWith 10 rfl) rfl ?_
    refine qr_getf (kf := 61) o cf_X12 (sh77 j r) rfl (Nat.le_of_ble_eq_true rfl) fl_X12_454 (q_dm dm_X12_goesWith 11 rfl) ?_
    refine qr_iconst o (q_dm dm_X12_goesWith 12 rfl) ic_2 ?_
    refine qr_iload o (q_dm dm_X12_goesWith 13 rfl) rfl ?_
    refine qr_imul o (q_dm dm_X12_goesWith 14 rfl) ?_
    refine qr_iadd o (q_dm dm_X12_goesWith 15 rfl) ?_
    refine qr_bald o (sh84 j r) (q_dm dm_X12_goesWith 16 rfl) ?_
    refine qr_lt (fun x1 => ?_)
    refine qs_istore (L' := [some (.inr (some 77)), none, some (.inl a2), some (.inl a3), some (.inl a4), some (.inl x1)]) o (q_dm dm_X12_goesWith 17 rfl) (Nat.le_of_ble_eq_true rfl) rfl ?_
    refine qr_aload_n o (q_dm dm_X12_goesWith 18 rfl) rfl ?_
    refine qr_iload o (q_dm dm_X12_goesWith 19 rfl) rfl ?_
    refine qr_iload_n o (q_dm dm_X12_goesWith 20 rfl) rfl ?_
    refine qr_callv_i (As := [.inl x1, .inl a3]) (S := []) o (a_X12_pastCounts g k.2.1 n j r hj hr x1 a3 M) (Nat.le_of_ble_eq_true rfl) zv_X12_pastCounts rfl cf_X12 (sh77 j r) ml_X12_460 (Nat.le_of_ble_eq_true rfl) (q_dm dm_X12_goesWith 21 rfl) (fun r2 m3 => ?_)
    refine qr_aload_n o (q_dm dm_X12_goesWith 22 rfl) rfl ?_
    refine qr_getr (kf := 7) o cf_X12 (sh77 j r) rfl (Nat.le_of_ble_eq_true rfl) fl_X12_28 (q_dm dm_X12_goesWith 23 rfl) ?_
    refine qr_aload_n o (q_dm dm_X12_goesWith 24 rfl) rfl ?_
    refine qr_getf (kf := 61) o cf_X12 (sh77 j r) rfl (Nat.le_of_ble_eq_true rfl) fl_X12_454 (q_dm dm_X12_goesWith 25 rfl) ?_
    refine qr_iconst o (q_dm dm_X12_goesWith 26 rfl) ic_2 ?_
    refine qr_iload o (q_dm dm_X12_goesWith 27 rfl) rfl ?_
    refine qr_imul o (q_dm dm_X12_goesWith 28 rfl) ?_
    refine qr_iadd o (q_dm dm_X12_goesWith 29 rfl) ?_
    refine qr_iconst o (q_dm dm_X12_goesWith 30 rfl) ic_1 ?_
    refine qr_iadd o (q_dm dm_X12_goesWith 31 rfl) ?_
    refine qr_bald o (sh84 j r) (q_dm dm_X12_goesWith 32 rfl) ?_
    refine qr_iconst o (q_dm dm_X12_goesWith 33 rfl) ic_1 ?_
    refine qr_icmp_ne (tgt := 61) o (q_dm dm_X12_goesWith 34 rfl) (by decide) ?_ ?_
    · refine qr_iconst o (q_dm dm_X12_goesWith 37 rfl) ic_0 ?_
      exact qr_loc (q_leS (q_leN (q_leS (q_leS (q_leS (q_leS q_le0)))))) (w_X12_goesWith_62 n j r hj hr o K8 hK8 a2 a3 a4 x1 r2 (0 : Int32) m3)
    · refine qr_iconst o (q_dm dm_X12_goesWith 35 rfl) ic_1 ?_
      refine qr_goto (tgt := 62) o (q_dm dm_X12_goesWith 36 rfl) (by decide) ?_
      exact qr_loc (q_leS (q_leN (q_leS (q_leS (q_leS (q_leS q_le0)))))) (w_X12_goesWith_62 n j r hj hr o K8 hK8 a2 a3 a4 x1 r2 (1 : Int32) m3)

def f_X12_goesWith_8 (n : Nat) : Nat → Int32 → Int32 → Int32 → qM → qR
  | 0, _, _, _, _ => none
  | m + 1, a2, a3, a4, M => b_X12_goesWith_8 n (f_X12_goesWith_8 n m) a2 a3 a4 M
theorem w_X12_goesWith_8 {g : qG} {k : qK} (n : Nat) (j r : Nat) (hj : q_isLaw j) (hr : q_isLaw r) (o : qOk g 2 zX12_goesWith k) : ∀ (m : Nat) (a2 a3 a4 : Int32) (M : qM), qAE g k zX12_goesWith (qL j r) 8 [some (.inr (some 77)), none, some (.inl a2), some (.inl a3), some (.inl a4), none] [] (qL j r, M) (f_X12_goesWith_8 n m a2 a3 a4 M) := by
  intro m
  induction m with
  | zero =>
    intro a2 a3 a4 M
    exact qr_none
  | succ m ih =>
    intro a2 a3 a4 M
    exact wb_X12_goesWith_8 n j r hj hr o (f_X12_goesWith_8 n m) ih a2 a3 a4 M
def f_X12_goesWith (n : Nat) (a1 a2 a3 : Int32) (M : qM) : qR :=
  qc (f_X12_begins n a1 M) (fun _ m1 => f_X12_goesWith_8 n n a2 a3 (0 : Int32) m1)
set_option maxRecDepth 4000 in
theorem w_X12_goesWith {g : qG} {k : qK} (n : Nat) (j r : Nat) (hj : q_isLaw j) (hr : q_isLaw r) (o : qOk g 2 zX12_goesWith k) (a1 a2 a3 : Int32) (M : qM) : qAE g k zX12_goesWith (qL j r) 0 [some (.inr (some 77)), some (.inl a1), some (.inl a2), some (.inl a3), none, none] [] (qL j r, M) (f_X12_goesWith n a1 a2 a3 M) := by
  unfold f_X12_goesWith
  refine qr_aload_n o (q_dm dm_X12_goesWith 0 rfl) rfl ?_
  refine qr_iload_n o (q_dm dm_X12_goesWith 1 rfl) rfl ?_
  refine qr_callv_v (As := [.inl a1]) (S := []) o (a_X12_begins g k.2.1 n j r hj hr a1 M) (Nat.le_of_ble_eq_true rfl) zv_X12_begins rfl cf_X12 (sh77 j r) ml_X12_457 (Nat.le_of_ble_eq_true rfl) (q_dm dm_X12_goesWith 2 rfl) (fun _ m1 => ?_)
  refine qr_iconst o (q_dm dm_X12_goesWith 3 rfl) ic_0 ?_
  refine qs_istore (L' := [some (.inr (some 77)), some (.inl a1), some (.inl a2), some (.inl a3), some (.inl (0 : Int32)), none]) o (q_dm dm_X12_goesWith 4 rfl) (Nat.le_of_ble_eq_true rfl) rfl ?_
  exact qr_loc (q_leS (q_leN (q_leS (q_leS (q_leS (q_leN q_le0)))))) (w_X12_goesWith_8 n j r hj hr o n a2 a3 (0 : Int32) m1)

theorem a_X12_goesWith (g : qG) (l : Launch) (n : Nat) (j r : Nat) (hj : q_isLaw j) (hr : q_isLaw r) (a1 a2 a3 : Int32) (M : qM) : qAM g l 2 zX12_goesWith (qL j r) [.inr (some 77), .inl a1, .inl a2, .inl a3] (qL j r, M) (f_X12_goesWith n a1 a2 a3 M) :=
  qAM.of zv_X12_goesWith.1 (by show 4 ≤ 6; decide) (fun k hk o => w_X12_goesWith n j r hj hr o a1 a2 a3 M)
def tb_X12_max : List (Nat × Instr × Nat) := [(0, (.iload_n 0, 1)), (1, (.iload_n 1, 1)), (2, (.if_icmp .le 7, 3)), (5, (.iload_n 0, 1)), (6, (.goto 4, 3)), (9, (.iload_n 1, 1)), (10, (.ireturn, 1))]
theorem dm_X12_max : ∀ q ∈ tb_X12_max, decode zX12_max.2.1 q.1 = .ok q.2 := by decide +kernel
def f_X12_max (n : Nat) (a0 a1 : Int32) (M : qM) : qR :=
  (if a0 ≤ a1 then some (a1, M) else some (a0, M))
set_option maxRecDepth 4000 in
theorem w_X12_max {g : qG} {k : qK} (n : Nat) (j r : Nat) (hj : q_isLaw j) (hr : q_isLaw r) (o : qOk g 0 zX12_max k) (a0 a1 : Int32) (M : qM) : qAE g k zX12_max (qL j r) 0 [some (.inl a0), some (.inl a1)] [] (qL j r, M) (f_X12_max n a0 a1 M) := by
  unfold f_X12_max
  refine qr_iload_n o (q_dm dm_X12_max 0 rfl) rfl ?_
  refine qr_iload_n o (q_dm dm_X12_max 1 rfl) rfl ?_
  refine qr_icmp_le (tgt := 9) o (q_dm dm_X12_max 2 rfl) (by decide) ?_ ?_
  · refine qr_iload_n o (q_dm dm_X12_max 5 rfl) rfl ?_
    exact qr_iret o rfl rfl (q_dm dm_X12_max 6 rfl)
  · refine qr_iload_n o (q_dm dm_X12_max 3 rfl) rfl ?_
    refine qr_goto (tgt := 10) o (q_dm dm_X12_max 4 rfl) (by decide) ?_
    exact qr_iret o rfl rfl (q_dm dm_X12_max 6 rfl)

theorem a_X12_max (g : qG) (l : Launch) (n : Nat) (j r : Nat) (hj : q_isLaw j) (hr : q_isLaw r) (a0 a1 : Int32) (M : qM) : qAM g l 0 zX12_max (qL j r) [.inl a0, .inl a1] (qL j r, M) (f_X12_max n a0 a1 M) :=
  qAM.of zs_X12_max.1 (by show 2 ≤ 2; decide) (fun k hk o => w_X12_max n j r hj hr o a0 a1 M)
def tb_X12_greaterBy : List (Nat × Instr × Nat) := [(0, (.iconst 0, 1)), (1, (.istore 5, 2)), (3, (.iconst 0, 1)), (4, (.istore 6, 2)), (6, (.iconst 0, 1)), (7, (.istore 7, 2)), (9, (.iload 7, 2)), (11, (.iload_n 2, 1)), (12, (.if_icmp .ge 58, 3)), (15, (.aload_n 0, 1)), (16, (.getfield 136, 3)), (19, (.iload 7, 2)), (21, (.baload, 1)), (22, (.ifCond .ne 6, 3)), (25, (.goto 39, 3)), (28, (.aload_n 0, 1)), (29, (.iload 7, 2)), (31, (.iload_n 3, 1)), (32, (.iload 4, 2)), (34, (.invokevirtual 463, 3)), (37, (.pop, 1)), (38, (.iload 6, 2)), (40, (.iconst 1, 1)), (41, (.iadd, 1)), (42, (.istore 6, 2)), (44, (.iload 5, 2)), (46, (.aload_n 0, 1)), (47, (.iload_n 1, 1)), (48, (.iload 4, 2)), (50, (.invokevirtual 460, 3)), (53, (.ifCond .eq 7, 3)), (56, (.iconst 1, 1)), (57, (.goto 4, 3)), (60, (.iconst 0, 1)), (61, (.iadd, 1)), (62, (.istore 5, 2)), (64, (.iinc 7 1, 3)), (67, (.goto (-58), 3)), (70, (.iload 5, 2)), (72, (.iload 6, 2)), (74, (.iload 5, 2)), (76, (.isub, 1)), (77, (.invokestatic 441, 3)), (80, (.ireturn, 1))]
theorem dm_X12_greaterBy : ∀ q ∈ tb_X12_greaterBy, decode zX12_greaterBy.2.1 q.1 = .ok q.2 := by decide +kernel
def f_X12_greaterBy_61 (n : Nat) (K9 : Int32 → Int32 → Int32 → Int32 → Int32 → Int32 → Int32 → qM → qR) (a1 a2 a3 a4 a6 a7 s0 s1 : Int32) (M : qM) : qR :=
  ql (s0 + s1) (fun x1 => ql (a7 + (1 : Int32)) (fun x2 => K9 a1 a2 a3 a4 x1 a6 x2 M))
set_option maxRecDepth 4000 in
theorem w_X12_greaterBy_61 {g : qG} {k : qK} (n : Nat) (j r : Nat) (hj : q_isLaw j) (hr : q_isLaw r) (o : qOk g 3 zX12_greaterBy k) (K9 : Int32 → Int32 → Int32 → Int32 → Int32 → Int32 → Int32 → qM → qR) (hK9 : ∀ (a1 a2 a3 a4 a5 a6 a7 : Int32) (M : qM), qAE g k zX12_greaterBy (qL j r) 9 [some (.inr (some 77)), some (.inl a1), some (.inl a2), some (.inl a3), some (.inl a4), some (.inl a5), some (.inl a6), some (.inl a7)] [] (qL j r, M) (K9 a1 a2 a3 a4 a5 a6 a7 M)) (a1 a2 a3 a4 a6 a7 s0 s1 : Int32) (M : qM) : qAE g k zX12_greaterBy (qL j r) 61 [some (.inr (some 77)), some (.inl a1), some (.inl a2), some (.inl a3), some (.inl a4), none, some (.inl a6), some (.inl a7)] [.inl s1, .inl s0] (qL j r, M) (f_X12_greaterBy_61 n K9 a1 a2 a3 a4 a6 a7 s0 s1 M) := by
  unfold f_X12_greaterBy_61
  refine qr_iadd o (q_dm dm_X12_greaterBy 34 rfl) ?_
  refine qr_lt (fun x1 => ?_)
  refine qs_istore (L' := [some (.inr (some 77)), some (.inl a1), some (.inl a2), some (.inl a3), some (.inl a4), some (.inl x1), some (.inl a6), some (.inl a7)]) o (q_dm dm_X12_greaterBy 35 rfl) (Nat.le_of_ble_eq_true rfl) rfl ?_
  refine qs_iincl2 (L' := fun x2 => [some (.inr (some 77)), some (.inl a1), some (.inl a2), some (.inl a3), some (.inl a4), some (.inl x1), some (.inl a6), some (.inl x2)]) o (q_dm dm_X12_greaterBy 36 rfl) rfl ic_1 (Nat.le_of_ble_eq_true rfl) (fun _ => rfl) (fun x2 => ?_)
  refine qr_goto (tgt := 9) o (q_dm dm_X12_greaterBy 37 rfl) (by decide) ?_
  exact qr_loc (q_leS (q_leS (q_leS (q_leS (q_leS (q_leS (q_leS (q_leS q_le0)))))))) (hK9 a1 a2 a3 a4 x1 a6 x2 M)

def b_X12_greaterBy_9 (n : Nat) (K9 : Int32 → Int32 → Int32 → Int32 → Int32 → Int32 → Int32 → qM → qR) (a1 a2 a3 a4 a5 a6 a7 : Int32) (M : qM) : qR :=
  (if a2 ≤ a7 then qc (f_X12_max n a5 (a6 - a5) M) (fun r1 m2 => some (r1, m2)) else qg a7 256 ((if (M 119 a7.toNatClampNeg) = (0 : Int32) then ql (a7 + (1 : Int32)) (fun x8 => K9 a1 a2 a3 a4 a5 a6 x8 M) else qc (f_X12_goesWith n a7 a3 a4 M) (fun r3 m4 => ql (a6 + (1 : Int32)) (fun x5 => qc (f_X12_pastCounts n a1 a4 m4) (fun r6 m7 => (if r6 = (0 : Int32) then f_X12_greaterBy_61 n K9 a1 a2 a3 a4 x5 a7 a5 (0 : Int32) m7 else f_X12_greaterBy_61 n K9 a1 a2 a3 a4 x5 a7 a5 (1 : Int32) m7)))))))
set_option maxRecDepth 4000 in
theorem wb_X12_greaterBy_9 {g : qG} {k : qK} (n : Nat) (j r : Nat) (hj : q_isLaw j) (hr : q_isLaw r) (o : qOk g 3 zX12_greaterBy k) (K9 : Int32 → Int32 → Int32 → Int32 → Int32 → Int32 → Int32 → qM → qR) (hK9 : ∀ (a1 a2 a3 a4 a5 a6 a7 : Int32) (M : qM), qAE g k zX12_greaterBy (qL j r) 9 [some (.inr (some 77)), some (.inl a1), some (.inl a2), some (.inl a3), some (.inl a4), some (.inl a5), some (.inl a6), some (.inl a7)] [] (qL j r, M) (K9 a1 a2 a3 a4 a5 a6 a7 M)) (a1 a2 a3 a4 a5 a6 a7 : Int32) (M : qM) : qAE g k zX12_greaterBy (qL j r) 9 [some (.inr (some 77)), some (.inl a1), some (.inl a2), some (.inl a3), some (.inl a4), some (.inl a5), some (.inl a6), some (.inl a7)] [] (qL j r, M) (b_X12_greaterBy_9 n K9 a1 a2 a3 a4 a5 a6 a7 M) := by
  unfold b_X12_greaterBy_9
  refine qr_iload o (q_dm dm_X12_greaterBy 6 rfl) rfl ?_
  refine qr_iload_n o (q_dm dm_X12_greaterBy 7 rfl) rfl ?_
  refine qr_icmp_ge (tgt := 70) o (q_dm dm_X12_greaterBy 8 rfl) (by decide) ?_ ?_
  · refine qr_iload o (q_dm dm_X12_greaterBy 38 rfl) rfl ?_
    refine qr_iload o (q_dm dm_X12_greaterBy 39 rfl) rfl ?_
    refine qr_iload o (q_dm dm_X12_greaterBy 40 rfl) rfl ?_
    refine qr_isub o (q_dm dm_X12_greaterBy 41 rfl) ?_
    refine qr_calls_i (As := [.inl a5, .inl (a6 - a5)]) (S := []) o (a_X12_max g k.2.1 n j r hj hr a5 (a6 - a5) M) (Nat.le_of_ble_eq_true rfl) zs_X12_max rfl ml_X12_441 (Nat.le_of_ble_eq_true rfl) (q_dm dm_X12_greaterBy 42 rfl) (fun r1 m2 => ?_)
    exact qr_iret o rfl rfl (q_dm dm_X12_greaterBy 43 rfl)
  · refine qr_aload_n o (q_dm dm_X12_greaterBy 9 rfl) rfl ?_
    refine qr_getr (kf := 65) o cf_X12 (sh77 j r) rfl (Nat.le_of_ble_eq_true rfl) fl_X12_136 (q_dm dm_X12_greaterBy 10 rfl) ?_
    refine qr_iload o (q_dm dm_X12_greaterBy 11 rfl) rfl ?_
    refine qr_zald o (sh119 j r) (q_dm dm_X12_greaterBy 12 rfl) ?_
    refine qr_if_ne (tgt := 28) o (q_dm dm_X12_greaterBy 13 rfl) (by decide) ?_ ?_
    · refine qr_aload_n o (q_dm dm_X12_greaterBy 15 rfl) rfl ?_
      refine qr_iload o (q_dm dm_X12_greaterBy 16 rfl) rfl ?_
      refine qr_iload_n o (q_dm dm_X12_greaterBy 17 rfl) rfl ?_
      refine qr_iload o (q_dm dm_X12_greaterBy 18 rfl) rfl ?_
      refine qr_callv_i (As := [.inl a7, .inl a3, .inl a4]) (S := []) o (a_X12_goesWith g k.2.1 n j r hj hr a7 a3 a4 M) (Nat.le_of_ble_eq_true rfl) zv_X12_goesWith rfl cf_X12 (sh77 j r) ml_X12_463 (Nat.le_of_ble_eq_true rfl) (q_dm dm_X12_greaterBy 19 rfl) (fun r3 m4 => ?_)
      refine qr_pop o (q_dm dm_X12_greaterBy 20 rfl) ?_
      refine qr_iload o (q_dm dm_X12_greaterBy 21 rfl) rfl ?_
      refine qr_iconst o (q_dm dm_X12_greaterBy 22 rfl) ic_1 ?_
      refine qr_iadd o (q_dm dm_X12_greaterBy 23 rfl) ?_
      refine qr_lt (fun x5 => ?_)
      refine qs_istore (L' := [some (.inr (some 77)), some (.inl a1), some (.inl a2), some (.inl a3), some (.inl a4), some (.inl a5), some (.inl x5), some (.inl a7)]) o (q_dm dm_X12_greaterBy 24 rfl) (Nat.le_of_ble_eq_true rfl) rfl ?_
      refine qr_iload o (q_dm dm_X12_greaterBy 25 rfl) rfl ?_
      refine qr_aload_n o (q_dm dm_X12_greaterBy 26 rfl) rfl ?_
      refine qr_iload_n o (q_dm dm_X12_greaterBy 27 rfl) rfl ?_
      refine qr_iload o (q_dm dm_X12_greaterBy 28 rfl) rfl ?_
      refine qr_callv_i (As := [.inl a1, .inl a4]) (S := [.inl a5]) o (a_X12_pastCounts g k.2.1 n j r hj hr a1 a4 m4) (Nat.le_of_ble_eq_true rfl) zv_X12_pastCounts rfl cf_X12 (sh77 j r) ml_X12_460 (Nat.le_of_ble_eq_true rfl) (q_dm dm_X12_greaterBy 29 rfl) (fun r6 m7 => ?_)
      refine qr_if_eq (tgt := 60) o (q_dm dm_X12_greaterBy 30 rfl) (by decide) ?_ ?_
      · refine qr_iconst o (q_dm dm_X12_greaterBy 33 rfl) ic_0 ?_
        exact qr_loc (q_leS (q_leS (q_leS (q_leS (q_leS (q_leN (q_leS (q_leS q_le0)))))))) (w_X12_greaterBy_61 n j r hj hr o K9 hK9 a1 a2 a3 a4 x5 a7 a5 (0 : Int32) m7)
      · refine qr_iconst o (q_dm dm_X12_greaterBy 31 rfl) ic_1 ?_
        refine qr_goto (tgt := 61) o (q_dm dm_X12_greaterBy 32 rfl) (by decide) ?_
        exact qr_loc (q_leS (q_leS (q_leS (q_leS (q_leS (q_leN (q_leS (q_leS q_le0)))))))) (w_X12_greaterBy_61 n j r hj hr o K9 hK9 a1 a2 a3 a4 x5 a7 a5 (1 : Int32) m7)
    · refine qr_goto (tgt := 64) o (q_dm dm_X12_greaterBy 14 rfl) (by decide) ?_
      refine qs_iincl2 (L' := fun x8 => [some (.inr (some 77)), some (.inl a1), some (.inl a2), some (.inl a3), some (.inl a4), some (.inl a5), some (.inl a6), some (.inl x8)]) o (q_dm dm_X12_greaterBy 36 rfl) rfl ic_1 (Nat.le_of_ble_eq_true rfl) (fun _ => rfl) (fun x8 => ?_)
      refine qr_goto (tgt := 9) o (q_dm dm_X12_greaterBy 37 rfl) (by decide) ?_
      exact qr_loc (q_leS (q_leS (q_leS (q_leS (q_leS (q_leS (q_leS (q_leS q_le0)))))))) (hK9 a1 a2 a3 a4 a5 a6 x8 M)

def f_X12_greaterBy_9 (n : Nat) : Nat → Int32 → Int32 → Int32 → Int32 → Int32 → Int32 → Int32 → qM → qR
  | 0, _, _, _, _, _, _, _, _ => none
  | m + 1, a1, a2, a3, a4, a5, a6, a7, M => b_X12_greaterBy_9 n (f_X12_greaterBy_9 n m) a1 a2 a3 a4 a5 a6 a7 M
theorem w_X12_greaterBy_9 {g : qG} {k : qK} (n : Nat) (j r : Nat) (hj : q_isLaw j) (hr : q_isLaw r) (o : qOk g 3 zX12_greaterBy k) : ∀ (m : Nat) (a1 a2 a3 a4 a5 a6 a7 : Int32) (M : qM), qAE g k zX12_greaterBy (qL j r) 9 [some (.inr (some 77)), some (.inl a1), some (.inl a2), some (.inl a3), some (.inl a4), some (.inl a5), some (.inl a6), some (.inl a7)] [] (qL j r, M) (f_X12_greaterBy_9 n m a1 a2 a3 a4 a5 a6 a7 M) := by
  intro m
  induction m with
  | zero =>
    intro a1 a2 a3 a4 a5 a6 a7 M
    exact qr_none
  | succ m ih =>
    intro a1 a2 a3 a4 a5 a6 a7 M
    exact wb_X12_greaterBy_9 n j r hj hr o (f_X12_greaterBy_9 n m) ih a1 a2 a3 a4 a5 a6 a7 M
def f_X12_greaterBy (n : Nat) (a1 a2 a3 a4 : Int32) (M : qM) : qR :=
  f_X12_greaterBy_9 n n a1 a2 a3 a4 (0 : Int32) (0 : Int32) (0 : Int32) M
set_option maxRecDepth 4000 in
theorem w_X12_greaterBy {g : qG} {k : qK} (n : Nat) (j r : Nat) (hj : q_isLaw j) (hr : q_isLaw r) (o : qOk g 3 zX12_greaterBy k) (a1 a2 a3 a4 : Int32) (M : qM) : qAE g k zX12_greaterBy (qL j r) 0 [some (.inr (some 77)), some (.inl a1), some (.inl a2), some (.inl a3), some (.inl a4), none, none, none] [] (qL j r, M) (f_X12_greaterBy n a1 a2 a3 a4 M) := by
  unfold f_X12_greaterBy
  refine qr_iconst o (q_dm dm_X12_greaterBy 0 rfl) ic_0 ?_
  refine qs_istore (L' := [some (.inr (some 77)), some (.inl a1), some (.inl a2), some (.inl a3), some (.inl a4), some (.inl (0 : Int32)), none, none]) o (q_dm dm_X12_greaterBy 1 rfl) (Nat.le_of_ble_eq_true rfl) rfl ?_
  refine qr_iconst o (q_dm dm_X12_greaterBy 2 rfl) ic_0 ?_
  refine qs_istore (L' := [some (.inr (some 77)), some (.inl a1), some (.inl a2), some (.inl a3), some (.inl a4), some (.inl (0 : Int32)), some (.inl (0 : Int32)), none]) o (q_dm dm_X12_greaterBy 3 rfl) (Nat.le_of_ble_eq_true rfl) rfl ?_
  refine qr_iconst o (q_dm dm_X12_greaterBy 4 rfl) ic_0 ?_
  refine qs_istore (L' := [some (.inr (some 77)), some (.inl a1), some (.inl a2), some (.inl a3), some (.inl a4), some (.inl (0 : Int32)), some (.inl (0 : Int32)), some (.inl (0 : Int32))]) o (q_dm dm_X12_greaterBy 5 rfl) (Nat.le_of_ble_eq_true rfl) rfl ?_
  exact qr_loc (q_leS (q_leS (q_leS (q_leS (q_leS (q_leS (q_leS (q_leS q_le0)))))))) (w_X12_greaterBy_9 n j r hj hr o n a1 a2 a3 a4 (0 : Int32) (0 : Int32) (0 : Int32) M)

theorem a_X12_greaterBy (g : qG) (l : Launch) (n : Nat) (j r : Nat) (hj : q_isLaw j) (hr : q_isLaw r) (a1 a2 a3 a4 : Int32) (M : qM) : qAM g l 3 zX12_greaterBy (qL j r) [.inr (some 77), .inl a1, .inl a2, .inl a3, .inl a4] (qL j r, M) (f_X12_greaterBy n a1 a2 a3 a4 M) :=
  qAM.of zv_X12_greaterBy.1 (by show 5 ≤ 8; decide) (fun k hk o => w_X12_greaterBy n j r hj hr o a1 a2 a3 a4 M)
def tb_X12_has : List (Nat × Instr × Nat) := [(0, (.aload_n 0, 1)), (1, (.iload_n 1, 1)), (2, (.invokevirtual 310, 3)), (5, (.ifCond .eq 20, 3)), (8, (.aload_n 0, 1)), (9, (.iload_n 2, 1)), (10, (.invokevirtual 157, 3)), (13, (.ifCond .eq 12, 3)), (16, (.iload_n 3, 1)), (17, (.iconst 0, 1)), (18, (.iconst 5, 1)), (19, (.invokestatic 153, 3)), (22, (.ifCond .ne 5, 3)), (25, (.iconst (-1), 1)), (26, (.ireturn, 1)), (27, (.iload_n 1, 1)), (28, (.iload_n 2, 1)), (29, (.invokestatic 282, 3)), (32, (.istore 4, 2)), (34, (.iload_n 3, 1)), (35, (.ifCond .ne 13, 3)), (38, (.aload_n 0, 1)), (39, (.getfield 7, 3)), (42, (.iconst 0, 1)), (43, (.iload 4, 2)), (45, (.iadd, 1)), (46, (.iaload, 1)), (47, (.ireturn, 1)), (48, (.iload_n 3, 1)), (49, (.iconst 1, 1)), (50, (.if_icmp .ne 15, 3)), (53, (.aload_n 0, 1)), (54, (.getfield 7, 3)), (57, (.sipush 192, 3)), (60, (.iload 4, 2)), (62, (.iadd, 1)), (63, (.iaload, 1)), (64, (.ireturn, 1)), (65, (.iload_n 3, 1)), (66, (.iconst 2, 1)), (67, (.if_icmp .ne 14, 3)), (70, (.aload_n 0, 1)), (71, (.getfield 7, 3)), (74, (.bipush 96, 2)), (76, (.iload 4, 2)), (78, (.iadd, 1)), (79, (.iaload, 1)), (80, (.ireturn, 1)), (81, (.aload_n 0, 1)), (82, (.getfield 7, 3)), (85, (.aload_n 0, 1)), (86, (.getfield 13, 3)), (89, (.invokestatic 319, 3)), (92, (.aload_n 0, 1)), (93, (.iload_n 1, 1)), (94, (.iload_n 2, 1)), (95, (.invokevirtual 295, 3)), (98, (.aload_n 0, 1)), (99, (.iload_n 1, 1)), (100, (.iload_n 2, 1)), (101, (.invokevirtual 298, 3)), (104, (.istore 5, 2)), (106, (.aload_n 0, 1)), (107, (.iload_n 1, 1)), (108, (.iload_n 2, 1)), (109, (.bipush 8, 2)), (111, (.invokevirtual 301, 3)), (114, (.istore 6, 2)), (116, (.iload 5, 2)), (118, (.iload 6, 2)), (120, (.if_icmp .lt 16, 3)), (123, (.aload_n 0, 1)), (124, (.iload_n 1, 1)), (125, (.iload_n 2, 1)), (126, (.invokevirtual 304, 3)), (129, (.ifCond .eq 7, 3)), (132, (.iconst 1, 1)), (133, (.goto 4, 3)), (136, (.iconst 0, 1)), (137, (.istore 7, 2)), (139, (.aload_n 0, 1)), (140, (.getfield 13, 3)), (143, (.aload_n 0, 1)), (144, (.getfield 7, 3)), (147, (.invokestatic 319, 3)), (150, (.iload_n 3, 1)), (151, (.iconst 3, 1)), (152, (.if_icmp .ne 8, 3)), (155, (.iload 5, 2)), (157, (.goto 23, 3)), (160, (.iload_n 3, 1)), (161, (.iconst 4, 1)), (162, (.if_icmp .ne 8, 3)), (165, (.iload 6, 2)), (167, (.goto 13, 3)), (170, (.iload 7, 2)), (172, (.ifCond .eq 7, 3)), (175, (.iconst 1, 1)), (176, (.goto 4, 3)), (179, (.iconst 0, 1)), (180, (.ireturn, 1))]
theorem dm_X12_has : ∀ q ∈ tb_X12_has, decode zX12_has.2.1 q.1 = .ok q.2 := by decide +kernel
def f_X12_has_137 (n : Nat) (a3 a5 a6 s0 : Int32) (M : qM) : qR :=
  qc (f_X12_copies n 79 78 M) (fun _ m1 => (if a3 = (3 : Int32) then some (a5, m1) else (if a3 = (4 : Int32) then some (a6, m1) else (if s0 = (0 : Int32) then some ((0 : Int32), m1) else some ((1 : Int32), m1)))))
set_option maxRecDepth 4000 in
theorem w_X12_has_137 {g : qG} {k : qK} (n : Nat) (j r : Nat) (hj : q_isLaw j) (hr : q_isLaw r) (o : qOk g 4 zX12_has k) (a3 a5 a6 s0 : Int32) (M : qM) : qAE g k zX12_has (qL j r) 137 [some (.inr (some 77)), none, none, some (.inl a3), none, some (.inl a5), some (.inl a6), none] [.inl s0] (qL j r, M) (f_X12_has_137 n a3 a5 a6 s0 M) := by
  unfold f_X12_has_137
  refine qs_istore (L' := [some (.inr (some 77)), none, none, some (.inl a3), none, some (.inl a5), some (.inl a6), some (.inl s0)]) o (q_dm dm_X12_has 79 rfl) (Nat.le_of_ble_eq_true rfl) rfl ?_
  refine qr_aload_n o (q_dm dm_X12_has 80 rfl) rfl ?_
  refine qr_getr (kf := 1) o cf_X12 (sh77 j r) rfl (Nat.le_of_ble_eq_true rfl) fl_X12_13 (q_dm dm_X12_has 81 rfl) ?_
  refine qr_aload_n o (q_dm dm_X12_has 82 rfl) rfl ?_
  refine qr_getr (kf := 0) o cf_X12 (sh77 j r) rfl (Nat.le_of_ble_eq_true rfl) fl_X12_7 (q_dm dm_X12_has 83 rfl) ?_
  refine qr_calls_v (As := [.inr (some 79), .inr (some 78)]) (S := []) o (a_X12_copies g k.2.1 n j r hj hr (sh79 j r) (sh78 j r) M) (Nat.le_of_ble_eq_true rfl) zs_X12_copies rfl ml_X12_319 (Nat.le_of_ble_eq_true rfl) (q_dm dm_X12_has 84 rfl) (fun _ m1 => ?_)
  refine qr_iload_n o (q_dm dm_X12_has 85 rfl) rfl ?_
  refine qr_iconst o (q_dm dm_X12_has 86 rfl) ic_3 ?_
  refine qr_icmp_ne (tgt := 160) o (q_dm dm_X12_has 87 rfl) (by decide) ?_ ?_
  · refine qr_iload_n o (q_dm dm_X12_has 90 rfl) rfl ?_
    refine qr_iconst o (q_dm dm_X12_has 91 rfl) ic_4 ?_
    refine qr_icmp_ne (tgt := 170) o (q_dm dm_X12_has 92 rfl) (by decide) ?_ ?_
    · refine qr_iload o (q_dm dm_X12_has 95 rfl) rfl ?_
      refine qr_if_eq (tgt := 179) o (q_dm dm_X12_has 96 rfl) (by decide) ?_ ?_
      · refine qr_iconst o (q_dm dm_X12_has 99 rfl) ic_0 ?_
        exact qr_iret o rfl rfl (q_dm dm_X12_has 100 rfl)
      · refine qr_iconst o (q_dm dm_X12_has 97 rfl) ic_1 ?_
        refine qr_goto (tgt := 180) o (q_dm dm_X12_has 98 rfl) (by decide) ?_
        exact qr_iret o rfl rfl (q_dm dm_X12_has 100 rfl)
    · refine qr_iload o (q_dm dm_X12_has 93 rfl) rfl ?_
      refine qr_goto (tgt := 180) o (q_dm dm_X12_has 94 rfl) (by decide) ?_
      exact qr_iret o rfl rfl (q_dm dm_X12_has 100 rfl)
  · refine qr_iload o (q_dm dm_X12_has 88 rfl) rfl ?_
    refine qr_goto (tgt := 180) o (q_dm dm_X12_has 89 rfl) (by decide) ?_
    exact qr_iret o rfl rfl (q_dm dm_X12_has 100 rfl)

def f_X12_has_136 (n : Nat) (a3 a5 a6 : Int32) (M : qM) : qR :=
  f_X12_has_137 n a3 a5 a6 (0 : Int32) M
set_option maxRecDepth 4000 in
theorem w_X12_has_136 {g : qG} {k : qK} (n : Nat) (j r : Nat) (hj : q_isLaw j) (hr : q_isLaw r) (o : qOk g 4 zX12_has k) (a3 a5 a6 : Int32) (M : qM) : qAE g k zX12_has (qL j r) 136 [some (.inr (some 77)), none, none, some (.inl a3), none, some (.inl a5), some (.inl a6), none] [] (qL j r, M) (f_X12_has_136 n a3 a5 a6 M) := by
  unfold f_X12_has_136
  refine qr_iconst o (q_dm dm_X12_has 78 rfl) ic_0 ?_
  exact qr_loc (q_leS (q_leN (q_leN (q_leS (q_leN (q_leS (q_leS (q_leN q_le0)))))))) (w_X12_has_137 n j r hj hr o a3 a5 a6 (0 : Int32) M)

def f_X12_has (n : Nat) (a1 a2 a3 : Int32) (M : qM) : qR :=
  qc (f_X12_isPerson n a1 M) (fun r1 m2 => (if r1 = (0 : Int32) then some ((-1 : Int32), m2) else qc (f_X12_isKind n a2 m2) (fun r3 m4 => (if r3 = (0 : Int32) then some ((-1 : Int32), m4) else qc (f_X12_in n a3 (0 : Int32) (5 : Int32) m4) (fun r5 m6 => (if r5 = (0 : Int32) then some ((-1 : Int32), m6) else qc (f_X12_at n a1 a2 m6) (fun r7 m8 => (if a3 = (0 : Int32) then qg ((0 : Int32) + r7) 954 (some ((m8 78 ((0 : Int32) + r7).toNatClampNeg), m8)) else (if a3 = (1 : Int32) then qg ((192 : Int32) + r7) 954 (some ((m8 78 ((192 : Int32) + r7).toNatClampNeg), m8)) else (if a3 = (2 : Int32) then qg ((96 : Int32) + r7) 954 (some ((m8 78 ((96 : Int32) + r7).toNatClampNeg), m8)) else qc (f_X12_copies n 78 79 m8) (fun _ m9 => qc (f_X12_forgets n a1 a2 m9) (fun _ m10 => qc (f_X12_oldOnes n a1 a2 m10) (fun r11 m12 => qc (f_X12_voidFor n a1 a2 (8 : Int32) m12) (fun r13 m14 => (if r11 < r13 then f_X12_has_136 n a3 r11 r13 m14 else qc (f_X12_hasNeeds n a1 a2 m14) (fun r15 m16 => (if r15 = (0 : Int32) then f_X12_has_136 n a3 r11 r13 m16 else f_X12_has_137 n a3 r11 r13 (1 : Int32) m16)))))))))))))))))
set_option maxRecDepth 4000 in
theorem w_X12_has {g : qG} {k : qK} (n : Nat) (j r : Nat) (hj : q_isLaw j) (hr : q_isLaw r) (o : qOk g 4 zX12_has k) (a1 a2 a3 : Int32) (M : qM) : qAE g k zX12_has (qL j r) 0 [some (.inr (some 77)), some (.inl a1), some (.inl a2), some (.inl a3), none, none, none, none] [] (qL j r, M) (f_X12_has n a1 a2 a3 M) := by
  unfold f_X12_has
  refine qr_aload_n o (q_dm dm_X12_has 0 rfl) rfl ?_
  refine qr_iload_n o (q_dm dm_X12_has 1 rfl) rfl ?_
  refine qr_callv_i (As := [.inl a1]) (S := []) o (a_X12_isPerson g k.2.1 n j r hj hr a1 M) (Nat.le_of_ble_eq_true rfl) zv_X12_isPerson rfl cf_X12 (sh77 j r) ml_X12_310 (Nat.le_of_ble_eq_true rfl) (q_dm dm_X12_has 2 rfl) (fun r1 m2 => ?_)
  refine qr_if_eq (tgt := 25) o (q_dm dm_X12_has 3 rfl) (by decide) ?_ ?_
  · refine qr_iconst o (q_dm dm_X12_has 13 rfl) ic_m1 ?_
    exact qr_iret o rfl rfl (q_dm dm_X12_has 14 rfl)
  · refine qr_aload_n o (q_dm dm_X12_has 4 rfl) rfl ?_
    refine qr_iload_n o (q_dm dm_X12_has 5 rfl) rfl ?_
    refine qr_callv_i (As := [.inl a2]) (S := []) o (a_X12_isKind g k.2.1 n j r hj hr a2 m2) (Nat.le_of_ble_eq_true rfl) zv_X12_isKind rfl cf_X12 (sh77 j r) ml_X12_157 (Nat.le_of_ble_eq_true rfl) (q_dm dm_X12_has 6 rfl) (fun r3 m4 => ?_)
    refine qr_if_eq (tgt := 25) o (q_dm dm_X12_has 7 rfl) (by decide) ?_ ?_
    · refine qr_iconst o (q_dm dm_X12_has 13 rfl) ic_m1 ?_
      exact qr_iret o rfl rfl (q_dm dm_X12_has 14 rfl)
    · refine qr_iload_n o (q_dm dm_X12_has 8 rfl) rfl ?_
      refine qr_iconst o (q_dm dm_X12_has 9 rfl) ic_0 ?_
      refine qr_iconst o (q_dm dm_X12_has 10 rfl) ic_5 ?_
      refine qr_calls_i (As := [.inl a3, .inl (0 : Int32), .inl (5 : Int32)]) (S := []) o (a_X12_in g k.2.1 n j r hj hr a3 (0 : Int32) (5 : Int32) m4) (Nat.le_of_ble_eq_true rfl) zs_X12_in rfl ml_X12_153 (Nat.le_of_ble_eq_true rfl) (q_dm dm_X12_has 11 rfl) (fun r5 m6 => ?_)
      refine qr_if_ne (tgt := 27) o (q_dm dm_X12_has 12 rfl) (by decide) ?_ ?_
      · refine qr_iload_n o (q_dm dm_X12_has 15 rfl) rfl ?_
        refine qr_iload_n o (q_dm dm_X12_has 16 rfl) rfl ?_
        refine qr_calls_i (As := [.inl a1, .inl a2]) (S := []) o (a_X12_at g k.2.1 n j r hj hr a1 a2 m6) (Nat.le_of_ble_eq_true rfl) zs_X12_at rfl ml_X12_282 (Nat.le_of_ble_eq_true rfl) (q_dm dm_X12_has 17 rfl) (fun r7 m8 => ?_)
        refine qs_istore (L' := [some (.inr (some 77)), some (.inl a1), some (.inl a2), some (.inl a3), some (.inl r7), none, none, none]) o (q_dm dm_X12_has 18 rfl) (Nat.le_of_ble_eq_true rfl) rfl ?_
        refine qr_iload_n o (q_dm dm_X12_has 19 rfl) rfl ?_
        refine qr_if_ne (tgt := 48) o (q_dm dm_X12_has 20 rfl) (by decide) ?_ ?_
        · refine qr_iload_n o (q_dm dm_X12_has 28 rfl) rfl ?_
          refine qr_iconst o (q_dm dm_X12_has 29 rfl) ic_1 ?_
          refine qr_icmp_ne (tgt := 65) o (q_dm dm_X12_has 30 rfl) (by decide) ?_ ?_
          · refine qr_iload_n o (q_dm dm_X12_has 38 rfl) rfl ?_
            refine qr_iconst o (q_dm dm_X12_has 39 rfl) ic_2 ?_
            refine qr_icmp_ne (tgt := 81) o (q_dm dm_X12_has 40 rfl) (by decide) ?_ ?_
            · refine qr_aload_n o (q_dm dm_X12_has 48 rfl) rfl ?_
              refine qr_getr (kf := 0) o cf_X12 (sh77 j r) rfl (Nat.le_of_ble_eq_true rfl) fl_X12_7 (q_dm dm_X12_has 49 rfl) ?_
              refine qr_aload_n o (q_dm dm_X12_has 50 rfl) rfl ?_
              refine qr_getr (kf := 1) o cf_X12 (sh77 j r) rfl (Nat.le_of_ble_eq_true rfl) fl_X12_13 (q_dm dm_X12_has 51 rfl) ?_
              refine qr_calls_v (As := [.inr (some 78), .inr (some 79)]) (S := []) o (a_X12_copies g k.2.1 n j r hj hr (sh78 j r) (sh79 j r) m8) (Nat.le_of_ble_eq_true rfl) zs_X12_copies rfl ml_X12_319 (Nat.le_of_ble_eq_true rfl) (q_dm dm_X12_has 52 rfl) (fun _ m9 => ?_)
              refine qr_aload_n o (q_dm dm_X12_has 53 rfl) rfl ?_
              refine qr_iload_n o (q_dm dm_X12_has 54 rfl) rfl ?_
              refine qr_iload_n o (q_dm dm_X12_has 55 rfl) rfl ?_
              refine qr_callv_v (As := [.inl a1, .inl a2]) (S := []) o (a_X12_forgets g k.2.1 n j r hj hr a1 a2 m9) (Nat.le_of_ble_eq_true rfl) zv_X12_forgets rfl cf_X12 (sh77 j r) ml_X12_295 (Nat.le_of_ble_eq_true rfl) (q_dm dm_X12_has 56 rfl) (fun _ m10 => ?_)
              refine qr_aload_n o (q_dm dm_X12_has 57 rfl) rfl ?_
              refine qr_iload_n o (q_dm dm_X12_has 58 rfl) rfl ?_
              refine qr_iload_n o (q_dm dm_X12_has 59 rfl) rfl ?_
              refine qr_callv_i (As := [.inl a1, .inl a2]) (S := []) o (a_X12_oldOnes g k.2.1 n j r hj hr a1 a2 m10) (Nat.le_of_ble_eq_true rfl) zv_X12_oldOnes rfl cf_X12 (sh77 j r) ml_X12_298 (Nat.le_of_ble_eq_true rfl) (q_dm dm_X12_has 60 rfl) (fun r11 m12 => ?_)
              refine qs_istore (L' := [some (.inr (some 77)), some (.inl a1), some (.inl a2), some (.inl a3), some (.inl r7), some (.inl r11), none, none]) o (q_dm dm_X12_has 61 rfl) (Nat.le_of_ble_eq_true rfl) rfl ?_
              refine qr_aload_n o (q_dm dm_X12_has 62 rfl) rfl ?_
              refine qr_iload_n o (q_dm dm_X12_has 63 rfl) rfl ?_
              refine qr_iload_n o (q_dm dm_X12_has 64 rfl) rfl ?_
              refine qr_bipush o (q_dm dm_X12_has 65 rfl) bi_8 ?_
              refine qr_callv_i (As := [.inl a1, .inl a2, .inl (8 : Int32)]) (S := []) o (a_X12_voidFor g k.2.1 n j r hj hr a1 a2 (8 : Int32) m12) (Nat.le_of_ble_eq_true rfl) zv_X12_voidFor rfl cf_X12 (sh77 j r) ml_X12_301 (Nat.le_of_ble_eq_true rfl) (q_dm dm_X12_has 66 rfl) (fun r13 m14 => ?_)
              refine qs_istore (L' := [some (.inr (some 77)), some (.inl a1), some (.inl a2), some (.inl a3), some (.inl r7), some (.inl r11), some (.inl r13), none]) o (q_dm dm_X12_has 67 rfl) (Nat.le_of_ble_eq_true rfl) rfl ?_
              refine qr_iload o (q_dm dm_X12_has 68 rfl) rfl ?_
              refine qr_iload o (q_dm dm_X12_has 69 rfl) rfl ?_
              refine qr_icmp_lt (tgt := 136) o (q_dm dm_X12_has 70 rfl) (by decide) ?_ ?_
              · exact qr_loc (q_leS (q_leN (q_leN (q_leS (q_leN (q_leS (q_leS (q_leN q_le0)))))))) (w_X12_has_136 n j r hj hr o a3 r11 r13 m14)
              · refine qr_aload_n o (q_dm dm_X12_has 71 rfl) rfl ?_
                refine qr_iload_n o (q_dm dm_X12_has 72 rfl) rfl ?_
                refine qr_iload_n o (q_dm dm_X12_has 73 rfl) rfl ?_
                refine qr_callv_i (As := [.inl a1, .inl a2]) (S := []) o (a_X12_hasNeeds g k.2.1 n j r hj hr a1 a2 m14) (Nat.le_of_ble_eq_true rfl) zv_X12_hasNeeds rfl cf_X12 (sh77 j r) ml_X12_304 (Nat.le_of_ble_eq_true rfl) (q_dm dm_X12_has 74 rfl) (fun r15 m16 => ?_)
                refine qr_if_eq (tgt := 136) o (q_dm dm_X12_has 75 rfl) (by decide) ?_ ?_
                · exact qr_loc (q_leS (q_leN (q_leN (q_leS (q_leN (q_leS (q_leS (q_leN q_le0)))))))) (w_X12_has_136 n j r hj hr o a3 r11 r13 m16)
                · refine qr_iconst o (q_dm dm_X12_has 76 rfl) ic_1 ?_
                  refine qr_goto (tgt := 137) o (q_dm dm_X12_has 77 rfl) (by decide) ?_
                  exact qr_loc (q_leS (q_leN (q_leN (q_leS (q_leN (q_leS (q_leS (q_leN q_le0)))))))) (w_X12_has_137 n j r hj hr o a3 r11 r13 (1 : Int32) m16)
            · refine qr_aload_n o (q_dm dm_X12_has 41 rfl) rfl ?_
              refine qr_getr (kf := 0) o cf_X12 (sh77 j r) rfl (Nat.le_of_ble_eq_true rfl) fl_X12_7 (q_dm dm_X12_has 42 rfl) ?_
              refine qr_bipush o (q_dm dm_X12_has 43 rfl) bi_96 ?_
              refine qr_iload o (q_dm dm_X12_has 44 rfl) rfl ?_
              refine qr_iadd o (q_dm dm_X12_has 45 rfl) ?_
              refine qr_iald o (sh78 j r) (q_dm dm_X12_has 46 rfl) ?_
              exact qr_iret o rfl rfl (q_dm dm_X12_has 47 rfl)
          · refine qr_aload_n o (q_dm dm_X12_has 31 rfl) rfl ?_
            refine qr_getr (kf := 0) o cf_X12 (sh77 j r) rfl (Nat.le_of_ble_eq_true rfl) fl_X12_7 (q_dm dm_X12_has 32 rfl) ?_
            refine qr_sipush o (q_dm dm_X12_has 33 rfl) si_192 ?_
            refine qr_iload o (q_dm dm_X12_has 34 rfl) rfl ?_
            refine qr_iadd o (q_dm dm_X12_has 35 rfl) ?_
            refine qr_iald o (sh78 j r) (q_dm dm_X12_has 36 rfl) ?_
            exact qr_iret o rfl rfl (q_dm dm_X12_has 37 rfl)
        · refine qr_aload_n o (q_dm dm_X12_has 21 rfl) rfl ?_
          refine qr_getr (kf := 0) o cf_X12 (sh77 j r) rfl (Nat.le_of_ble_eq_true rfl) fl_X12_7 (q_dm dm_X12_has 22 rfl) ?_
          refine qr_iconst o (q_dm dm_X12_has 23 rfl) ic_0 ?_
          refine qr_iload o (q_dm dm_X12_has 24 rfl) rfl ?_
          refine qr_iadd o (q_dm dm_X12_has 25 rfl) ?_
          refine qr_iald o (sh78 j r) (q_dm dm_X12_has 26 rfl) ?_
          exact qr_iret o rfl rfl (q_dm dm_X12_has 27 rfl)
      · refine qr_iconst o (q_dm dm_X12_has 13 rfl) ic_m1 ?_
        exact qr_iret o rfl rfl (q_dm dm_X12_has 14 rfl)

theorem a_X12_has (g : qG) (l : Launch) (n : Nat) (j r : Nat) (hj : q_isLaw j) (hr : q_isLaw r) (a1 a2 a3 : Int32) (M : qM) : qAM g l 4 zX12_has (qL j r) [.inr (some 77), .inl a1, .inl a2, .inl a3] (qL j r, M) (f_X12_has n a1 a2 a3 M) :=
  qAM.of zv_X12_has.1 (by show 4 ≤ 8; decide) (fun k hk o => w_X12_has n j r hj hr o a1 a2 a3 M)
def tb_X12_hasOpenSum : List (Nat × Instr × Nat) := [(0, (.iload_n 1, 1)), (1, (.istore_n 2, 1)), (2, (.iload_n 2, 1)), (3, (.aload_n 0, 1)), (4, (.getfield 199, 3)), (7, (.if_icmp .ge 25, 3)), (10, (.aload_n 0, 1)), (11, (.getfield 35, 3)), (14, (.iload_n 2, 1)), (15, (.iaload, 1)), (16, (.ldc 195, 2)), (18, (.idiv, 1)), (19, (.bipush 14, 2)), (21, (.if_icmp .ne 5, 3)), (24, (.iconst 1, 1)), (25, (.ireturn, 1)), (26, (.iinc 2 1, 3)), (29, (.goto (-27), 3)), (32, (.iconst 0, 1)), (33, (.ireturn, 1))]
theorem dm_X12_hasOpenSum : ∀ q ∈ tb_X12_hasOpenSum, decode zX12_hasOpenSum.2.1 q.1 = .ok q.2 := by decide +kernel
def b_X12_hasOpenSum_2 (n : Nat) (K2 : Int32 → qM → qR) (a2 : Int32) (M : qM) : qR :=
  (if (M 77 15) ≤ a2 then some ((0 : Int32), M) else qg a2 260 ((if ((M 86 a2.toNatClampNeg) / (1048576 : Int32)) = (14 : Int32) then some ((1 : Int32), M) else ql (a2 + (1 : Int32)) (fun x1 => K2 x1 M))))
set_option maxRecDepth 4000 in
theorem wb_X12_hasOpenSum_2 {g : qG} {k : qK} (n : Nat) (j r : Nat) (hj : q_isLaw j) (hr : q_isLaw r) (o : qOk g 0 zX12_hasOpenSum k) (K2 : Int32 → qM → qR) (hK2 : ∀ (a2 : Int32) (M : qM), qAE g k zX12_hasOpenSum (qL j r) 2 [some (.inr (some 77)), none, some (.inl a2)] [] (qL j r, M) (K2 a2 M)) (a2 : Int32) (M : qM) : qAE g k zX12_hasOpenSum (qL j r) 2 [some (.inr (some 77)), none, some (.inl a2)] [] (qL j r, M) (b_X12_hasOpenSum_2 n K2 a2 M) := by
  unfold b_X12_hasOpenSum_2
  refine qr_iload_n o (q_dm dm_X12_hasOpenSum 2 rfl) rfl ?_
  refine qr_aload_n o (q_dm dm_X12_hasOpenSum 3 rfl) rfl ?_
  refine qr_getf (kf := 15) o cf_X12 (sh77 j r) rfl (Nat.le_of_ble_eq_true rfl) fl_X12_199 (q_dm dm_X12_hasOpenSum 4 rfl) ?_
  refine qr_icmp_ge (tgt := 32) o (q_dm dm_X12_hasOpenSum 5 rfl) (by decide) ?_ ?_
  · refine qr_iconst o (q_dm dm_X12_hasOpenSum 18 rfl) ic_0 ?_
    exact qr_iret o rfl (by decide) (q_dm dm_X12_hasOpenSum 19 rfl)
  · refine qr_aload_n o (q_dm dm_X12_hasOpenSum 6 rfl) rfl ?_
    refine qr_getr (kf := 19) o cf_X12 (sh77 j r) rfl (Nat.le_of_ble_eq_true rfl) fl_X12_35 (q_dm dm_X12_hasOpenSum 7 rfl) ?_
    refine qr_iload_n o (q_dm dm_X12_hasOpenSum 8 rfl) rfl ?_
    refine qr_iald o (sh86 j r) (q_dm dm_X12_hasOpenSum 9 rfl) ?_
    refine qr_ldc o (q_dm dm_X12_hasOpenSum 10 rfl) kc_X12_195 ?_
    refine qr_idivc o (q_dm dm_X12_hasOpenSum 11 rfl) (by decide) ?_
    refine qr_bipush o (q_dm dm_X12_hasOpenSum 12 rfl) bi_14 ?_
    refine qr_icmp_ne (tgt := 26) o (q_dm dm_X12_hasOpenSum 13 rfl) (by decide) ?_ ?_
    · refine qs_iincl2 (L' := fun x1 => [some (.inr (some 77)), none, some (.inl x1)]) o (q_dm dm_X12_hasOpenSum 16 rfl) rfl ic_1 (Nat.le_of_ble_eq_true rfl) (fun _ => rfl) (fun x1 => ?_)
      refine qr_goto (tgt := 2) o (q_dm dm_X12_hasOpenSum 17 rfl) (by decide) ?_
      exact qr_loc (q_leS (q_leN (q_leS q_le0))) (hK2 x1 M)
    · refine qr_iconst o (q_dm dm_X12_hasOpenSum 14 rfl) ic_1 ?_
      exact qr_iret o rfl (by decide) (q_dm dm_X12_hasOpenSum 15 rfl)

def f_X12_hasOpenSum_2 (n : Nat) : Nat → Int32 → qM → qR
  | 0, _, _ => none
  | m + 1, a2, M => b_X12_hasOpenSum_2 n (f_X12_hasOpenSum_2 n m) a2 M
theorem w_X12_hasOpenSum_2 {g : qG} {k : qK} (n : Nat) (j r : Nat) (hj : q_isLaw j) (hr : q_isLaw r) (o : qOk g 0 zX12_hasOpenSum k) : ∀ (m : Nat) (a2 : Int32) (M : qM), qAE g k zX12_hasOpenSum (qL j r) 2 [some (.inr (some 77)), none, some (.inl a2)] [] (qL j r, M) (f_X12_hasOpenSum_2 n m a2 M) := by
  intro m
  induction m with
  | zero =>
    intro a2 M
    exact qr_none
  | succ m ih =>
    intro a2 M
    exact wb_X12_hasOpenSum_2 n j r hj hr o (f_X12_hasOpenSum_2 n m) ih a2 M
def f_X12_hasOpenSum (n : Nat) (a1 : Int32) (M : qM) : qR :=
  f_X12_hasOpenSum_2 n n a1 M
set_option maxRecDepth 4000 in
theorem w_X12_hasOpenSum {g : qG} {k : qK} (n : Nat) (j r : Nat) (hj : q_isLaw j) (hr : q_isLaw r) (o : qOk g 0 zX12_hasOpenSum k) (a1 : Int32) (M : qM) : qAE g k zX12_hasOpenSum (qL j r) 0 [some (.inr (some 77)), some (.inl a1), none] [] (qL j r, M) (f_X12_hasOpenSum n a1 M) := by
  unfold f_X12_hasOpenSum
  refine qr_iload_n o (q_dm dm_X12_hasOpenSum 0 rfl) rfl ?_
  refine qs_istore_n (L' := [some (.inr (some 77)), some (.inl a1), some (.inl a1)]) o (q_dm dm_X12_hasOpenSum 1 rfl) (Nat.le_of_ble_eq_true rfl) rfl ?_
  exact qr_loc (q_leS (q_leN (q_leS q_le0))) (w_X12_hasOpenSum_2 n j r hj hr o n a1 M)

theorem a_X12_hasOpenSum (g : qG) (l : Launch) (n : Nat) (j r : Nat) (hj : q_isLaw j) (hr : q_isLaw r) (a1 : Int32) (M : qM) : qAM g l 0 zX12_hasOpenSum (qL j r) [.inr (some 77), .inl a1] (qL j r, M) (f_X12_hasOpenSum n a1 M) :=
  qAM.of zv_X12_hasOpenSum.1 (by show 2 ≤ 3; decide) (fun k hk o => w_X12_hasOpenSum n j r hj hr o a1 M)
