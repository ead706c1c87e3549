def tb_X12_court : List (Nat × Instr × Nat) := [(0, (.iload_n 1, 1)), (1, (.iconst 1, 1)), (2, (.bipush 9, 2)), (4, (.invokestatic 153, 3)), (7, (.ifCond .eq 63, 3)), (10, (.iload_n 2, 1)), (11, (.iconst 0, 1)), (12, (.iconst 1, 1)), (13, (.iload_n 1, 1)), (14, (.ishl, 1)), (15, (.iconst 1, 1)), (16, (.isub, 1)), (17, (.invokestatic 153, 3)), (20, (.ifCond .eq 50, 3)), (23, (.iload_n 3, 1)), (24, (.iconst 0, 1)), (25, (.iconst 1, 1)), (26, (.iload_n 1, 1)), (27, (.ishl, 1)), (28, (.iconst 1, 1)), (29, (.isub, 1)), (30, (.invokestatic 153, 3)), (33, (.ifCond .eq 37, 3)), (36, (.iload 4, 2)), (38, (.iconst 0, 1)), (39, (.iconst 1, 1)), (40, (.iload_n 1, 1)), (41, (.ishl, 1)), (42, (.iconst 1, 1)), (43, (.isub, 1)), (44, (.invokestatic 153, 3)), (47, (.ifCond .eq 23, 3)), (50, (.iload 5, 2)), (52, (.iconst 0, 1)), (53, (.iload_n 1, 1)), (54, (.invokestatic 153, 3)), (57, (.ifCond .eq 13, 3)), (60, (.iload 6, 2)), (62, (.iconst 0, 1)), (63, (.iconst 2, 1)), (64, (.invokestatic 153, 3)), (67, (.ifCond .ne 5, 3)), (70, (.iconst (-1), 1)), (71, (.ireturn, 1)), (72, (.iload_n 2, 1)), (73, (.invokestatic 276, 3)), (76, (.istore 7, 2)), (78, (.iconst 2, 1)), (79, (.iload 7, 2)), (81, (.imul, 1)), (82, (.iload_n 1, 1)), (83, (.if_icmp .lt 7, 3)), (86, (.iconst 1, 1)), (87, (.goto 4, 3)), (90, (.iconst 0, 1)), (91, (.istore 8, 2)), (93, (.iconst 0, 1)), (94, (.istore 9, 2)), (96, (.iconst 0, 1)), (97, (.istore 10, 2)), (99, (.iload 10, 2)), (101, (.iload_n 1, 1)), (102, (.if_icmp .ge 63, 3)), (105, (.iload_n 2, 1)), (106, (.iload 10, 2)), (108, (.invokestatic 149, 3)), (111, (.istore 11, 2)), (113, (.iload 7, 2)), (115, (.iload 5, 2)), (117, (.if_icmp .lt 23, 3)), (120, (.iload 11, 2)), (122, (.iload 8, 2)), (124, (.if_icmp .ne 7, 3)), (127, (.iload_n 3, 1)), (128, (.goto 5, 3)), (131, (.iload 4, 2)), (133, (.iload 10, 2)), (135, (.invokestatic 149, 3)), (138, (.istore 11, 2)), (140, (.iload 11, 2)), (142, (.ifCond .eq 13, 3)), (145, (.iload 9, 2)), (147, (.iconst 1, 1)), (148, (.iload 10, 2)), (150, (.ishl, 1)), (151, (.ior, 1)), (152, (.goto 5, 3)), (155, (.iload 9, 2)), (157, (.istore 9, 2)), (159, (.iinc 10 1, 3)), (162, (.goto (-63), 3)), (165, (.iload 6, 2)), (167, (.ifCond .ne 11, 3)), (170, (.iload 9, 2)), (172, (.invokestatic 276, 3)), (175, (.goto 35, 3)), (178, (.iload 6, 2)), (180, (.iconst 1, 1)), (181, (.if_icmp .ne 22, 3)), (184, (.iconst 2, 1)), (185, (.iload 9, 2)), (187, (.invokestatic 276, 3)), (190, (.imul, 1)), (191, (.iload_n 1, 1)), (192, (.if_icmp .le 7, 3)), (195, (.iconst 1, 1)), (196, (.goto 14, 3)), (199, (.iconst 0, 1)), (200, (.goto 10, 3)), (203, (.iload 9, 2)), (205, (.iload_n 2, 1)), (206, (.ixor, 1)), (207, (.invokestatic 276, 3)), (210, (.ireturn, 1))]
theorem dm_X12_court : ∀ q ∈ tb_X12_court, decode zX12_court.2.1 q.1 = .ok q.2 := by decide +kernel
def f_X12_court_140 (n : Nat) (K99 : Int32 → Int32 → Int32 → Int32 → Int32 → Int32 → Int32 → Int32 → Int32 → Int32 → qM → qR) (a1 a2 a3 a4 a5 a6 a7 a8 a9 a10 a11 : Int32) (M : qM) : qR :=
  (if a11 = (0 : Int32) then ql (a10 + (1 : Int32)) (fun x1 => K99 a1 a2 a3 a4 a5 a6 a7 a8 a9 x1 M) else ql (a9 ||| ((1 : Int32) <<< (a10 &&& 31))) (fun x2 => ql (a10 + (1 : Int32)) (fun x3 => K99 a1 a2 a3 a4 a5 a6 a7 a8 x2 x3 M)))
set_option maxRecDepth 4000 in
theorem w_X12_court_140 {g : qG} {k : qK} (n : Nat) (j r : Nat) (hj : q_isLaw j) (hr : q_isLaw r) (o : qOk g 1 zX12_court k) (K99 : Int32 → Int32 → Int32 → Int32 → Int32 → Int32 → Int32 → Int32 → Int32 → Int32 → qM → qR) (hK99 : ∀ (a1 a2 a3 a4 a5 a6 a7 a8 a9 a10 : Int32) (M : qM), qAE g k zX12_court (qL j r) 99 [none, some (.inl a1), some (.inl a2), some (.inl a3), some (.inl a4), some (.inl a5), some (.inl a6), some (.inl a7), some (.inl a8), some (.inl a9), some (.inl a10), none] [] (qL j r, M) (K99 a1 a2 a3 a4 a5 a6 a7 a8 a9 a10 M)) (a1 a2 a3 a4 a5 a6 a7 a8 a9 a10 a11 : Int32) (M : qM) : qAE g k zX12_court (qL j r) 140 [none, some (.inl a1), some (.inl a2), some (.inl a3), some (.inl a4), some (.inl a5), some (.inl a6), some (.inl a7), some (.inl a8), some (.inl a9), some (.inl a10), some (.inl a11)] [] (qL j r, M) (f_X12_court_140 n K99 a1 a2 a3 a4 a5 a6 a7 a8 a9 a10 a11 M) := by
  unfold f_X12_court_140
  refine qr_iload o (q_dm dm_X12_court 79 rfl) rfl ?_
  refine qr_if_eq (tgt := 155) o (q_dm dm_X12_court 80 rfl) (by decide) ?_ ?_
  · refine qr_iload o (q_dm dm_X12_court 87 rfl) rfl ?_
    refine qs_istore (L' := [none, some (.inl a1), some (.inl a2), some (.inl a3), some (.inl a4), some (.inl a5), some (.inl a6), some (.inl a7), some (.inl a8), some (.inl a9), some (.inl a10), some (.inl a11)]) o (q_dm dm_X12_court 88 rfl) (Nat.le_of_ble_eq_true rfl) rfl ?_
    refine qs_iincl2 (L' := fun x1 => [none, some (.inl a1), some (.inl a2), some (.inl a3), some (.inl a4), some (.inl a5), some (.inl a6), some (.inl a7), some (.inl a8), some (.inl a9), some (.inl x1), some (.inl a11)]) o (q_dm dm_X12_court 89 rfl) rfl ic_1 (Nat.le_of_ble_eq_true rfl) (fun _ => rfl) (fun x1 => ?_)
    refine qr_goto (tgt := 99) o (q_dm dm_X12_court 90 rfl) (by decide) ?_
    exact qr_loc (q_leN (q_leS (q_leS (q_leS (q_leS (q_leS (q_leS (q_leS (q_leS (q_leS (q_leS (q_leN q_le0)))))))))))) (hK99 a1 a2 a3 a4 a5 a6 a7 a8 a9 x1 M)
  · refine qr_iload o (q_dm dm_X12_court 81 rfl) rfl ?_
    refine qr_iconst o (q_dm dm_X12_court 82 rfl) ic_1 ?_
    refine qr_iload o (q_dm dm_X12_court 83 rfl) rfl ?_
    refine qr_ishl o (q_dm dm_X12_court 84 rfl) ?_
    refine qr_ior o (q_dm dm_X12_court 85 rfl) ?_
    refine qr_goto (tgt := 157) o (q_dm dm_X12_court 86 rfl) (by decide) ?_
    refine qr_lt (fun x2 => ?_)
    refine qs_istore (L' := [none, some (.inl a1), some (.inl a2), some (.inl a3), some (.inl a4), some (.inl a5), some (.inl a6), some (.inl a7), some (.inl a8), some (.inl x2), some (.inl a10), some (.inl a11)]) o (q_dm dm_X12_court 88 rfl) (Nat.le_of_ble_eq_true rfl) rfl ?_
    refine qs_iincl2 (L' := fun x3 => [none, some (.inl a1), some (.inl a2), some (.inl a3), some (.inl a4), some (.inl a5), some (.inl a6), some (.inl a7), some (.inl a8), some (.inl x2), some (.inl x3), some (.inl a11)]) o (q_dm dm_X12_court 89 rfl) rfl ic_1 (Nat.le_of_ble_eq_true rfl) (fun _ => rfl) (fun x3 => ?_)
    refine qr_goto (tgt := 99) o (q_dm dm_X12_court 90 rfl) (by decide) ?_
    exact qr_loc (q_leN (q_leS (q_leS (q_leS (q_leS (q_leS (q_leS (q_leS (q_leS (q_leS (q_leS (q_leN q_le0)))))))))))) (hK99 a1 a2 a3 a4 a5 a6 a7 a8 x2 x3 M)

def f_X12_court_133 (n : Nat) (K99 : Int32 → Int32 → Int32 → Int32 → Int32 → Int32 → Int32 → Int32 → Int32 → Int32 → qM → qR) (a1 a2 a3 a4 a5 a6 a7 a8 a9 a10 s0 : Int32) (M : qM) : qR :=
  qc (f_X12_has0 n s0 a10 M) (fun r1 m2 => f_X12_court_140 n K99 a1 a2 a3 a4 a5 a6 a7 a8 a9 a10 r1 m2)
set_option maxRecDepth 4000 in
theorem w_X12_court_133 {g : qG} {k : qK} (n : Nat) (j r : Nat) (hj : q_isLaw j) (hr : q_isLaw r) (o : qOk g 1 zX12_court k) (K99 : Int32 → Int32 → Int32 → Int32 → Int32 → Int32 → Int32 → Int32 → Int32 → Int32 → qM → qR) (hK99 : ∀ (a1 a2 a3 a4 a5 a6 a7 a8 a9 a10 : Int32) (M : qM), qAE g k zX12_court (qL j r) 99 [none, some (.inl a1), some (.inl a2), some (.inl a3), some (.inl a4), some (.inl a5), some (.inl a6), some (.inl a7), some (.inl a8), some (.inl a9), some (.inl a10), none] [] (qL j r, M) (K99 a1 a2 a3 a4 a5 a6 a7 a8 a9 a10 M)) (a1 a2 a3 a4 a5 a6 a7 a8 a9 a10 s0 : Int32) (M : qM) : qAE g k zX12_court (qL j r) 133 [none, some (.inl a1), some (.inl a2), some (.inl a3), some (.inl a4), some (.inl a5), some (.inl a6), some (.inl a7), some (.inl a8), some (.inl a9), some (.inl a10), none] [.inl s0] (qL j r, M) (f_X12_court_133 n K99 a1 a2 a3 a4 a5 a6 a7 a8 a9 a10 s0 M) := by
  unfold f_X12_court_133
  refine qr_iload o (q_dm dm_X12_court 76 rfl) rfl ?_
  refine qr_calls_i (As := [.inl s0, .inl a10]) (S := []) o (a_X12_has0 g k.2.1 n j r hj hr s0 a10 M) (Nat.le_of_ble_eq_true rfl) zs_X12_has0 rfl ml_X12_149 (Nat.le_of_ble_eq_true rfl) (q_dm dm_X12_court 77 rfl) (fun r1 m2 => ?_)
  refine qs_istore (L' := [none, some (.inl a1), some (.inl a2), some (.inl a3), some (.inl a4), some (.inl a5), some (.inl a6), some (.inl a7), some (.inl a8), some (.inl a9), some (.inl a10), some (.inl r1)]) o (q_dm dm_X12_court 78 rfl) (Nat.le_of_ble_eq_true rfl) rfl ?_
  exact qr_loc (q_leN (q_leS (q_leS (q_leS (q_leS (q_leS (q_leS (q_leS (q_leS (q_leS (q_leS (q_leS q_le0)))))))))))) (w_X12_court_140 n j r hj hr o K99 hK99 a1 a2 a3 a4 a5 a6 a7 a8 a9 a10 r1 m2)

def b_X12_court_99 (n : Nat) (K99 : Int32 → Int32 → Int32 → Int32 → Int32 → Int32 → Int32 → Int32 → Int32 → Int32 → qM → qR) (a1 a2 a3 a4 a5 a6 a7 a8 a9 a10 : Int32) (M : qM) : qR :=
  (if a1 ≤ a10 then (if a6 = (0 : Int32) then qc (f_X12_bits n a9 M) (fun r5 m6 => some (r5, m6)) else (if a6 = (1 : Int32) then qc (f_X12_bits n a9 M) (fun r3 m4 => (if ((2 : Int32) * r3) ≤ a1 then some ((0 : Int32), m4) else some ((1 : Int32), m4))) else qc (f_X12_bits n (a9 ^^^ a2) M) (fun r1 m2 => some (r1, m2)))) else qc (f_X12_has0 n a2 a10 M) (fun r7 m8 => (if a7 < a5 then f_X12_court_140 n K99 a1 a2 a3 a4 a5 a6 a7 a8 a9 a10 r7 m8 else (if r7 = a8 then f_X12_court_133 n K99 a1 a2 a3 a4 a5 a6 a7 a8 a9 a10 a3 m8 else f_X12_court_133 n K99 a1 a2 a3 a4 a5 a6 a7 a8 a9 a10 a4 m8))))
set_option maxRecDepth 4000 in
theorem wb_X12_court_99 {g : qG} {k : qK} (n : Nat) (j r : Nat) (hj : q_isLaw j) (hr : q_isLaw r) (o : qOk g 1 zX12_court k) (K99 : Int32 → Int32 → Int32 → Int32 → Int32 → Int32 → Int32 → Int32 → Int32 → Int32 → qM → qR) (hK99 : ∀ (a1 a2 a3 a4 a5 a6 a7 a8 a9 a10 : Int32) (M : qM), qAE g k zX12_court (qL j r) 99 [none, some (.inl a1), some (.inl a2), some (.inl a3), some (.inl a4), some (.inl a5), some (.inl a6), some (.inl a7), some (.inl a8), some (.inl a9), some (.inl a10), none] [] (qL j r, M) (K99 a1 a2 a3 a4 a5 a6 a7 a8 a9 a10 M)) (a1 a2 a3 a4 a5 a6 a7 a8 a9 a10 : Int32) (M : qM) : qAE g k zX12_court (qL j r) 99 [none, some (.inl a1), some (.inl a2), some (.inl a3), some (.inl a4), some (.inl a5), some (.inl a6), some (.inl a7), some (.inl a8), some (.inl a9), some (.inl a10), none] [] (qL j r, M) (b_X12_court_99 n K99 a1 a2 a3 a4 a5 a6 a7 a8 a9 a10 M) := by
  unfold b_X12_court_99
  refine qr_iload o (q_dm dm_X12_court 60 rfl) rfl ?_
  refine qr_iload_n o (q_dm dm_X12_court 61 rfl) rfl ?_
  refine qr_icmp_ge (tgt := 165) o (q_dm dm_X12_court 62 rfl) (by decide) ?_ ?_
  · refine qr_iload o (q_dm dm_X12_court 91 rfl) rfl ?_
    refine qr_if_ne (tgt := 178) o (q_dm dm_X12_court 92 rfl) (by decide) ?_ ?_
    · refine qr_iload o (q_dm dm_X12_court 96 rfl) rfl ?_
      refine qr_iconst o (q_dm dm_X12_court 97 rfl) ic_1 ?_
      refine qr_icmp_ne (tgt := 203) o (q_dm dm_X12_court 98 rfl) (by decide) ?_ ?_
      · refine qr_iload o (q_dm dm_X12_court 109 rfl) rfl ?_
        refine qr_iload_n o (q_dm dm_X12_court 110 rfl) rfl ?_
        refine qr_ixor o (q_dm dm_X12_court 111 rfl) ?_
        refine qr_calls_i (As := [.inl (a9 ^^^ a2)]) (S := []) o (a_X12_bits g k.2.1 n j r hj hr (a9 ^^^ a2) M) (Nat.le_of_ble_eq_true rfl) zs_X12_bits rfl ml_X12_276 (Nat.le_of_ble_eq_true rfl) (q_dm dm_X12_court 112 rfl) (fun r1 m2 => ?_)
        exact qr_iret o rfl rfl (q_dm dm_X12_court 113 rfl)
      · refine qr_iconst o (q_dm dm_X12_court 99 rfl) ic_2 ?_
        refine qr_iload o (q_dm dm_X12_court 100 rfl) rfl ?_
        refine qr_calls_i (As := [.inl a9]) (S := [.inl (2 : Int32)]) o (a_X12_bits g k.2.1 n j r hj hr a9 M) (Nat.le_of_ble_eq_true rfl) zs_X12_bits rfl ml_X12_276 (Nat.le_of_ble_eq_true rfl) (q_dm dm_X12_court 101 rfl) (fun r3 m4 => ?_)
        refine qr_imul o (q_dm dm_X12_court 102 rfl) ?_
        refine qr_iload_n o (q_dm dm_X12_court 103 rfl) rfl ?_
        refine qr_icmp_le (tgt := 199) o (q_dm dm_X12_court 104 rfl) (by decide) ?_ ?_
        · refine qr_iconst o (q_dm dm_X12_court 107 rfl) ic_0 ?_
          refine qr_goto (tgt := 210) o (q_dm dm_X12_court 108 rfl) (by decide) ?_
          exact qr_iret o rfl rfl (q_dm dm_X12_court 113 rfl)
        · refine qr_iconst o (q_dm dm_X12_court 105 rfl) ic_1 ?_
          refine qr_goto (tgt := 210) o (q_dm dm_X12_court 106 rfl) (by decide) ?_
          exact qr_iret o rfl rfl (q_dm dm_X12_court 113 rfl)
    · refine qr_iload o (q_dm dm_X12_court 93 rfl) rfl ?_
      refine qr_calls_i (As := [.inl a9]) (S := []) o (a_X12_bits g k.2.1 n j r hj hr a9 M) (Nat.le_of_ble_eq_true rfl) zs_X12_bits rfl ml_X12_276 (Nat.le_of_ble_eq_true rfl) (q_dm dm_X12_court 94 rfl) (fun r5 m6 => ?_)
      refine qr_goto (tgt := 210) o (q_dm dm_X12_court 95 rfl) (by decide) ?_
      exact qr_iret o rfl rfl (q_dm dm_X12_court 113 rfl)
  · refine qr_iload_n o (q_dm dm_X12_court 63 rfl) rfl ?_
    refine qr_iload o (q_dm dm_X12_court 64 rfl) rfl ?_
    refine qr_calls_i (As := [.inl a2, .inl a10]) (S := []) o (a_X12_has0 g k.2.1 n j r hj hr a2 a10 M) (Nat.le_of_ble_eq_true rfl) zs_X12_has0 rfl ml_X12_149 (Nat.le_of_ble_eq_true rfl) (q_dm dm_X12_court 65 rfl) (fun r7 m8 => ?_)
    refine qs_istore (L' := [none, some (.inl a1), some (.inl a2), some (.inl a3), some (.inl a4), some (.inl a5), some (.inl a6), some (.inl a7), some (.inl a8), some (.inl a9), some (.inl a10), some (.inl r7)]) o (q_dm dm_X12_court 66 rfl) (Nat.le_of_ble_eq_true rfl) rfl ?_
    refine qr_iload o (q_dm dm_X12_court 67 rfl) rfl ?_
    refine qr_iload o (q_dm dm_X12_court 68 rfl) rfl ?_
    refine qr_icmp_lt (tgt := 140) o (q_dm dm_X12_court 69 rfl) (by decide) ?_ ?_
    · exact qr_loc (q_leN (q_leS (q_leS (q_leS (q_leS (q_leS (q_leS (q_leS (q_leS (q_leS (q_leS (q_leS q_le0)))))))))))) (w_X12_court_140 n j r hj hr o K99 hK99 a1 a2 a3 a4 a5 a6 a7 a8 a9 a10 r7 m8)
    · refine qr_iload o (q_dm dm_X12_court 70 rfl) rfl ?_
      refine qr_iload o (q_dm dm_X12_court 71 rfl) rfl ?_
      refine qr_icmp_ne (tgt := 131) o (q_dm dm_X12_court 72 rfl) (by decide) ?_ ?_
      · refine qr_iload o (q_dm dm_X12_court 75 rfl) rfl ?_
        exact qr_loc (q_leN (q_leS (q_leS (q_leS (q_leS (q_leS (q_leS (q_leS (q_leS (q_leS (q_leS (q_leN q_le0)))))))))))) (w_X12_court_133 n j r hj hr o K99 hK99 a1 a2 a3 a4 a5 a6 a7 a8 a9 a10 a4 m8)
      · refine qr_iload_n o (q_dm dm_X12_court 73 rfl) rfl ?_
        refine qr_goto (tgt := 133) o (q_dm dm_X12_court 74 rfl) (by decide) ?_
        exact qr_loc (q_leN (q_leS (q_leS (q_leS (q_leS (q_leS (q_leS (q_leS (q_leS (q_leS (q_leS (q_leN q_le0)))))))))))) (w_X12_court_133 n j r hj hr o K99 hK99 a1 a2 a3 a4 a5 a6 a7 a8 a9 a10 a3 m8)

def f_X12_court_99 (n : Nat) : Nat → Int32 → Int32 → Int32 → Int32 → Int32 → Int32 → Int32 → Int32 → Int32 → Int32 → qM → qR
  | 0, _, _, _, _, _, _, _, _, _, _, _ => none
  | m + 1, a1, a2, a3, a4, a5, a6, a7, a8, a9, a10, M => b_X12_court_99 n (f_X12_court_99 n m) a1 a2 a3 a4 a5 a6 a7 a8 a9 a10 M
theorem w_X12_court_99 {g : qG} {k : qK} (n : Nat) (j r : Nat) (hj : q_isLaw j) (hr : q_isLaw r) (o : qOk g 1 zX12_court k) : ∀ (m : Nat) (a1 a2 a3 a4 a5 a6 a7 a8 a9 a10 : Int32) (M : qM), qAE g k zX12_court (qL j r) 99 [none, some (.inl a1), some (.inl a2), some (.inl a3), some (.inl a4), some (.inl a5), some (.inl a6), some (.inl a7), some (.inl a8), some (.inl a9), some (.inl a10), none] [] (qL j r, M) (f_X12_court_99 n m a1 a2 a3 a4 a5 a6 a7 a8 a9 a10 M) := by
  intro m
  induction m with
  | zero =>
    intro a1 a2 a3 a4 a5 a6 a7 a8 a9 a10 M
    exact qr_none
  | succ m ih =>
    intro a1 a2 a3 a4 a5 a6 a7 a8 a9 a10 M
    exact wb_X12_court_99 n j r hj hr o (f_X12_court_99 n m) ih a1 a2 a3 a4 a5 a6 a7 a8 a9 a10 M
def f_X12_court_91 (n : Nat) (a1 a2 a3 a4 a5 a6 a7 s0 : Int32) (M : qM) : qR :=
  f_X12_court_99 n n a1 a2 a3 a4 a5 a6 a7 s0 (0 : Int32) (0 : Int32) M
set_option maxRecDepth 4000 in
theorem w_X12_court_91 {g : qG} {k : qK} (n : Nat) (j r : Nat) (hj : q_isLaw j) (hr : q_isLaw r) (o : qOk g 1 zX12_court k) (a1 a2 a3 a4 a5 a6 a7 s0 : Int32) (M : qM) : qAE g k zX12_court (qL j r) 91 [none, some (.inl a1), some (.inl a2), some (.inl a3), some (.inl a4), some (.inl a5), some (.inl a6), some (.inl a7), none, none, none, none] [.inl s0] (qL j r, M) (f_X12_court_91 n a1 a2 a3 a4 a5 a6 a7 s0 M) := by
  unfold f_X12_court_91
  refine qs_istore (L' := [none, some (.inl a1), some (.inl a2), some (.inl a3), some (.inl a4), some (.inl a5), some (.inl a6), some (.inl a7), some (.inl s0), none, none, none]) o (q_dm dm_X12_court 55 rfl) (Nat.le_of_ble_eq_true rfl) rfl ?_
  refine qr_iconst o (q_dm dm_X12_court 56 rfl) ic_0 ?_
  refine qs_istore (L' := [none, some (.inl a1), some (.inl a2), some (.inl a3), some (.inl a4), some (.inl a5), some (.inl a6), some (.inl a7), some (.inl s0), some (.inl (0 : Int32)), none, none]) o (q_dm dm_X12_court 57 rfl) (Nat.le_of_ble_eq_true rfl) rfl ?_
  refine qr_iconst o (q_dm dm_X12_court 58 rfl) ic_0 ?_
  refine qs_istore (L' := [none, some (.inl a1), some (.inl a2), some (.inl a3), some (.inl a4), some (.inl a5), some (.inl a6), some (.inl a7), some (.inl s0), some (.inl (0 : Int32)), some (.inl (0 : Int32)), none]) o (q_dm dm_X12_court 59 rfl) (Nat.le_of_ble_eq_true rfl) rfl ?_
  exact qr_loc (q_leN (q_leS (q_leS (q_leS (q_leS (q_leS (q_leS (q_leS (q_leS (q_leS (q_leS (q_leN q_le0)))))))))))) (w_X12_court_99 n j r hj hr o n a1 a2 a3 a4 a5 a6 a7 s0 (0 : Int32) (0 : Int32) M)

def f_X12_court (n : Nat) (a1 a2 a3 a4 a5 a6 : Int32) (M : qM) : qR :=
  qc (f_X12_in n a1 (1 : Int32) (9 : Int32) M) (fun r1 m2 => (if r1 = (0 : Int32) then some ((-1 : Int32), m2) else qc (f_X12_in n a2 (0 : Int32) (((1 : Int32) <<< (a1 &&& 31)) - (1 : Int32)) m2) (fun r3 m4 => (if r3 = (0 : Int32) then some ((-1 : Int32), m4) else qc (f_X12_in n a3 (0 : Int32) (((1 : Int32) <<< (a1 &&& 31)) - (1 : Int32)) m4) (fun r5 m6 => (if r5 = (0 : Int32) then some ((-1 : Int32), m6) else qc (f_X12_in n a4 (0 : Int32) (((1 : Int32) <<< (a1 &&& 31)) - (1 : Int32)) m6) (fun r7 m8 => (if r7 = (0 : Int32) then some ((-1 : Int32), m8) else qc (f_X12_in n a5 (0 : Int32) a1 m8) (fun r9 m10 => (if r9 = (0 : Int32) then some ((-1 : Int32), m10) else qc (f_X12_in n a6 (0 : Int32) (2 : Int32) m10) (fun r11 m12 => (if r11 = (0 : Int32) then some ((-1 : Int32), m12) else qc (f_X12_bits n a2 m12) (fun r13 m14 => (if ((2 : Int32) * r13) < a1 then f_X12_court_91 n a1 a2 a3 a4 a5 a6 r13 (0 : Int32) m14 else f_X12_court_91 n a1 a2 a3 a4 a5 a6 r13 (1 : Int32) m14))))))))))))))
set_option maxRecDepth 4000 in
theorem w_X12_court {g : qG} {k : qK} (n : Nat) (j r : Nat) (hj : q_isLaw j) (hr : q_isLaw r) (o : qOk g 1 zX12_court k) (a1 a2 a3 a4 a5 a6 : Int32) (M : qM) : qAE g k zX12_court (qL j r) 0 [some (.inr (some 77)), some (.inl a1), some (.inl a2), some (.inl a3), some (.inl a4), some (.inl a5), some (.inl a6), none, none, none, none, none] [] (qL j r, M) (f_X12_court n a1 a2 a3 a4 a5 a6 M) := by
  unfold f_X12_court
  refine qr_iload_n o (q_dm dm_X12_court 0 rfl) rfl ?_
  refine qr_iconst o (q_dm dm_X12_court 1 rfl) ic_1 ?_
  refine qr_bipush o (q_dm dm_X12_court 2 rfl) bi_9 ?_
  refine qr_calls_i (As := [.inl a1, .inl (1 : Int32), .inl (9 : Int32)]) (S := []) o (a_X12_in g k.2.1 n j r hj hr a1 (1 : Int32) (9 : Int32) M) (Nat.le_of_ble_eq_true rfl) zs_X12_in rfl ml_X12_153 (Nat.le_of_ble_eq_true rfl) (q_dm dm_X12_court 3 rfl) (fun r1 m2 => ?_)
  refine qr_if_eq (tgt := 70) o (q_dm dm_X12_court 4 rfl) (by decide) ?_ ?_
  · refine qr_iconst o (q_dm dm_X12_court 42 rfl) ic_m1 ?_
    exact qr_iret o rfl rfl (q_dm dm_X12_court 43 rfl)
  · refine qr_iload_n o (q_dm dm_X12_court 5 rfl) rfl ?_
    refine qr_iconst o (q_dm dm_X12_court 6 rfl) ic_0 ?_
    refine qr_iconst o (q_dm dm_X12_court 7 rfl) ic_1 ?_
    refine qr_iload_n o (q_dm dm_X12_court 8 rfl) rfl ?_
    refine qr_ishl o (q_dm dm_X12_court 9 rfl) ?_
    refine qr_iconst o (q_dm dm_X12_court 10 rfl) ic_1 ?_
    refine qr_isub o (q_dm dm_X12_court 11 rfl) ?_
    refine qr_calls_i (As := [.inl a2, .inl (0 : Int32), .inl (((1 : Int32) <<< (a1 &&& 31)) - (1 : Int32))]) (S := []) o (a_X12_in g k.2.1 n j r hj hr a2 (0 : Int32) (((1 : Int32) <<< (a1 &&& 31)) - (1 : Int32)) m2) (Nat.le_of_ble_eq_true rfl) zs_X12_in rfl ml_X12_153 (Nat.le_of_ble_eq_true rfl) (q_dm dm_X12_court 12 rfl) (fun r3 m4 => ?_)
    refine qr_if_eq (tgt := 70) o (q_dm dm_X12_court 13 rfl) (by decide) ?_ ?_
    · refine qr_iconst o (q_dm dm_X12_court 42 rfl) ic_m1 ?_
      exact qr_iret o rfl rfl (q_dm dm_X12_court 43 rfl)
    · refine qr_iload_n o (q_dm dm_X12_court 14 rfl) rfl ?_
      refine qr_iconst o (q_dm dm_X12_court 15 rfl) ic_0 ?_
      refine qr_iconst o (q_dm dm_X12_court 16 rfl) ic_1 ?_
      refine qr_iload_n o (q_dm dm_X12_court 17 rfl) rfl ?_
      refine qr_ishl o (q_dm dm_X12_court 18 rfl) ?_
      refine qr_iconst o (q_dm dm_X12_court 19 rfl) ic_1 ?_
      refine qr_isub o (q_dm dm_X12_court 20 rfl) ?_
      refine qr_calls_i (As := [.inl a3, .inl (0 : Int32), .inl (((1 : Int32) <<< (a1 &&& 31)) - (1 : Int32))]) (S := []) o (a_X12_in g k.2.1 n j r hj hr a3 (0 : Int32) (((1 : Int32) <<< (a1 &&& 31)) - (1 : Int32)) m4) (Nat.le_of_ble_eq_true rfl) zs_X12_in rfl ml_X12_153 (Nat.le_of_ble_eq_true rfl) (q_dm dm_X12_court 21 rfl) (fun r5 m6 => ?_)
      refine qr_if_eq (tgt := 70) o (q_dm dm_X12_court 22 rfl) (by decide) ?_ ?_
      · refine qr_iconst o (q_dm dm_X12_court 42 rfl) ic_m1 ?_
        exact qr_iret o rfl rfl (q_dm dm_X12_court 43 rfl)
      · refine qr_iload o (q_dm dm_X12_court 23 rfl) rfl ?_
        refine qr_iconst o (q_dm dm_X12_court 24 rfl) ic_0 ?_
        refine qr_iconst o (q_dm dm_X12_court 25 rfl) ic_1 ?_
        refine qr_iload_n o (q_dm dm_X12_court 26 rfl) rfl ?_
        refine qr_ishl o (q_dm dm_X12_court 27 rfl) ?_
        refine qr_iconst o (q_dm dm_X12_court 28 rfl) ic_1 ?_
        refine qr_isub o (q_dm dm_X12_court 29 rfl) ?_
        refine qr_calls_i (As := [.inl a4, .inl (0 : Int32), .inl (((1 : Int32) <<< (a1 &&& 31)) - (1 : Int32))]) (S := []) o (a_X12_in g k.2.1 n j r hj hr a4 (0 : Int32) (((1 : Int32) <<< (a1 &&& 31)) - (1 : Int32)) m6) (Nat.le_of_ble_eq_true rfl) zs_X12_in rfl ml_X12_153 (Nat.le_of_ble_eq_true rfl) (q_dm dm_X12_court 30 rfl) (fun r7 m8 => ?_)
        refine qr_if_eq (tgt := 70) o (q_dm dm_X12_court 31 rfl) (by decide) ?_ ?_
        · refine qr_iconst o (q_dm dm_X12_court 42 rfl) ic_m1 ?_
          exact qr_iret o rfl rfl (q_dm dm_X12_court 43 rfl)
        · refine qr_iload o (q_dm dm_X12_court 32 rfl) rfl ?_
          refine qr_iconst o (q_dm dm_X12_court 33 rfl) ic_0 ?_
          refine qr_iload_n o (q_dm dm_X12_court 34 rfl) rfl ?_
          refine qr_calls_i (As := [.inl a5, .inl (0 : Int32), .inl a1]) (S := []) o (a_X12_in g k.2.1 n j r hj hr a5 (0 : Int32) a1 m8) (Nat.le_of_ble_eq_true rfl) zs_X12_in rfl ml_X12_153 (Nat.le_of_ble_eq_true rfl) (q_dm dm_X12_court 35 rfl) (fun r9 m10 => ?_)
          refine qr_if_eq (tgt := 70) o (q_dm dm_X12_court 36 rfl) (by decide) ?_ ?_
          · refine qr_iconst o (q_dm dm_X12_court 42 rfl) ic_m1 ?_
            exact qr_iret o rfl rfl (q_dm dm_X12_court 43 rfl)
          · refine qr_iload o (q_dm dm_X12_court 37 rfl) rfl ?_
            refine qr_iconst o (q_dm dm_X12_court 38 rfl) ic_0 ?_
            refine qr_iconst o (q_dm dm_X12_court 39 rfl) ic_2 ?_
            refine qr_calls_i (As := [.inl a6, .inl (0 : Int32), .inl (2 : Int32)]) (S := []) o (a_X12_in g k.2.1 n j r hj hr a6 (0 : Int32) (2 : Int32) m10) (Nat.le_of_ble_eq_true rfl) zs_X12_in rfl ml_X12_153 (Nat.le_of_ble_eq_true rfl) (q_dm dm_X12_court 40 rfl) (fun r11 m12 => ?_)
            refine qr_if_ne (tgt := 72) o (q_dm dm_X12_court 41 rfl) (by decide) ?_ ?_
            · refine qr_iload_n o (q_dm dm_X12_court 44 rfl) rfl ?_
              refine qr_calls_i (As := [.inl a2]) (S := []) o (a_X12_bits g k.2.1 n j r hj hr a2 m12) (Nat.le_of_ble_eq_true rfl) zs_X12_bits rfl ml_X12_276 (Nat.le_of_ble_eq_true rfl) (q_dm dm_X12_court 45 rfl) (fun r13 m14 => ?_)
              refine qs_istore (L' := [some (.inr (some 77)), some (.inl a1), some (.inl a2), some (.inl a3), some (.inl a4), some (.inl a5), some (.inl a6), some (.inl r13), none, none, none, none]) o (q_dm dm_X12_court 46 rfl) (Nat.le_of_ble_eq_true rfl) rfl ?_
              refine qr_iconst o (q_dm dm_X12_court 47 rfl) ic_2 ?_
              refine qr_iload o (q_dm dm_X12_court 48 rfl) rfl ?_
              refine qr_imul o (q_dm dm_X12_court 49 rfl) ?_
              refine qr_iload_n o (q_dm dm_X12_court 50 rfl) rfl ?_
              refine qr_icmp_lt (tgt := 90) o (q_dm dm_X12_court 51 rfl) (by decide) ?_ ?_
              · refine qr_iconst o (q_dm dm_X12_court 54 rfl) ic_0 ?_
                exact qr_loc (q_leN (q_leS (q_leS (q_leS (q_leS (q_leS (q_leS (q_leS (q_leN (q_leN (q_leN (q_leN q_le0)))))))))))) (w_X12_court_91 n j r hj hr o a1 a2 a3 a4 a5 a6 r13 (0 : Int32) m14)
              · refine qr_iconst o (q_dm dm_X12_court 52 rfl) ic_1 ?_
                refine qr_goto (tgt := 91) o (q_dm dm_X12_court 53 rfl) (by decide) ?_
                exact qr_loc (q_leN (q_leS (q_leS (q_leS (q_leS (q_leS (q_leS (q_leS (q_leN (q_leN (q_leN (q_leN q_le0)))))))))))) (w_X12_court_91 n j r hj hr o a1 a2 a3 a4 a5 a6 r13 (1 : Int32) m14)
            · refine qr_iconst o (q_dm dm_X12_court 42 rfl) ic_m1 ?_
              exact qr_iret o rfl rfl (q_dm dm_X12_court 43 rfl)

theorem a_X12_court (g : qG) (l : Launch) (n : Nat) (j r : Nat) (hj : q_isLaw j) (hr : q_isLaw r) (a1 a2 a3 a4 a5 a6 : Int32) (M : qM) : qAM g l 1 zX12_court (qL j r) [.inr (some 77), .inl a1, .inl a2, .inl a3, .inl a4, .inl a5, .inl a6] (qL j r, M) (f_X12_court n a1 a2 a3 a4 a5 a6 M) :=
  qAM.of zv_X12_court.1 (by show 7 ≤ 12; decide) (fun k hk o => w_X12_court n j r hj hr o a1 a2 a3 a4 a5 a6 M)
def tb_X12_notesTry : List (Nat × Instr × Nat) := [(0, (.aload_n 0, 1)), (1, (.aload_n 0, 1)), (2, (.getfield 335, 3)), (5, (.iconst 1, 1)), (6, (.iadd, 1)), (7, (.putfield 335, 3)), (10, (.aload_n 0, 1)), (11, (.aload_n 0, 1)), (12, (.getfield 338, 3)), (15, (.aload_n 0, 1)), (16, (.getfield 19, 3)), (19, (.iload_n 2, 1)), (20, (.iaload, 1)), (21, (.iadd, 1)), (22, (.putfield 338, 3)), (25, (.aload_n 0, 1)), (26, (.aload_n 0, 1)), (27, (.getfield 341, 3)), (30, (.iload_n 3, 1)), (31, (.iconst 1, 1)), (32, (.if_icmp .ne 7, 3)), (35, (.iconst 1, 1)), (36, (.goto 4, 3)), (39, (.iconst 0, 1)), (40, (.iadd, 1)), (41, (.putfield 341, 3)), (44, (.iload_n 3, 1)), (45, (.bipush (-2), 2)), (47, (.if_icmp .ne 12, 3)), (50, (.aload_n 0, 1)), (51, (.getfield 344, 3)), (54, (.bipush (-2), 2)), (56, (.if_icmp .eq 4, 3)), (59, (.return_, 1)), (60, (.aload_n 0, 1)), (61, (.aload_n 0, 1)), (62, (.getfield 7, 3)), (65, (.sipush 313, 3)), (68, (.iaload, 1)), (69, (.putfield 344, 3)), (72, (.aload_n 0, 1)), (73, (.iload_n 1, 1)), (74, (.putfield 347, 3)), (77, (.aload_n 0, 1)), (78, (.iload_n 2, 1)), (79, (.putfield 350, 3)), (82, (.return_, 1))]
theorem dm_X12_notesTry : ∀ q ∈ tb_X12_notesTry, decode zX12_notesTry.2.1 q.1 = .ok q.2 := by decide +kernel
def f_X12_notesTry_40 (n : Nat) (a1 a2 a3 s1 s2 : Int32) (M : qM) : qR :=
  qlm (mu M 77 38 (s1 + s2)) (fun m1 => (if a3 = (-2 : Int32) then (if (m1 77 40) = (-2 : Int32) then qlm (mu m1 77 40 (m1 78 313)) (fun m2 => qlm (mu m2 77 41 a1) (fun m3 => qlm (mu m3 77 42 a2) (fun m4 => some (0, m4)))) else some (0, m1)) else some (0, m1)))
set_option maxRecDepth 4000 in
theorem w_X12_notesTry_40 {g : qG} {k : qK} (n : Nat) (j r : Nat) (hj : q_isLaw j) (hr : q_isLaw r) (o : qOk g 0 zX12_notesTry k) (a1 a2 a3 s1 s2 : Int32) (M : qM) : qAE g k zX12_notesTry (qL j r) 40 [some (.inr (some 77)), some (.inl a1), some (.inl a2), some (.inl a3)] [.inl s2, .inl s1, .inr (some 77)] (qL j r, M) (f_X12_notesTry_40 n a1 a2 a3 s1 s2 M) := by
  unfold f_X12_notesTry_40
  refine qr_iadd o (q_dm dm_X12_notesTry 24 rfl) ?_
  refine qr_putf (kf := 38) o cf_X12 (sh77 j r) rfl (Nat.le_of_ble_eq_true rfl) fl_X12_341 rfl (by decide +kernel) (q_dm dm_X12_notesTry 25 rfl) ?_
  refine qr_letm (fun m1 => ?_)
  refine qr_iload_n o (q_dm dm_X12_notesTry 26 rfl) rfl ?_
  refine qr_bipush o (q_dm dm_X12_notesTry 27 rfl) bi_m2 ?_
  refine qr_icmp_ne (tgt := 59) o (q_dm dm_X12_notesTry 28 rfl) (by decide) ?_ ?_
  · exact qr_vret o rfl (q_dm dm_X12_notesTry 33 rfl)
  · refine qr_aload_n o (q_dm dm_X12_notesTry 29 rfl) rfl ?_
    refine qr_getf (kf := 40) o cf_X12 (sh77 j r) rfl (Nat.le_of_ble_eq_true rfl) fl_X12_344 (q_dm dm_X12_notesTry 30 rfl) ?_
    refine qr_bipush o (q_dm dm_X12_notesTry 31 rfl) bi_m2 ?_
    refine qr_icmp_eq (tgt := 60) o (q_dm dm_X12_notesTry 32 rfl) (by decide) ?_ ?_
    · refine qr_aload_n o (q_dm dm_X12_notesTry 34 rfl) rfl ?_
      refine qr_aload_n o (q_dm dm_X12_notesTry 35 rfl) rfl ?_
      refine qr_getr (kf := 0) o cf_X12 (sh77 j r) rfl (Nat.le_of_ble_eq_true rfl) fl_X12_7 (q_dm dm_X12_notesTry 36 rfl) ?_
      refine qr_sipush o (q_dm dm_X12_notesTry 37 rfl) si_313 ?_
      refine qr_iald0 (c := 313) o (sh78 j r) (by decide) (by decide) (q_dm dm_X12_notesTry 38 rfl) ?_
      refine qr_putf (kf := 40) o cf_X12 (sh77 j r) rfl (Nat.le_of_ble_eq_true rfl) fl_X12_344 rfl (by decide +kernel) (q_dm dm_X12_notesTry 39 rfl) ?_
      refine qr_letm (fun m2 => ?_)
      refine qr_aload_n o (q_dm dm_X12_notesTry 40 rfl) rfl ?_
      refine qr_iload_n o (q_dm dm_X12_notesTry 41 rfl) rfl ?_
      refine qr_putf (kf := 41) o cf_X12 (sh77 j r) rfl (Nat.le_of_ble_eq_true rfl) fl_X12_347 rfl (by decide +kernel) (q_dm dm_X12_notesTry 42 rfl) ?_
      refine qr_letm (fun m3 => ?_)
      refine qr_aload_n o (q_dm dm_X12_notesTry 43 rfl) rfl ?_
      refine qr_iload_n o (q_dm dm_X12_notesTry 44 rfl) rfl ?_
      refine qr_putf (kf := 42) o cf_X12 (sh77 j r) rfl (Nat.le_of_ble_eq_true rfl) fl_X12_350 rfl (by decide +kernel) (q_dm dm_X12_notesTry 45 rfl) ?_
      refine qr_letm (fun m4 => ?_)
      exact qr_vret o rfl (q_dm dm_X12_notesTry 46 rfl)
    · exact qr_vret o rfl (q_dm dm_X12_notesTry 33 rfl)

def f_X12_notesTry (n : Nat) (a1 a2 a3 : Int32) (M : qM) : qR :=
  qlm (mu M 77 37 ((M 77 37) + (1 : Int32))) (fun m1 => qg a2 13 (qlm (mu m1 77 39 ((m1 77 39) + (m1 81 a2.toNatClampNeg))) (fun m2 => (if a3 = (1 : Int32) then f_X12_notesTry_40 n a1 a2 a3 (m2 77 38) (1 : Int32) m2 else f_X12_notesTry_40 n a1 a2 a3 (m2 77 38) (0 : Int32) m2))))
set_option maxRecDepth 4000 in
theorem w_X12_notesTry {g : qG} {k : qK} (n : Nat) (j r : Nat) (hj : q_isLaw j) (hr : q_isLaw r) (o : qOk g 0 zX12_notesTry k) (a1 a2 a3 : Int32) (M : qM) : qAE g k zX12_notesTry (qL j r) 0 [some (.inr (some 77)), some (.inl a1), some (.inl a2), some (.inl a3)] [] (qL j r, M) (f_X12_notesTry n a1 a2 a3 M) := by
  unfold f_X12_notesTry
  refine qr_aload_n o (q_dm dm_X12_notesTry 0 rfl) rfl ?_
  refine qr_aload_n o (q_dm dm_X12_notesTry 1 rfl) rfl ?_
  refine qr_getf (kf := 37) o cf_X12 (sh77 j r) rfl (Nat.le_of_ble_eq_true rfl) fl_X12_335 (q_dm dm_X12_notesTry 2 rfl) ?_
  refine qr_iconst o (q_dm dm_X12_notesTry 3 rfl) ic_1 ?_
  refine qr_iadd o (q_dm dm_X12_notesTry 4 rfl) ?_
  refine qr_putf (kf := 37) o cf_X12 (sh77 j r) rfl (Nat.le_of_ble_eq_true rfl) fl_X12_335 rfl (by decide +kernel) (q_dm dm_X12_notesTry 5 rfl) ?_
  refine qr_letm (fun m1 => ?_)
  refine qr_aload_n o (q_dm dm_X12_notesTry 6 rfl) rfl ?_
  refine qr_aload_n o (q_dm dm_X12_notesTry 7 rfl) rfl ?_
  refine qr_getf (kf := 39) o cf_X12 (sh77 j r) rfl (Nat.le_of_ble_eq_true rfl) fl_X12_338 (q_dm dm_X12_notesTry 8 rfl) ?_
  refine qr_aload_n o (q_dm dm_X12_notesTry 9 rfl) rfl ?_
  refine qr_getr (kf := 3) o cf_X12 (sh77 j r) rfl (Nat.le_of_ble_eq_true rfl) fl_X12_19 (q_dm dm_X12_notesTry 10 rfl) ?_
  refine qr_iload_n o (q_dm dm_X12_notesTry 11 rfl) rfl ?_
  refine qr_iald o (sh81 j r) (q_dm dm_X12_notesTry 12 rfl) ?_
  refine qr_iadd o (q_dm dm_X12_notesTry 13 rfl) ?_
  refine qr_putf (kf := 39) o cf_X12 (sh77 j r) rfl (Nat.le_of_ble_eq_true rfl) fl_X12_338 rfl (by decide +kernel) (q_dm dm_X12_notesTry 14 rfl) ?_
  refine qr_letm (fun m2 => ?_)
  refine qr_aload_n o (q_dm dm_X12_notesTry 15 rfl) rfl ?_
  refine qr_aload_n o (q_dm dm_X12_notesTry 16 rfl) rfl ?_
  refine qr_getf (kf := 38) o cf_X12 (sh77 j r) rfl (Nat.le_of_ble_eq_true rfl) fl_X12_341 (q_dm dm_X12_notesTry 17 rfl) ?_
  refine qr_iload_n o (q_dm dm_X12_notesTry 18 rfl) rfl ?_
  refine qr_iconst o (q_dm dm_X12_notesTry 19 rfl) ic_1 ?_
  refine qr_icmp_ne (tgt := 39) o (q_dm dm_X12_notesTry 20 rfl) (by decide) ?_ ?_
  · refine qr_iconst o (q_dm dm_X12_notesTry 23 rfl) ic_0 ?_
    exact qr_loc (q_leS (q_leS (q_leS (q_leS q_le0)))) (w_X12_notesTry_40 n j r hj hr o a1 a2 a3 (m2 77 38) (0 : Int32) m2)
  · refine qr_iconst o (q_dm dm_X12_notesTry 21 rfl) ic_1 ?_
    refine qr_goto (tgt := 40) o (q_dm dm_X12_notesTry 22 rfl) (by decide) ?_
    exact qr_loc (q_leS (q_leS (q_leS (q_leS q_le0)))) (w_X12_notesTry_40 n j r hj hr o a1 a2 a3 (m2 77 38) (1 : Int32) m2)

theorem a_X12_notesTry (g : qG) (l : Launch) (n : Nat) (j r : Nat) (hj : q_isLaw j) (hr : q_isLaw r) (a1 a2 a3 : Int32) (M : qM) : qAM g l 0 zX12_notesTry (qL j r) [.inr (some 77), .inl a1, .inl a2, .inl a3] (qL j r, M) (f_X12_notesTry n a1 a2 a3 M) :=
  qAM.of zv_X12_notesTry.1 (by show 4 ≤ 4; decide) (fun k hk o => w_X12_notesTry n j r hj hr o a1 a2 a3 M)
def tb_X12_forgets : List (Nat × Instr × Nat) := [(0, (.iconst 0, 1)), (1, (.istore_n 3, 1)), (2, (.iload_n 3, 1)), (3, (.bipush 12, 2)), (5, (.if_icmp .ge 122, 3)), (8, (.iload_n 1, 1)), (9, (.iload_n 3, 1)), (10, (.invokestatic 282, 3)), (13, (.istore 4, 2)), (15, (.aload_n 0, 1)), (16, (.iload_n 3, 1)), (17, (.invokevirtual 157, 3)), (20, (.ifCond .eq 101, 3)), (23, (.aload_n 0, 1)), (24, (.getfield 7, 3)), (27, (.iconst 0, 1)), (28, (.iload 4, 2)), (30, (.iadd, 1)), (31, (.iaload, 1)), (32, (.ifCond .eq 89, 3)), (35, (.aload_n 0, 1)), (36, (.iload_n 2, 1)), (37, (.iload_n 3, 1)), (38, (.invokevirtual 279, 3)), (41, (.ifCond .ne 6, 3)), (44, (.goto 77, 3)), (47, (.aload_n 0, 1)), (48, (.iload_n 1, 1)), (49, (.iload_n 3, 1)), (50, (.bipush 8, 2)), (52, (.invokevirtual 288, 3)), (55, (.aload_n 0, 1)), (56, (.bipush 102, 2)), (58, (.sipush 999, 3)), (61, (.iconst 0, 1)), (62, (.invokevirtual 292, 3)), (65, (.istore 5, 2)), (67, (.iload 5, 2)), (69, (.ifCond .eq 52, 3)), (72, (.aload_n 0, 1)), (73, (.getfield 7, 3)), (76, (.sipush 313, 3)), (79, (.iaload, 1)), (80, (.aload_n 0, 1)), (81, (.getfield 7, 3)), (84, (.bipush 96, 2)), (86, (.iload 4, 2)), (88, (.iadd, 1)), (89, (.iaload, 1)), (90, (.isub, 1)), (91, (.iload 5, 2)), (93, (.if_icmp .ge 6, 3)), (96, (.goto 25, 3)), (99, (.aload_n 0, 1)), (100, (.getfield 7, 3)), (103, (.iconst 0, 1)), (104, (.iload 4, 2)), (106, (.iadd, 1)), (107, (.iconst 0, 1)), (108, (.iastore, 1)), (109, (.aload_n 0, 1)), (110, (.getfield 7, 3)), (113, (.bipush 96, 2)), (115, (.iload 4, 2)), (117, (.iadd, 1)), (118, (.bipush (-2), 2)), (120, (.iastore, 1)), (121, (.iinc 3 1, 3)), (124, (.goto (-122), 3)), (127, (.return_, 1))]
theorem dm_X12_forgets : ∀ q ∈ tb_X12_forgets, decode zX12_forgets.2.1 q.1 = .ok q.2 := by decide +kernel
def b_X12_forgets_2 (n : Nat) (K2 : Int32 → Int32 → Int32 → qM → qR) (a1 a2 a3 : Int32) (M : qM) : qR :=
  (if (12 : Int32) ≤ a3 then some (0, M) else qc (f_X12_at n a1 a3 M) (fun r1 m2 => qc (f_X12_isKind n a3 m2) (fun r3 m4 => (if r3 = (0 : Int32) then ql (a3 + (1 : Int32)) (fun x5 => K2 a1 a2 x5 m4) else qg ((0 : Int32) + r1) 954 ((if (m4 78 ((0 : Int32) + r1).toNatClampNeg) = (0 : Int32) then ql (a3 + (1 : Int32)) (fun x6 => K2 a1 a2 x6 m4) else qc (f_X12_isLike n a2 a3 m4) (fun r7 m8 => (if r7 = (0 : Int32) then ql (a3 + (1 : Int32)) (fun x17 => K2 a1 a2 x17 m8) else qc (f_X12_feels n a1 a3 (8 : Int32) m8) (fun _ m9 => qc (f_X12_byLaw n (102 : Int32) (999 : Int32) (0 : Int32) m9) (fun r10 m11 => (if r10 = (0 : Int32) then ql (a3 + (1 : Int32)) (fun x12 => K2 a1 a2 x12 m11) else qg ((96 : Int32) + r1) 954 ((if r10 ≤ ((m11 78 313) - (m11 78 ((96 : Int32) + r1).toNatClampNeg)) then qg ((0 : Int32) + r1) 954 (qlm (mu m11 78 ((0 : Int32) + r1).toNatClampNeg (0 : Int32)) (fun m13 => qg ((96 : Int32) + r1) 954 (qlm (mu m13 78 ((96 : Int32) + r1).toNatClampNeg (-2 : Int32)) (fun m14 => ql (a3 + (1 : Int32)) (fun x15 => K2 a1 a2 x15 m14))))) else ql (a3 + (1 : Int32)) (fun x16 => K2 a1 a2 x16 m11))))))))))))))
set_option maxRecDepth 4000 in
theorem wb_X12_forgets_2 {g : qG} {k : qK} (n : Nat) (j r : Nat) (hj : q_isLaw j) (hr : q_isLaw r) (o : qOk g 3 zX12_forgets k) (K2 : Int32 → Int32 → Int32 → qM → qR) (hK2 : ∀ (a1 a2 a3 : Int32) (M : qM), qAE g k zX12_forgets (qL j r) 2 [some (.inr (some 77)), some (.inl a1), some (.inl a2), some (.inl a3), none, none] [] (qL j r, M) (K2 a1 a2 a3 M)) (a1 a2 a3 : Int32) (M : qM) : qAE g k zX12_forgets (qL j r) 2 [some (.inr (some 77)), some (.inl a1), some (.inl a2), some (.inl a3), none, none] [] (qL j r, M) (b_X12_forgets_2 n K2 a1 a2 a3 M) := by
  unfold b_X12_forgets_2
  refine qr_iload_n o (q_dm dm_X12_forgets 2 rfl) rfl ?_
  refine qr_bipush o (q_dm dm_X12_forgets 3 rfl) bi_12 ?_
  refine qr_icmp_ge (tgt := 127) o (q_dm dm_X12_forgets 4 rfl) (by decide) ?_ ?_
  · exact qr_vret o rfl (q_dm dm_X12_forgets 69 rfl)
  · refine qr_iload_n o (q_dm dm_X12_forgets 5 rfl) rfl ?_
    refine qr_iload_n o (q_dm dm_X12_forgets 6 rfl) rfl ?_
    refine qr_calls_i (As := [.inl a1, .inl a3]) (S := []) o (a_X12_at g k.2.1 n j r hj hr a1 a3 M) (Nat.le_of_ble_eq_true rfl) zs_X12_at rfl ml_X12_282 (Nat.le_of_ble_eq_true rfl) (q_dm dm_X12_forgets 7 rfl) (fun r1 m2 => ?_)
    refine qs_istore (L' := [some (.inr (some 77)), some (.inl a1), some (.inl a2), some (.inl a3), some (.inl r1), none]) o (q_dm dm_X12_forgets 8 rfl) (Nat.le_of_ble_eq_true rfl) rfl ?_
    refine qr_aload_n o (q_dm dm_X12_forgets 9 rfl) rfl ?_
    refine qr_iload_n o (q_dm dm_X12_forgets 10 rfl) rfl ?_
    refine qr_callv_i (As := [.inl a3]) (S := []) o (a_X12_isKind g k.2.1 n j r hj hr a3 m2) (Nat.le_of_ble_eq_true rfl) zv_X12_isKind rfl cf_X12 (sh77 j r) ml_X12_157 (Nat.le_of_ble_eq_true rfl) (q_dm dm_X12_forgets 11 rfl) (fun r3 m4 => ?_)
    refine qr_if_eq (tgt := 121) o (q_dm dm_X12_forgets 12 rfl) (by decide) ?_ ?_
    · refine qs_iincl2 (L' := fun x5 => [some (.inr (some 77)), some (.inl a1), some (.inl a2), some (.inl x5), some (.inl r1), none]) o (q_dm dm_X12_forgets 67 rfl) rfl ic_1 (Nat.le_of_ble_eq_true rfl) (fun _ => rfl) (fun x5 => ?_)
      refine qr_goto (tgt := 2) o (q_dm dm_X12_forgets 68 rfl) (by decide) ?_
      exact qr_loc (q_leS (q_leS (q_leS (q_leS (q_leN (q_leN q_le0)))))) (hK2 a1 a2 x5 m4)
    · refine qr_aload_n o (q_dm dm_X12_forgets 13 rfl) rfl ?_
      refine qr_getr (kf := 0) o cf_X12 (sh77 j r) rfl (Nat.le_of_ble_eq_true rfl) fl_X12_7 (q_dm dm_X12_forgets 14 rfl) ?_
      refine qr_iconst o (q_dm dm_X12_forgets 15 rfl) ic_0 ?_
      refine qr_iload o (q_dm dm_X12_forgets 16 rfl) rfl ?_
      refine qr_iadd o (q_dm dm_X12_forgets 17 rfl) ?_
      refine qr_iald o (sh78 j r) (q_dm dm_X12_forgets 18 rfl) ?_
      refine qr_if_eq (tgt := 121) o (q_dm dm_X12_forgets 19 rfl) (by decide) ?_ ?_
      · refine qs_iincl2 (L' := fun x6 => [some (.inr (some 77)), some (.inl a1), some (.inl a2), some (.inl x6), some (.inl r1), none]) o (q_dm dm_X12_forgets 67 rfl) rfl ic_1 (Nat.le_of_ble_eq_true rfl) (fun _ => rfl) (fun x6 => ?_)
        refine qr_goto (tgt := 2) o (q_dm dm_X12_forgets 68 rfl) (by decide) ?_
        exact qr_loc (q_leS (q_leS (q_leS (q_leS (q_leN (q_leN q_le0)))))) (hK2 a1 a2 x6 m4)
      · refine qr_aload_n o (q_dm dm_X12_forgets 20 rfl) rfl ?_
        refine qr_iload_n o (q_dm dm_X12_forgets 21 rfl) rfl ?_
        refine qr_iload_n o (q_dm dm_X12_forgets 22 rfl) rfl ?_
        refine qr_callv_i (As := [.inl a2, .inl a3]) (S := []) o (a_X12_isLike g k.2.1 n j r hj hr a2 a3 m4) (Nat.le_of_ble_eq_true rfl) zv_X12_isLike rfl cf_X12 (sh77 j r) ml_X12_279 (Nat.le_of_ble_eq_true rfl) (q_dm dm_X12_forgets 23 rfl) (fun r7 m8 => ?_)
        refine qr_if_ne (tgt := 47) o (q_dm dm_X12_forgets 24 rfl) (by decide) ?_ ?_
        · refine qr_aload_n o (q_dm dm_X12_forgets 26 rfl) rfl ?_
          refine qr_iload_n o (q_dm dm_X12_forgets 27 rfl) rfl ?_
          refine qr_iload_n o (q_dm dm_X12_forgets 28 rfl) rfl ?_
          refine qr_bipush o (q_dm dm_X12_forgets 29 rfl) bi_8 ?_
          refine qr_callv_v (As := [.inl a1, .inl a3, .inl (8 : Int32)]) (S := []) o (a_X12_feels g k.2.1 n j r hj hr a1 a3 (8 : Int32) m8) (Nat.le_of_ble_eq_true rfl) zv_X12_feels rfl cf_X12 (sh77 j r) ml_X12_288 (Nat.le_of_ble_eq_true rfl) (q_dm dm_X12_forgets 30 rfl) (fun _ m9 => ?_)
          refine qr_aload_n o (q_dm dm_X12_forgets 31 rfl) rfl ?_
          refine qr_bipush o (q_dm dm_X12_forgets 32 rfl) bi_102 ?_
          refine qr_sipush o (q_dm dm_X12_forgets 33 rfl) si_999 ?_
          refine qr_iconst o (q_dm dm_X12_forgets 34 rfl) ic_0 ?_
          refine qr_callv_i (As := [.inl (102 : Int32), .inl (999 : Int32), .inl (0 : Int32)]) (S := []) o (a_X12_byLaw g k.2.1 n j r hj hr (102 : Int32) (999 : Int32) (0 : Int32) m9) (Nat.le_of_ble_eq_true rfl) zv_X12_byLaw rfl cf_X12 (sh77 j r) ml_X12_292 (Nat.le_of_ble_eq_true rfl) (q_dm dm_X12_forgets 35 rfl) (fun r10 m11 => ?_)
          refine qs_istore (L' := [some (.inr (some 77)), some (.inl a1), some (.inl a2), some (.inl a3), some (.inl r1), some (.inl r10)]) o (q_dm dm_X12_forgets 36 rfl) (Nat.le_of_ble_eq_true rfl) rfl ?_
          refine qr_iload o (q_dm dm_X12_forgets 37 rfl) rfl ?_
          refine qr_if_eq (tgt := 121) o (q_dm dm_X12_forgets 38 rfl) (by decide) ?_ ?_
          · refine qs_iincl2 (L' := fun x12 => [some (.inr (some 77)), some (.inl a1), some (.inl a2), some (.inl x12), some (.inl r1), some (.inl r10)]) o (q_dm dm_X12_forgets 67 rfl) rfl ic_1 (Nat.le_of_ble_eq_true rfl) (fun _ => rfl) (fun x12 => ?_)
            refine qr_goto (tgt := 2) o (q_dm dm_X12_forgets 68 rfl) (by decide) ?_
            exact qr_loc (q_leS (q_leS (q_leS (q_leS (q_leN (q_leN q_le0)))))) (hK2 a1 a2 x12 m11)
          · refine qr_aload_n o (q_dm dm_X12_forgets 39 rfl) rfl ?_
            refine qr_getr (kf := 0) o cf_X12 (sh77 j r) rfl (Nat.le_of_ble_eq_true rfl) fl_X12_7 (q_dm dm_X12_forgets 40 rfl) ?_
            refine qr_sipush o (q_dm dm_X12_forgets 41 rfl) si_313 ?_
            refine qr_iald0 (c := 313) o (sh78 j r) (by decide) (by decide) (q_dm dm_X12_forgets 42 rfl) ?_
            refine qr_aload_n o (q_dm dm_X12_forgets 43 rfl) rfl ?_
            refine qr_getr (kf := 0) o cf_X12 (sh77 j r) rfl (Nat.le_of_ble_eq_true rfl) fl_X12_7 (q_dm dm_X12_forgets 44 rfl) ?_
            refine qr_bipush o (q_dm dm_X12_forgets 45 rfl) bi_96 ?_
            refine qr_iload o (q_dm dm_X12_forgets 46 rfl) rfl ?_
            refine qr_iadd o (q_dm dm_X12_forgets 47 rfl) ?_
            refine qr_iald o (sh78 j r) (q_dm dm_X12_forgets 48 rfl) ?_
            refine qr_isub o (q_dm dm_X12_forgets 49 rfl) ?_
            refine qr_iload o (q_dm dm_X12_forgets 50 rfl) rfl ?_
            refine qr_icmp_ge (tgt := 99) o (q_dm dm_X12_forgets 51 rfl) (by decide) ?_ ?_
            · refine qr_aload_n o (q_dm dm_X12_forgets 53 rfl) rfl ?_
              refine qr_getr (kf := 0) o cf_X12 (sh77 j r) rfl (Nat.le_of_ble_eq_true rfl) fl_X12_7 (q_dm dm_X12_forgets 54 rfl) ?_
              refine qr_iconst o (q_dm dm_X12_forgets 55 rfl) ic_0 ?_
              refine qr_iload o (q_dm dm_X12_forgets 56 rfl) rfl ?_
              refine qr_iadd o (q_dm dm_X12_forgets 57 rfl) ?_
              refine qr_iconst o (q_dm dm_X12_forgets 58 rfl) ic_0 ?_
              refine qr_iast o (sh78 j r) (q_dm dm_X12_forgets 59 rfl) ?_
              refine qr_letm (fun m13 => ?_)
              refine qr_aload_n o (q_dm dm_X12_forgets 60 rfl) rfl ?_
              refine qr_getr (kf := 0) o cf_X12 (sh77 j r) rfl (Nat.le_of_ble_eq_true rfl) fl_X12_7 (q_dm dm_X12_forgets 61 rfl) ?_
              refine qr_bipush o (q_dm dm_X12_forgets 62 rfl) bi_96 ?_
              refine qr_iload o (q_dm dm_X12_forgets 63 rfl) rfl ?_
              refine qr_iadd o (q_dm dm_X12_forgets 64 rfl) ?_
              refine qr_bipush o (q_dm dm_X12_forgets 65 rfl) bi_m2 ?_
              refine qr_iast o (sh78 j r) (q_dm dm_X12_forgets 66 rfl) ?_
              refine qr_letm (fun m14 => ?_)
              refine qs_iincl2 (L' := fun x15 => [some (.inr (some 77)), some (.inl a1), some (.inl a2), some (.inl x15), some (.inl r1), some (.inl r10)]) o (q_dm dm_X12_forgets 67 rfl) rfl ic_1 (Nat.le_of_ble_eq_true rfl) (fun _ => rfl) (fun x15 => ?_)
              refine qr_goto (tgt := 2) o (q_dm dm_X12_forgets 68 rfl) (by decide) ?_
              exact qr_loc (q_leS (q_leS (q_leS (q_leS (q_leN (q_leN q_le0)))))) (hK2 a1 a2 x15 m14)
            · refine qr_goto (tgt := 121) o (q_dm dm_X12_forgets 52 rfl) (by decide) ?_
              refine qs_iincl2 (L' := fun x16 => [some (.inr (some 77)), some (.inl a1), some (.inl a2), some (.inl x16), some (.inl r1), some (.inl r10)]) o (q_dm dm_X12_forgets 67 rfl) rfl ic_1 (Nat.le_of_ble_eq_true rfl) (fun _ => rfl) (fun x16 => ?_)
              refine qr_goto (tgt := 2) o (q_dm dm_X12_forgets 68 rfl) (by decide) ?_
              exact qr_loc (q_leS (q_leS (q_leS (q_leS (q_leN (q_leN q_le0)))))) (hK2 a1 a2 x16 m11)
        · refine qr_goto (tgt := 121) o (q_dm dm_X12_forgets 25 rfl) (by decide) ?_
          refine qs_iincl2 (L' := fun x17 => [some (.inr (some 77)), some (.inl a1), some (.inl a2), some (.inl x17), some (.inl r1), none]) o (q_dm dm_X12_forgets 67 rfl) rfl ic_1 (Nat.le_of_ble_eq_true rfl) (fun _ => rfl) (fun x17 => ?_)
          refine qr_goto (tgt := 2) o (q_dm dm_X12_forgets 68 rfl) (by decide) ?_
          exact qr_loc (q_leS (q_leS (q_leS (q_leS (q_leN (q_leN q_le0)))))) (hK2 a1 a2 x17 m8)

def f_X12_forgets_2 (n : Nat) : Nat → Int32 → Int32 → Int32 → qM → qR
  | 0, _, _, _, _ => none
  | m + 1, a1, a2, a3, M => b_X12_forgets_2 n (f_X12_forgets_2 n m) a1 a2 a3 M
theorem w_X12_forgets_2 {g : qG} {k : qK} (n : Nat) (j r : Nat) (hj : q_isLaw j) (hr : q_isLaw r) (o : qOk g 3 zX12_forgets k) : ∀ (m : Nat) (a1 a2 a3 : Int32) (M : qM), qAE g k zX12_forgets (qL j r) 2 [some (.inr (some 77)), some (.inl a1), some (.inl a2), some (.inl a3), none, none] [] (qL j r, M) (f_X12_forgets_2 n m a1 a2 a3 M) := by
  intro m
  induction m with
  | zero =>
    intro a1 a2 a3 M
    exact qr_none
  | succ m ih =>
    intro a1 a2 a3 M
    exact wb_X12_forgets_2 n j r hj hr o (f_X12_forgets_2 n m) ih a1 a2 a3 M
def f_X12_forgets (n : Nat) (a1 a2 : Int32) (M : qM) : qR :=
  f_X12_forgets_2 n n a1 a2 (0 : Int32) M
set_option maxRecDepth 4000 in
theorem w_X12_forgets {g : qG} {k : qK} (n : Nat) (j r : Nat) (hj : q_isLaw j) (hr : q_isLaw r) (o : qOk g 3 zX12_forgets k) (a1 a2 : Int32) (M : qM) : qAE g k zX12_forgets (qL j r) 0 [some (.inr (some 77)), some (.inl a1), some (.inl a2), none, none, none] [] (qL j r, M) (f_X12_forgets n a1 a2 M) := by
  unfold f_X12_forgets
  refine qr_iconst o (q_dm dm_X12_forgets 0 rfl) ic_0 ?_
  refine qs_istore_n (L' := [some (.inr (some 77)), some (.inl a1), some (.inl a2), some (.inl (0 : Int32)), none, none]) o (q_dm dm_X12_forgets 1 rfl) (Nat.le_of_ble_eq_true rfl) rfl ?_
  exact qr_loc (q_leS (q_leS (q_leS (q_leS (q_leN (q_leN q_le0)))))) (w_X12_forgets_2 n j r hj hr o n a1 a2 (0 : Int32) M)

theorem a_X12_forgets (g : qG) (l : Launch) (n : Nat) (j r : Nat) (hj : q_isLaw j) (hr : q_isLaw r) (a1 a2 : Int32) (M : qM) : qAM g l 3 zX12_forgets (qL j r) [.inr (some 77), .inl a1, .inl a2] (qL j r, M) (f_X12_forgets n a1 a2 M) :=
  qAM.of zv_X12_forgets.1 (by show 3 ≤ 6; decide) (fun k hk o => w_X12_forgets n j r hj hr o a1 a2 M)
def tb_X12_hasNeeds : List (Nat × Instr × Nat) := [(0, (.iconst 0, 1)), (1, (.istore_n 3, 1)), (2, (.iload_n 3, 1)), (3, (.bipush 12, 2)), (5, (.if_icmp .ge 41, 3)), (8, (.aload_n 0, 1)), (9, (.getfield 25, 3)), (12, (.iload_n 2, 1)), (13, (.iaload, 1)), (14, (.iload_n 3, 1)), (15, (.invokestatic 149, 3)), (18, (.ifCond .eq 22, 3)), (21, (.aload_n 0, 1)), (22, (.getfield 7, 3)), (25, (.sipush 192, 3)), (28, (.iload_n 1, 1)), (29, (.iload_n 3, 1)), (30, (.invokestatic 282, 3)), (33, (.iadd, 1)), (34, (.iaload, 1)), (35, (.ifCond .ne 5, 3)), (38, (.iconst 0, 1)), (39, (.ireturn, 1)), (40, (.iinc 3 1, 3)), (43, (.goto (-41), 3)), (46, (.iconst 1, 1)), (47, (.ireturn, 1))]
theorem dm_X12_hasNeeds : ∀ q ∈ tb_X12_hasNeeds, decode zX12_hasNeeds.2.1 q.1 = .ok q.2 := by decide +kernel
def b_X12_hasNeeds_2 (n : Nat) (K2 : Int32 → Int32 → Int32 → qM → qR) (a1 a2 a3 : Int32) (M : qM) : qR :=
  (if (12 : Int32) ≤ a3 then some ((1 : Int32), M) else qg a2 13 (qc (f_X12_has0 n (M 83 a2.toNatClampNeg) a3 M) (fun r1 m2 => (if r1 = (0 : Int32) then ql (a3 + (1 : Int32)) (fun x3 => K2 a1 a2 x3 m2) else qc (f_X12_at n a1 a3 m2) (fun r4 m5 => qg ((192 : Int32) + r4) 954 ((if (m5 78 ((192 : Int32) + r4).toNatClampNeg) = (0 : Int32) then some ((0 : Int32), m5) else ql (a3 + (1 : Int32)) (fun x6 => K2 a1 a2 x6 m5))))))))
set_option maxRecDepth 4000 in
theorem wb_X12_hasNeeds_2 {g : qG} {k : qK} (n : Nat) (j r : Nat) (hj : q_isLaw j) (hr : q_isLaw r) (o : qOk g 1 zX12_hasNeeds k) (K2 : Int32 → Int32 → Int32 → qM → qR) (hK2 : ∀ (a1 a2 a3 : Int32) (M : qM), qAE g k zX12_hasNeeds (qL j r) 2 [some (.inr (some 77)), some (.inl a1), some (.inl a2), some (.inl a3)] [] (qL j r, M) (K2 a1 a2 a3 M)) (a1 a2 a3 : Int32) (M : qM) : qAE g k zX12_hasNeeds (qL j r) 2 [some (.inr (some 77)), some (.inl a1), some (.inl a2), some (.inl a3)] [] (qL j r, M) (b_X12_hasNeeds_2 n K2 a1 a2 a3 M) := by
  unfold b_X12_hasNeeds_2
  refine qr_iload_n o (q_dm dm_X12_hasNeeds 2 rfl) rfl ?_
  refine qr_bipush o (q_dm dm_X12_hasNeeds 3 rfl) bi_12 ?_
  refine qr_icmp_ge (tgt := 46) o (q_dm dm_X12_hasNeeds 4 rfl) (by decide) ?_ ?_
  · refine qr_iconst o (q_dm dm_X12_hasNeeds 25 rfl) ic_1 ?_
    exact qr_iret o rfl (by decide) (q_dm dm_X12_hasNeeds 26 rfl)
  · refine qr_aload_n o (q_dm dm_X12_hasNeeds 5 rfl) rfl ?_
    refine qr_getr (kf := 5) o cf_X12 (sh77 j r) rfl (Nat.le_of_ble_eq_true rfl) fl_X12_25 (q_dm dm_X12_hasNeeds 6 rfl) ?_
    refine qr_iload_n o (q_dm dm_X12_hasNeeds 7 rfl) rfl ?_
    refine qr_iald o (sh83 j r) (q_dm dm_X12_hasNeeds 8 rfl) ?_
    refine qr_iload_n o (q_dm dm_X12_hasNeeds 9 rfl) rfl ?_
    refine qr_calls_i (As := [.inl (M 83 a2.toNatClampNeg), .inl a3]) (S := []) o (a_X12_has0 g k.2.1 n j r hj hr (M 83 a2.toNatClampNeg) a3 M) (Nat.le_of_ble_eq_true rfl) zs_X12_has0 rfl ml_X12_149 (Nat.le_of_ble_eq_true rfl) (q_dm dm_X12_hasNeeds 10 rfl) (fun r1 m2 => ?_)
    refine qr_if_eq (tgt := 40) o (q_dm dm_X12_hasNeeds 11 rfl) (by decide) ?_ ?_
    · refine qs_iincl2 (L' := fun x3 => [some (.inr (some 77)), some (.inl a1), some (.inl a2), some (.inl x3)]) o (q_dm dm_X12_hasNeeds 23 rfl) rfl ic_1 (Nat.le_of_ble_eq_true rfl) (fun _ => rfl) (fun x3 => ?_)
      refine qr_goto (tgt := 2) o (q_dm dm_X12_hasNeeds 24 rfl) (by decide) ?_
      exact qr_loc (q_leS (q_leS (q_leS (q_leS q_le0)))) (hK2 a1 a2 x3 m2)
    · refine qr_aload_n o (q_dm dm_X12_hasNeeds 12 rfl) rfl ?_
      refine qr_getr (kf := 0) o cf_X12 (sh77 j r) rfl (Nat.le_of_ble_eq_true rfl) fl_X12_7 (q_dm dm_X12_hasNeeds 13 rfl) ?_
      refine qr_sipush o (q_dm dm_X12_hasNeeds 14 rfl) si_192 ?_
      refine qr_iload_n o (q_dm dm_X12_hasNeeds 15 rfl) rfl ?_
      refine qr_iload_n o (q_dm dm_X12_hasNeeds 16 rfl) rfl ?_
      refine qr_calls_i (As := [.inl a1, .inl a3]) (S := [.inl (192 : Int32), .inr (some 78)]) o (a_X12_at g k.2.1 n j r hj hr a1 a3 m2) (Nat.le_of_ble_eq_true rfl) zs_X12_at rfl ml_X12_282 (Nat.le_of_ble_eq_true rfl) (q_dm dm_X12_hasNeeds 17 rfl) (fun r4 m5 => ?_)
      refine qr_iadd o (q_dm dm_X12_hasNeeds 18 rfl) ?_
      refine qr_iald o (sh78 j r) (q_dm dm_X12_hasNeeds 19 rfl) ?_
      refine qr_if_ne (tgt := 40) o (q_dm dm_X12_hasNeeds 20 rfl) (by decide) ?_ ?_
      · refine qs_iincl2 (L' := fun x6 => [some (.inr (some 77)), some (.inl a1), some (.inl a2), some (.inl x6)]) o (q_dm dm_X12_hasNeeds 23 rfl) rfl ic_1 (Nat.le_of_ble_eq_true rfl) (fun _ => rfl) (fun x6 => ?_)
        refine qr_goto (tgt := 2) o (q_dm dm_X12_hasNeeds 24 rfl) (by decide) ?_
        exact qr_loc (q_leS (q_leS (q_leS (q_leS q_le0)))) (hK2 a1 a2 x6 m5)
      · refine qr_iconst o (q_dm dm_X12_hasNeeds 21 rfl) ic_0 ?_
        exact qr_iret o rfl (by decide) (q_dm dm_X12_hasNeeds 22 rfl)

def f_X12_hasNeeds_2 (n : Nat) : Nat → Int32 → Int32 → Int32 → qM → qR
  | 0, _, _, _, _ => none
  | m + 1, a1, a2, a3, M => b_X12_hasNeeds_2 n (f_X12_hasNeeds_2 n m) a1 a2 a3 M
theorem w_X12_hasNeeds_2 {g : qG} {k : qK} (n : Nat) (j r : Nat) (hj : q_isLaw j) (hr : q_isLaw r) (o : qOk g 1 zX12_hasNeeds k) : ∀ (m : Nat) (a1 a2 a3 : Int32) (M : qM), qAE g k zX12_hasNeeds (qL j r) 2 [some (.inr (some 77)), some (.inl a1), some (.inl a2), some (.inl a3)] [] (qL j r, M) (f_X12_hasNeeds_2 n m a1 a2 a3 M) := by
  intro m
  induction m with
  | zero =>
    intro a1 a2 a3 M
    exact qr_none
  | succ m ih =>
    intro a1 a2 a3 M
    exact wb_X12_hasNeeds_2 n j r hj hr o (f_X12_hasNeeds_2 n m) ih a1 a2 a3 M
def f_X12_hasNeeds (n : Nat) (a1 a2 : Int32) (M : qM) : qR :=
  f_X12_hasNeeds_2 n n a1 a2 (0 : Int32) M
set_option maxRecDepth 4000 in
theorem w_X12_hasNeeds {g : qG} {k : qK} (n : Nat) (j r : Nat) (hj : q_isLaw j) (hr : q_isLaw r) (o : qOk g 1 zX12_hasNeeds k) (a1 a2 : Int32) (M : qM) : qAE g k zX12_hasNeeds (qL j r) 0 [some (.inr (some 77)), some (.inl a1), some (.inl a2), none] [] (qL j r, M) (f_X12_hasNeeds n a1 a2 M) := by
  unfold f_X12_hasNeeds
  refine qr_iconst o (q_dm dm_X12_hasNeeds 0 rfl) ic_0 ?_
  refine qs_istore_n (L' := [some (.inr (some 77)), some (.inl a1), some (.inl a2), some (.inl (0 : Int32))]) o (q_dm dm_X12_hasNeeds 1 rfl) (Nat.le_of_ble_eq_true rfl) rfl ?_
  exact qr_loc (q_leS (q_leS (q_leS (q_leS q_le0)))) (w_X12_hasNeeds_2 n j r hj hr o n a1 a2 (0 : Int32) M)

theorem a_X12_hasNeeds (g : qG) (l : Launch) (n : Nat) (j r : Nat) (hj : q_isLaw j) (hr : q_isLaw r) (a1 a2 : Int32) (M : qM) : qAM g l 1 zX12_hasNeeds (qL j r) [.inr (some 77), .inl a1, .inl a2] (qL j r, M) (f_X12_hasNeeds n a1 a2 M) :=
  qAM.of zv_X12_hasNeeds.1 (by show 3 ≤ 4; decide) (fun k hk o => w_X12_hasNeeds n j r hj hr o a1 a2 M)
def tb_X12_voidFor : List (Nat × Instr × Nat) := [(0, (.aload_n 0, 1)), (1, (.iload_n 1, 1)), (2, (.iload_n 2, 1)), (3, (.iload_n 3, 1)), (4, (.invokevirtual 288, 3)), (7, (.aload_n 0, 1)), (8, (.bipush 118, 2)), (10, (.bipush 99, 2)), (12, (.iconst 1, 1)), (13, (.invokevirtual 292, 3)), (16, (.ireturn, 1))]
theorem dm_X12_voidFor : ∀ q ∈ tb_X12_voidFor, decode zX12_voidFor.2.1 q.1 = .ok q.2 := by decide +kernel
def f_X12_voidFor (n : Nat) (a1 a2 a3 : Int32) (M : qM) : qR :=
  qc (f_X12_feels n a1 a2 a3 M) (fun _ m1 => qc (f_X12_byLaw n (118 : Int32) (99 : Int32) (1 : Int32) m1) (fun r2 m3 => some (r2, m3)))
set_option maxRecDepth 4000 in
theorem w_X12_voidFor {g : qG} {k : qK} (n : Nat) (j r : Nat) (hj : q_isLaw j) (hr : q_isLaw r) (o : qOk g 3 zX12_voidFor k) (a1 a2 a3 : Int32) (M : qM) : qAE g k zX12_voidFor (qL j r) 0 [some (.inr (some 77)), some (.inl a1), some (.inl a2), some (.inl a3)] [] (qL j r, M) (f_X12_voidFor n a1 a2 a3 M) := by
  unfold f_X12_voidFor
  refine qr_aload_n o (q_dm dm_X12_voidFor 0 rfl) rfl ?_
  refine qr_iload_n o (q_dm dm_X12_voidFor 1 rfl) rfl ?_
  refine qr_iload_n o (q_dm dm_X12_voidFor 2 rfl) rfl ?_
  refine qr_iload_n o (q_dm dm_X12_voidFor 3 rfl) rfl ?_
  refine qr_callv_v (As := [.inl a1, .inl a2, .inl a3]) (S := []) o (a_X12_feels g k.2.1 n j r hj hr a1 a2 a3 M) (Nat.le_of_ble_eq_true rfl) zv_X12_feels rfl cf_X12 (sh77 j r) ml_X12_288 (Nat.le_of_ble_eq_true rfl) (q_dm dm_X12_voidFor 4 rfl) (fun _ m1 => ?_)
  refine qr_aload_n o (q_dm dm_X12_voidFor 5 rfl) rfl ?_
  refine qr_bipush o (q_dm dm_X12_voidFor 6 rfl) bi_118 ?_
  refine qr_bipush o (q_dm dm_X12_voidFor 7 rfl) bi_99 ?_
  refine qr_iconst o (q_dm dm_X12_voidFor 8 rfl) ic_1 ?_
  refine qr_callv_i (As := [.inl (118 : Int32), .inl (99 : Int32), .inl (1 : Int32)]) (S := []) o (a_X12_byLaw g k.2.1 n j r hj hr (118 : Int32) (99 : Int32) (1 : Int32) m1) (Nat.le_of_ble_eq_true rfl) zv_X12_byLaw rfl cf_X12 (sh77 j r) ml_X12_292 (Nat.le_of_ble_eq_true rfl) (q_dm dm_X12_voidFor 9 rfl) (fun r2 m3 => ?_)
  exact qr_iret o rfl rfl (q_dm dm_X12_voidFor 10 rfl)

theorem a_X12_voidFor (g : qG) (l : Launch) (n : Nat) (j r : Nat) (hj : q_isLaw j) (hr : q_isLaw r) (a1 a2 a3 : Int32) (M : qM) : qAM g l 3 zX12_voidFor (qL j r) [.inr (some 77), .inl a1, .inl a2, .inl a3] (qL j r, M) (f_X12_voidFor n a1 a2 a3 M) :=
  qAM.of zv_X12_voidFor.1 (by show 4 ≤ 4; decide) (fun k hk o => w_X12_voidFor n j r hj hr o a1 a2 a3 M)
def tb_X12_triesNow : List (Nat × Instr × Nat) := [(0, (.aload_n 0, 1)), (1, (.iload_n 1, 1)), (2, (.iload_n 2, 1)), (3, (.invokevirtual 295, 3)), (6, (.aload_n 0, 1)), (7, (.iload_n 1, 1)), (8, (.iload_n 2, 1)), (9, (.invokevirtual 298, 3)), (12, (.aload_n 0, 1)), (13, (.iload_n 1, 1)), (14, (.iload_n 2, 1)), (15, (.iload_n 3, 1)), (16, (.invokevirtual 301, 3)), (19, (.if_icmp .lt 7, 3)), (22, (.iconst 1, 1)), (23, (.goto 4, 3)), (26, (.iconst 0, 1)), (27, (.istore 4, 2)), (29, (.aload_n 0, 1)), (30, (.iload_n 1, 1)), (31, (.iload_n 2, 1)), (32, (.invokevirtual 304, 3)), (35, (.istore 5, 2)), (37, (.iload_n 1, 1)), (38, (.iload_n 2, 1)), (39, (.invokestatic 282, 3)), (42, (.istore 6, 2)), (44, (.iload 4, 2)), (46, (.ifCond .eq 38, 3)), (49, (.iload 5, 2)), (51, (.ifCond .eq 33, 3)), (54, (.aload_n 0, 1)), (55, (.getfield 7, 3)), (58, (.sipush 192, 3)), (61, (.iload 6, 2)), (63, (.iadd, 1)), (64, (.sipush 999, 3)), (67, (.aload_n 0, 1)), (68, (.getfield 7, 3)), (71, (.sipush 192, 3)), (74, (.iload 6, 2)), (76, (.iadd, 1)), (77, (.iaload, 1)), (78, (.iconst 1, 1)), (79, (.iadd, 1)), (80, (.invokestatic 307, 3)), (83, (.iastore, 1)), (84, (.aload_n 0, 1)), (85, (.getfield 7, 3)), (88, (.iconst 0, 1)), (89, (.iload 6, 2)), (91, (.iadd, 1)), (92, (.sipush 999, 3)), (95, (.aload_n 0, 1)), (96, (.getfield 7, 3)), (99, (.iconst 0, 1)), (100, (.iload 6, 2)), (102, (.iadd, 1)), (103, (.iaload, 1)), (104, (.iconst 1, 1)), (105, (.iadd, 1)), (106, (.invokestatic 307, 3)), (109, (.iastore, 1)), (110, (.aload_n 0, 1)), (111, (.getfield 7, 3)), (114, (.bipush 96, 2)), (116, (.iload 6, 2)), (118, (.iadd, 1)), (119, (.aload_n 0, 1)), (120, (.getfield 7, 3)), (123, (.sipush 313, 3)), (126, (.iaload, 1)), (127, (.iastore, 1)), (128, (.iload 4, 2)), (130, (.ifCond .eq 17, 3)), (133, (.iload 5, 2)), (135, (.ifCond .eq 7, 3)), (138, (.iconst 1, 1)), (139, (.goto 9, 3)), (142, (.bipush (-2), 2)), (144, (.goto 4, 3)), (147, (.iconst 0, 1)), (148, (.ireturn, 1))]
theorem dm_X12_triesNow : ∀ q ∈ tb_X12_triesNow, decode zX12_triesNow.2.1 q.1 = .ok q.2 := by decide +kernel
def f_X12_triesNow_84 (n : Nat) (a4 a5 a6 : Int32) (M : qM) : qR :=
  qg ((0 : Int32) + a6) 954 (qc (f_X12_min n (999 : Int32) ((M 78 ((0 : Int32) + a6).toNatClampNeg) + (1 : Int32)) M) (fun r1 m2 => qg ((0 : Int32) + a6) 954 (qlm (mu m2 78 ((0 : Int32) + a6).toNatClampNeg r1) (fun m3 => qg ((96 : Int32) + a6) 954 (qlm (mu m3 78 ((96 : Int32) + a6).toNatClampNeg (m3 78 313)) (fun m4 => (if a4 = (0 : Int32) then some ((0 : Int32), m4) else (if a5 = (0 : Int32) then some ((-2 : Int32), m4) else some ((1 : Int32), m4)))))))))
set_option maxRecDepth 4000 in
theorem w_X12_triesNow_84 {g : qG} {k : qK} (n : Nat) (j r : Nat) (hj : q_isLaw j) (hr : q_isLaw r) (o : qOk g 4 zX12_triesNow k) (a4 a5 a6 : Int32) (M : qM) : qAE g k zX12_triesNow (qL j r) 84 [some (.inr (some 77)), none, none, none, some (.inl a4), some (.inl a5), some (.inl a6)] [] (qL j r, M) (f_X12_triesNow_84 n a4 a5 a6 M) := by
  unfold f_X12_triesNow_84
  refine qr_aload_n o (q_dm dm_X12_triesNow 47 rfl) rfl ?_
  refine qr_getr (kf := 0) o cf_X12 (sh77 j r) rfl (Nat.le_of_ble_eq_true rfl) fl_X12_7 (q_dm dm_X12_triesNow 48 rfl) ?_
  refine qr_iconst o (q_dm dm_X12_triesNow 49 rfl) ic_0 ?_
  refine qr_iload o (q_dm dm_X12_triesNow 50 rfl) rfl ?_
  refine qr_iadd o (q_dm dm_X12_triesNow 51 rfl) ?_
  refine qr_sipush o (q_dm dm_X12_triesNow 52 rfl) si_999 ?_
  refine qr_aload_n o (q_dm dm_X12_triesNow 53 rfl) rfl ?_
  refine qr_getr (kf := 0) o cf_X12 (sh77 j r) rfl (Nat.le_of_ble_eq_true rfl) fl_X12_7 (q_dm dm_X12_triesNow 54 rfl) ?_
  refine qr_iconst o (q_dm dm_X12_triesNow 55 rfl) ic_0 ?_
  refine qr_iload o (q_dm dm_X12_triesNow 56 rfl) rfl ?_
  refine qr_iadd o (q_dm dm_X12_triesNow 57 rfl) ?_
  refine qr_iald o (sh78 j r) (q_dm dm_X12_triesNow 58 rfl) ?_
  refine qr_iconst o (q_dm dm_X12_triesNow 59 rfl) ic_1 ?_
  refine qr_iadd o (q_dm dm_X12_triesNow 60 rfl) ?_
  refine qr_calls_i (As := [.inl (999 : Int32), .inl ((M 78 ((0 : Int32) + a6).toNatClampNeg) + (1 : Int32))]) (S := [.inl ((0 : Int32) + a6), .inr (some 78)]) o (a_X12_min g k.2.1 n j r hj hr (999 : Int32) ((M 78 ((0 : Int32) + a6).toNatClampNeg) + (1 : Int32)) M) (Nat.le_of_ble_eq_true rfl) zs_X12_min rfl ml_X12_307 (Nat.le_of_ble_eq_true rfl) (q_dm dm_X12_triesNow 61 rfl) (fun r1 m2 => ?_)
  refine qr_iast o (sh78 j r) (q_dm dm_X12_triesNow 62 rfl) ?_
  refine qr_letm (fun m3 => ?_)
  refine qr_aload_n o (q_dm dm_X12_triesNow 63 rfl) rfl ?_
  refine qr_getr (kf := 0) o cf_X12 (sh77 j r) rfl (Nat.le_of_ble_eq_true rfl) fl_X12_7 (q_dm dm_X12_triesNow 64 rfl) ?_
  refine qr_bipush o (q_dm dm_X12_triesNow 65 rfl) bi_96 ?_
  refine qr_iload o (q_dm dm_X12_triesNow 66 rfl) rfl ?_
  refine qr_iadd o (q_dm dm_X12_triesNow 67 rfl) ?_
  refine qr_aload_n o (q_dm dm_X12_triesNow 68 rfl) rfl ?_
  refine qr_getr (kf := 0) o cf_X12 (sh77 j r) rfl (Nat.le_of_ble_eq_true rfl) fl_X12_7 (q_dm dm_X12_triesNow 69 rfl) ?_
  refine qr_sipush o (q_dm dm_X12_triesNow 70 rfl) si_313 ?_
  refine qr_iald0 (c := 313) o (sh78 j r) (by decide) (by decide) (q_dm dm_X12_triesNow 71 rfl) ?_
  refine qr_iast o (sh78 j r) (q_dm dm_X12_triesNow 72 rfl) ?_
  refine qr_letm (fun m4 => ?_)
  refine qr_iload o (q_dm dm_X12_triesNow 73 rfl) rfl ?_
  refine qr_if_eq (tgt := 147) o (q_dm dm_X12_triesNow 74 rfl) (by decide) ?_ ?_
  · refine qr_iconst o (q_dm dm_X12_triesNow 81 rfl) ic_0 ?_
    exact qr_iret o rfl rfl (q_dm dm_X12_triesNow 82 rfl)
  · refine qr_iload o (q_dm dm_X12_triesNow 75 rfl) rfl ?_
    refine qr_if_eq (tgt := 142) o (q_dm dm_X12_triesNow 76 rfl) (by decide) ?_ ?_
    · refine qr_bipush o (q_dm dm_X12_triesNow 79 rfl) bi_m2 ?_
      refine qr_goto (tgt := 148) o (q_dm dm_X12_triesNow 80 rfl) (by decide) ?_
      exact qr_iret o rfl rfl (q_dm dm_X12_triesNow 82 rfl)
    · refine qr_iconst o (q_dm dm_X12_triesNow 77 rfl) ic_1 ?_
      refine qr_goto (tgt := 148) o (q_dm dm_X12_triesNow 78 rfl) (by decide) ?_
      exact qr_iret o rfl rfl (q_dm dm_X12_triesNow 82 rfl)

def f_X12_triesNow_27 (n : Nat) (a1 a2 s0 : Int32) (M : qM) : qR :=
  qc (f_X12_hasNeeds n a1 a2 M) (fun r1 m2 => qc (f_X12_at n a1 a2 m2) (fun r3 m4 => (if s0 = (0 : Int32) then f_X12_triesNow_84 n s0 r1 r3 m4 else (if r1 = (0 : Int32) then f_X12_triesNow_84 n s0 r1 r3 m4 else qg ((192 : Int32) + r3) 954 (qc (f_X12_min n (999 : Int32) ((m4 78 ((192 : Int32) + r3).toNatClampNeg) + (1 : Int32)) m4) (fun r5 m6 => qg ((192 : Int32) + r3) 954 (qlm (mu m6 78 ((192 : Int32) + r3).toNatClampNeg r5) (fun m7 => f_X12_triesNow_84 n s0 r1 r3 m7))))))))
set_option maxRecDepth 4000 in
theorem w_X12_triesNow_27 {g : qG} {k : qK} (n : Nat) (j r : Nat) (hj : q_isLaw j) (hr : q_isLaw r) (o : qOk g 4 zX12_triesNow k) (a1 a2 s0 : Int32) (M : qM) : qAE g k zX12_triesNow (qL j r) 27 [some (.inr (some 77)), some (.inl a1), some (.inl a2), none, none, none, none] [.inl s0] (qL j r, M) (f_X12_triesNow_27 n a1 a2 s0 M) := by
  unfold f_X12_triesNow_27
  refine qs_istore (L' := [some (.inr (some 77)), some (.inl a1), some (.inl a2), none, some (.inl s0), none, none]) o (q_dm dm_X12_triesNow 17 rfl) (Nat.le_of_ble_eq_true rfl) rfl ?_
  refine qr_aload_n o (q_dm dm_X12_triesNow 18 rfl) rfl ?_
  refine qr_iload_n o (q_dm dm_X12_triesNow 19 rfl) rfl ?_
  refine qr_iload_n o (q_dm dm_X12_triesNow 20 rfl) rfl ?_
  refine qr_callv_i (As := [.inl a1, .inl a2]) (S := []) o (a_X12_hasNeeds g k.2.1 n j r hj hr a1 a2 M) (Nat.le_of_ble_eq_true rfl) zv_X12_hasNeeds rfl cf_X12 (sh77 j r) ml_X12_304 (Nat.le_of_ble_eq_true rfl) (q_dm dm_X12_triesNow 21 rfl) (fun r1 m2 => ?_)
  refine qs_istore (L' := [some (.inr (some 77)), some (.inl a1), some (.inl a2), none, some (.inl s0), some (.inl r1), none]) o (q_dm dm_X12_triesNow 22 rfl) (Nat.le_of_ble_eq_true rfl) rfl ?_
  refine qr_iload_n o (q_dm dm_X12_triesNow 23 rfl) rfl ?_
  refine qr_iload_n o (q_dm dm_X12_triesNow 24 rfl) rfl ?_
  refine qr_calls_i (As := [.inl a1, .inl a2]) (S := []) o (a_X12_at g k.2.1 n j r hj hr a1 a2 m2) (Nat.le_of_ble_eq_true rfl) zs_X12_at rfl ml_X12_282 (Nat.le_of_ble_eq_true rfl) (q_dm dm_X12_triesNow 25 rfl) (fun r3 m4 => ?_)
  refine qs_istore (L' := [some (.inr (some 77)), some (.inl a1), some (.inl a2), none, some (.inl s0), some (.inl r1), some (.inl r3)]) o (q_dm dm_X12_triesNow 26 rfl) (Nat.le_of_ble_eq_true rfl) rfl ?_
  refine qr_iload o (q_dm dm_X12_triesNow 27 rfl) rfl ?_
  refine qr_if_eq (tgt := 84) o (q_dm dm_X12_triesNow 28 rfl) (by decide) ?_ ?_
  · exact qr_loc (q_leS (q_leN (q_leN (q_leN (q_leS (q_leS (q_leS q_le0))))))) (w_X12_triesNow_84 n j r hj hr o s0 r1 r3 m4)
  · refine qr_iload o (q_dm dm_X12_triesNow 29 rfl) rfl ?_
    refine qr_if_eq (tgt := 84) o (q_dm dm_X12_triesNow 30 rfl) (by decide) ?_ ?_
    · exact qr_loc (q_leS (q_leN (q_leN (q_leN (q_leS (q_leS (q_leS q_le0))))))) (w_X12_triesNow_84 n j r hj hr o s0 r1 r3 m4)
    · refine qr_aload_n o (q_dm dm_X12_triesNow 31 rfl) rfl ?_
      refine qr_getr (kf := 0) o cf_X12 (sh77 j r) rfl (Nat.le_of_ble_eq_true rfl) fl_X12_7 (q_dm dm_X12_triesNow 32 rfl) ?_
      refine qr_sipush o (q_dm dm_X12_triesNow 33 rfl) si_192 ?_
      refine qr_iload o (q_dm dm_X12_triesNow 34 rfl) rfl ?_
      refine qr_iadd o (q_dm dm_X12_triesNow 35 rfl) ?_
      refine qr_sipush o (q_dm dm_X12_triesNow 36 rfl) si_999 ?_
      refine qr_aload_n o (q_dm dm_X12_triesNow 37 rfl) rfl ?_
      refine qr_getr (kf := 0) o cf_X12 (sh77 j r) rfl (Nat.le_of_ble_eq_true rfl) fl_X12_7 (q_dm dm_X12_triesNow 38 rfl) ?_
      refine qr_sipush o (q_dm dm_X12_triesNow 39 rfl) si_192 ?_
      refine qr_iload o (q_dm dm_X12_triesNow 40 rfl) rfl ?_
      refine qr_iadd o (q_dm dm_X12_triesNow 41 rfl) ?_
      refine qr_iald o (sh78 j r) (q_dm dm_X12_triesNow 42 rfl) ?_
      refine qr_iconst o (q_dm dm_X12_triesNow 43 rfl) ic_1 ?_
      refine qr_iadd o (q_dm dm_X12_triesNow 44 rfl) ?_
      refine qr_calls_i (As := [.inl (999 : Int32), .inl ((m4 78 ((192 : Int32) + r3).toNatClampNeg) + (1 : Int32))]) (S := [.inl ((192 : Int32) + r3), .inr (some 78)]) o (a_X12_min g k.2.1 n j r hj hr (999 : Int32) ((m4 78 ((192 : Int32) + r3).toNatClampNeg) + (1 : Int32)) m4) (Nat.le_of_ble_eq_true rfl) zs_X12_min rfl ml_X12_307 (Nat.le_of_ble_eq_true rfl) (q_dm dm_X12_triesNow 45 rfl) (fun r5 m6 => ?_)
      refine qr_iast o (sh78 j r) (q_dm dm_X12_triesNow 46 rfl) ?_
      refine qr_letm (fun m7 => ?_)
      exact qr_loc (q_leS (q_leN (q_leN (q_leN (q_leS (q_leS (q_leS q_le0))))))) (w_X12_triesNow_84 n j r hj hr o s0 r1 r3 m7)

def f_X12_triesNow (n : Nat) (a1 a2 a3 : Int32) (M : qM) : qR :=
  qc (f_X12_forgets n a1 a2 M) (fun _ m1 => qc (f_X12_oldOnes n a1 a2 m1) (fun r2 m3 => qc (f_X12_voidFor n a1 a2 a3 m3) (fun r4 m5 => (if r2 < r4 then f_X12_triesNow_27 n a1 a2 (0 : Int32) m5 else f_X12_triesNow_27 n a1 a2 (1 : Int32) m5))))
set_option maxRecDepth 4000 in
theorem w_X12_triesNow {g : qG} {k : qK} (n : Nat) (j r : Nat) (hj : q_isLaw j) (hr : q_isLaw r) (o : qOk g 4 zX12_triesNow k) (a1 a2 a3 : Int32) (M : qM) : qAE g k zX12_triesNow (qL j r) 0 [some (.inr (some 77)), some (.inl a1), some (.inl a2), some (.inl a3), none, none, none] [] (qL j r, M) (f_X12_triesNow n a1 a2 a3 M) := by
  unfold f_X12_triesNow
  refine qr_aload_n o (q_dm dm_X12_triesNow 0 rfl) rfl ?_
  refine qr_iload_n o (q_dm dm_X12_triesNow 1 rfl) rfl ?_
  refine qr_iload_n o (q_dm dm_X12_triesNow 2 rfl) rfl ?_
  refine qr_callv_v (As := [.inl a1, .inl a2]) (S := []) o (a_X12_forgets g k.2.1 n j r hj hr a1 a2 M) (Nat.le_of_ble_eq_true rfl) zv_X12_forgets rfl cf_X12 (sh77 j r) ml_X12_295 (Nat.le_of_ble_eq_true rfl) (q_dm dm_X12_triesNow 3 rfl) (fun _ m1 => ?_)
  refine qr_aload_n o (q_dm dm_X12_triesNow 4 rfl) rfl ?_
  refine qr_iload_n o (q_dm dm_X12_triesNow 5 rfl) rfl ?_
  refine qr_iload_n o (q_dm dm_X12_triesNow 6 rfl) rfl ?_
  refine qr_callv_i (As := [.inl a1, .inl a2]) (S := []) o (a_X12_oldOnes g k.2.1 n j r hj hr a1 a2 m1) (Nat.le_of_ble_eq_true rfl) zv_X12_oldOnes rfl cf_X12 (sh77 j r) ml_X12_298 (Nat.le_of_ble_eq_true rfl) (q_dm dm_X12_triesNow 7 rfl) (fun r2 m3 => ?_)
  refine qr_aload_n o (q_dm dm_X12_triesNow 8 rfl) rfl ?_
  refine qr_iload_n o (q_dm dm_X12_triesNow 9 rfl) rfl ?_
  refine qr_iload_n o (q_dm dm_X12_triesNow 10 rfl) rfl ?_
  refine qr_iload_n o (q_dm dm_X12_triesNow 11 rfl) rfl ?_
  refine qr_callv_i (As := [.inl a1, .inl a2, .inl a3]) (S := [.inl r2]) o (a_X12_voidFor g k.2.1 n j r hj hr a1 a2 a3 m3) (Nat.le_of_ble_eq_true rfl) zv_X12_voidFor rfl cf_X12 (sh77 j r) ml_X12_301 (Nat.le_of_ble_eq_true rfl) (q_dm dm_X12_triesNow 12 rfl) (fun r4 m5 => ?_)
  refine qr_icmp_lt (tgt := 26) o (q_dm dm_X12_triesNow 13 rfl) (by decide) ?_ ?_
  · refine qr_iconst o (q_dm dm_X12_triesNow 16 rfl) ic_0 ?_
    exact qr_loc (q_leS (q_leS (q_leS (q_leN (q_leN (q_leN (q_leN q_le0))))))) (w_X12_triesNow_27 n j r hj hr o a1 a2 (0 : Int32) m5)
  · refine qr_iconst o (q_dm dm_X12_triesNow 14 rfl) ic_1 ?_
    refine qr_goto (tgt := 27) o (q_dm dm_X12_triesNow 15 rfl) (by decide) ?_
    exact qr_loc (q_leS (q_leS (q_leS (q_leN (q_leN (q_leN (q_leN q_le0))))))) (w_X12_triesNow_27 n j r hj hr o a1 a2 (1 : Int32) m5)

theorem a_X12_triesNow (g : qG) (l : Launch) (n : Nat) (j r : Nat) (hj : q_isLaw j) (hr : q_isLaw r) (a1 a2 a3 : Int32) (M : qM) : qAM g l 4 zX12_triesNow (qL j r) [.inr (some 77), .inl a1, .inl a2, .inl a3] (qL j r, M) (f_X12_triesNow n a1 a2 a3 M) :=
  qAM.of zv_X12_triesNow.1 (by show 4 ≤ 7; decide) (fun k hk o => w_X12_triesNow n j r hj hr o a1 a2 a3 M)
def tb_X12_dayOf : List (Nat × Instr × Nat) := [(0, (.bipush 12, 2)), (2, (.istore_n 2, 1)), (3, (.aload_n 0, 1)), (4, (.getfield 7, 3)), (7, (.sipush 304, 3)), (10, (.iload_n 1, 1)), (11, (.iadd, 1)), (12, (.iaload, 1)), (13, (.aload_n 0, 1)), (14, (.getfield 7, 3)), (17, (.sipush 296, 3)), (20, (.iload_n 1, 1)), (21, (.iadd, 1)), (22, (.iaload, 1)), (23, (.if_icmp .ge 157, 3)), (26, (.bipush 40, 2)), (28, (.iload_n 1, 1)), (29, (.imul, 1)), (30, (.aload_n 0, 1)), (31, (.getfield 7, 3)), (34, (.sipush 304, 3)), (37, (.iload_n 1, 1)), (38, (.iadd, 1)), (39, (.iaload, 1)), (40, (.iadd, 1)), (41, (.istore_n 3, 1)), (42, (.aload_n 0, 1)), (43, (.getfield 7, 3)), (46, (.sipush 314, 3)), (49, (.iload_n 3, 1)), (50, (.iadd, 1)), (51, (.iaload, 1)), (52, (.istore 4, 2)), (54, (.aload_n 0, 1)), (55, (.getfield 7, 3)), (58, (.sipush 634, 3)), (61, (.iload_n 3, 1)), (62, (.iadd, 1)), (63, (.iaload, 1)), (64, (.istore 5, 2)), (66, (.aload_n 0, 1)), (67, (.iload 4, 2)), (69, (.invokevirtual 157, 3)), (72, (.ifCond .eq 29, 3)), (75, (.iload 5, 2)), (77, (.iload_n 1, 1)), (78, (.if_icmp .eq 23, 3)), (81, (.iload 5, 2)), (83, (.bipush 8, 2)), (85, (.if_icmp .eq 12, 3)), (88, (.aload_n 0, 1)), (89, (.iload 5, 2)), (91, (.invokevirtual 310, 3)), (94, (.ifCond .eq 7, 3)), (97, (.iconst 1, 1)), (98, (.goto 4, 3)), (101, (.iconst 0, 1)), (102, (.istore 6, 2)), (104, (.iload 6, 2)), (106, (.ifCond .eq 15, 3)), (109, (.aload_n 0, 1)), (110, (.getfield 19, 3)), (113, (.iload 4, 2)), (115, (.iaload, 1)), (116, (.iload_n 2, 1)), (117, (.if_icmp .le 4, 3)), (120, (.return_, 1)), (121, (.aload_n 0, 1)), (122, (.getfield 7, 3)), (125, (.sipush 304, 3)), (128, (.iload_n 1, 1)), (129, (.iadd, 1)), (130, (.aload_n 0, 1)), (131, (.getfield 7, 3)), (134, (.sipush 304, 3)), (137, (.iload_n 1, 1)), (138, (.iadd, 1)), (139, (.iaload, 1)), (140, (.iconst 1, 1)), (141, (.iadd, 1)), (142, (.iastore, 1)), (143, (.iload 6, 2)), (145, (.ifCond .ne 6, 3)), (148, (.goto (-145), 3)), (151, (.iload_n 2, 1)), (152, (.aload_n 0, 1)), (153, (.getfield 19, 3)), (156, (.iload 4, 2)), (158, (.iaload, 1)), (159, (.isub, 1)), (160, (.istore_n 2, 1)), (161, (.aload_n 0, 1)), (162, (.iload_n 1, 1)), (163, (.iload 4, 2)), (165, (.aload_n 0, 1)), (166, (.iload_n 1, 1)), (167, (.iload 4, 2)), (169, (.iload 5, 2)), (171, (.invokevirtual 313, 3)), (174, (.invokevirtual 353, 3)), (177, (.goto (-174), 3)), (180, (.return_, 1))]
theorem dm_X12_dayOf : ∀ q ∈ tb_X12_dayOf, decode zX12_dayOf.2.1 q.1 = .ok q.2 := by decide +kernel
def f_X12_dayOf_121 (n : Nat) (K3 : Int32 → Int32 → qM → qR) (a1 a2 a4 a5 a6 : Int32) (M : qM) : qR :=
  qg ((304 : Int32) + a1) 954 (qg ((304 : Int32) + a1) 954 (qlm (mu M 78 ((304 : Int32) + a1).toNatClampNeg ((M 78 ((304 : Int32) + a1).toNatClampNeg) + (1 : Int32))) (fun m1 => (if a6 = (0 : Int32) then K3 a1 a2 m1 else qg a4 13 (ql (a2 - (m1 81 a4.toNatClampNeg)) (fun x2 => qc (f_X12_triesNow n a1 a4 a5 m1) (fun r3 m4 => qc (f_X12_notesTry n a1 a4 r3 m4) (fun _ m5 => K3 a1 x2 m5))))))))
set_option maxRecDepth 4000 in
theorem w_X12_dayOf_121 {g : qG} {k : qK} (n : Nat) (j r : Nat) (hj : q_isLaw j) (hr : q_isLaw r) (o : qOk g 5 zX12_dayOf k) (K3 : Int32 → Int32 → qM → qR) (hK3 : ∀ (a1 a2 : Int32) (M : qM), qAE g k zX12_dayOf (qL j r) 3 [some (.inr (some 77)), some (.inl a1), some (.inl a2), none, none, none, none] [] (qL j r, M) (K3 a1 a2 M)) (a1 a2 a4 a5 a6 : Int32) (M : qM) : qAE g k zX12_dayOf (qL j r) 121 [some (.inr (some 77)), some (.inl a1), some (.inl a2), none, some (.inl a4), some (.inl a5), some (.inl a6)] [] (qL j r, M) (f_X12_dayOf_121 n K3 a1 a2 a4 a5 a6 M) := by
  unfold f_X12_dayOf_121
  refine qr_aload_n o (q_dm dm_X12_dayOf 67 rfl) rfl ?_
  refine qr_getr (kf := 0) o cf_X12 (sh77 j r) rfl (Nat.le_of_ble_eq_true rfl) fl_X12_7 (q_dm dm_X12_dayOf 68 rfl) ?_
  refine qr_sipush o (q_dm dm_X12_dayOf 69 rfl) si_304 ?_
  refine qr_iload_n o (q_dm dm_X12_dayOf 70 rfl) rfl ?_
  refine qr_iadd o (q_dm dm_X12_dayOf 71 rfl) ?_
  refine qr_aload_n o (q_dm dm_X12_dayOf 72 rfl) rfl ?_
  refine qr_getr (kf := 0) o cf_X12 (sh77 j r) rfl (Nat.le_of_ble_eq_true rfl) fl_X12_7 (q_dm dm_X12_dayOf 73 rfl) ?_
  refine qr_sipush o (q_dm dm_X12_dayOf 74 rfl) si_304 ?_
  refine qr_iload_n o (q_dm dm_X12_dayOf 75 rfl) rfl ?_
  refine qr_iadd o (q_dm dm_X12_dayOf 76 rfl) ?_
  refine qr_iald o (sh78 j r) (q_dm dm_X12_dayOf 77 rfl) ?_
  refine qr_iconst o (q_dm dm_X12_dayOf 78 rfl) ic_1 ?_
  refine qr_iadd o (q_dm dm_X12_dayOf 79 rfl) ?_
  refine qr_iast o (sh78 j r) (q_dm dm_X12_dayOf 80 rfl) ?_
  refine qr_letm (fun m1 => ?_)
  refine qr_iload o (q_dm dm_X12_dayOf 81 rfl) rfl ?_
  refine qr_if_ne (tgt := 151) o (q_dm dm_X12_dayOf 82 rfl) (by decide) ?_ ?_
  · refine qr_iload_n o (q_dm dm_X12_dayOf 84 rfl) rfl ?_
    refine qr_aload_n o (q_dm dm_X12_dayOf 85 rfl) rfl ?_
    refine qr_getr (kf := 3) o cf_X12 (sh77 j r) rfl (Nat.le_of_ble_eq_true rfl) fl_X12_19 (q_dm dm_X12_dayOf 86 rfl) ?_
    refine qr_iload o (q_dm dm_X12_dayOf 87 rfl) rfl ?_
    refine qr_iald o (sh81 j r) (q_dm dm_X12_dayOf 88 rfl) ?_
    refine qr_isub o (q_dm dm_X12_dayOf 89 rfl) ?_
    refine qr_lt (fun x2 => ?_)
    refine qs_istore_n (L' := [some (.inr (some 77)), some (.inl a1), some (.inl x2), none, some (.inl a4), some (.inl a5), some (.inl a6)]) o (q_dm dm_X12_dayOf 90 rfl) (Nat.le_of_ble_eq_true rfl) rfl ?_
    refine qr_aload_n o (q_dm dm_X12_dayOf 91 rfl) rfl ?_
    refine qr_iload_n o (q_dm dm_X12_dayOf 92 rfl) rfl ?_
    refine qr_iload o (q_dm dm_X12_dayOf 93 rfl) rfl ?_
    refine qr_aload_n o (q_dm dm_X12_dayOf 94 rfl) rfl ?_
    refine qr_iload_n o (q_dm dm_X12_dayOf 95 rfl) rfl ?_
    refine qr_iload o (q_dm dm_X12_dayOf 96 rfl) rfl ?_
    refine qr_iload o (q_dm dm_X12_dayOf 97 rfl) rfl ?_
    refine qr_callv_i (As := [.inl a1, .inl a4, .inl a5]) (S := [.inl a4, .inl a1, .inr (some 77)]) o (a_X12_triesNow g k.2.1 n j r hj hr a1 a4 a5 m1) (Nat.le_of_ble_eq_true rfl) zv_X12_triesNow rfl cf_X12 (sh77 j r) ml_X12_313 (Nat.le_of_ble_eq_true rfl) (q_dm dm_X12_dayOf 98 rfl) (fun r3 m4 => ?_)
    refine qr_callv_v (As := [.inl a1, .inl a4, .inl r3]) (S := []) o (a_X12_notesTry g k.2.1 n j r hj hr a1 a4 r3 m4) (Nat.le_of_ble_eq_true rfl) zv_X12_notesTry rfl cf_X12 (sh77 j r) ml_X12_353 (Nat.le_of_ble_eq_true rfl) (q_dm dm_X12_dayOf 99 rfl) (fun _ m5 => ?_)
    refine qr_goto (tgt := 3) o (q_dm dm_X12_dayOf 100 rfl) (by decide) ?_
    exact qr_loc (q_leS (q_leS (q_leS (q_leN (q_leN (q_leN (q_leN q_le0))))))) (hK3 a1 x2 m5)
  · refine qr_goto (tgt := 3) o (q_dm dm_X12_dayOf 83 rfl) (by decide) ?_
    exact qr_loc (q_leS (q_leS (q_leS (q_leN (q_leN (q_leN (q_leN q_le0))))))) (hK3 a1 a2 m1)

def f_X12_dayOf_102 (n : Nat) (K3 : Int32 → Int32 → qM → qR) (a1 a2 a4 a5 s0 : Int32) (M : qM) : qR :=
  (if s0 = (0 : Int32) then f_X12_dayOf_121 n K3 a1 a2 a4 a5 s0 M else qg a4 13 ((if (M 81 a4.toNatClampNeg) ≤ a2 then f_X12_dayOf_121 n K3 a1 a2 a4 a5 s0 M else some (0, M))))
set_option maxRecDepth 4000 in
theorem w_X12_dayOf_102 {g : qG} {k : qK} (n : Nat) (j r : Nat) (hj : q_isLaw j) (hr : q_isLaw r) (o : qOk g 5 zX12_dayOf k) (K3 : Int32 → Int32 → qM → qR) (hK3 : ∀ (a1 a2 : Int32) (M : qM), qAE g k zX12_dayOf (qL j r) 3 [some (.inr (some 77)), some (.inl a1), some (.inl a2), none, none, none, none] [] (qL j r, M) (K3 a1 a2 M)) (a1 a2 a4 a5 s0 : Int32) (M : qM) : qAE g k zX12_dayOf (qL j r) 102 [some (.inr (some 77)), some (.inl a1), some (.inl a2), none, some (.inl a4), some (.inl a5), none] [.inl s0] (qL j r, M) (f_X12_dayOf_102 n K3 a1 a2 a4 a5 s0 M) := by
  unfold f_X12_dayOf_102
  refine qs_istore (L' := [some (.inr (some 77)), some (.inl a1), some (.inl a2), none, some (.inl a4), some (.inl a5), some (.inl s0)]) o (q_dm dm_X12_dayOf 57 rfl) (Nat.le_of_ble_eq_true rfl) rfl ?_
  refine qr_iload o (q_dm dm_X12_dayOf 58 rfl) rfl ?_
  refine qr_if_eq (tgt := 121) o (q_dm dm_X12_dayOf 59 rfl) (by decide) ?_ ?_
  · exact qr_loc (q_leS (q_leS (q_leS (q_leN (q_leS (q_leS (q_leS q_le0))))))) (w_X12_dayOf_121 n j r hj hr o K3 hK3 a1 a2 a4 a5 s0 M)
  · refine qr_aload_n o (q_dm dm_X12_dayOf 60 rfl) rfl ?_
    refine qr_getr (kf := 3) o cf_X12 (sh77 j r) rfl (Nat.le_of_ble_eq_true rfl) fl_X12_19 (q_dm dm_X12_dayOf 61 rfl) ?_
    refine qr_iload o (q_dm dm_X12_dayOf 62 rfl) rfl ?_
    refine qr_iald o (sh81 j r) (q_dm dm_X12_dayOf 63 rfl) ?_
    refine qr_iload_n o (q_dm dm_X12_dayOf 64 rfl) rfl ?_
    refine qr_icmp_le (tgt := 121) o (q_dm dm_X12_dayOf 65 rfl) (by decide) ?_ ?_
    · exact qr_loc (q_leS (q_leS (q_leS (q_leN (q_leS (q_leS (q_leS q_le0))))))) (w_X12_dayOf_121 n j r hj hr o K3 hK3 a1 a2 a4 a5 s0 M)
    · exact qr_vret o rfl (q_dm dm_X12_dayOf 66 rfl)

def f_X12_dayOf_101 (n : Nat) (K3 : Int32 → Int32 → qM → qR) (a1 a2 a4 a5 : Int32) (M : qM) : qR :=
  f_X12_dayOf_102 n K3 a1 a2 a4 a5 (0 : Int32) M
set_option maxRecDepth 4000 in
theorem w_X12_dayOf_101 {g : qG} {k : qK} (n : Nat) (j r : Nat) (hj : q_isLaw j) (hr : q_isLaw r) (o : qOk g 5 zX12_dayOf k) (K3 : Int32 → Int32 → qM → qR) (hK3 : ∀ (a1 a2 : Int32) (M : qM), qAE g k zX12_dayOf (qL j r) 3 [some (.inr (some 77)), some (.inl a1), some (.inl a2), none, none, none, none] [] (qL j r, M) (K3 a1 a2 M)) (a1 a2 a4 a5 : Int32) (M : qM) : qAE g k zX12_dayOf (qL j r) 101 [some (.inr (some 77)), some (.inl a1), some (.inl a2), none, some (.inl a4), some (.inl a5), none] [] (qL j r, M) (f_X12_dayOf_101 n K3 a1 a2 a4 a5 M) := by
  unfold f_X12_dayOf_101
  refine qr_iconst o (q_dm dm_X12_dayOf 56 rfl) ic_0 ?_
  exact qr_loc (q_leS (q_leS (q_leS (q_leN (q_leS (q_leS (q_leN q_le0))))))) (w_X12_dayOf_102 n j r hj hr o K3 hK3 a1 a2 a4 a5 (0 : Int32) M)

def b_X12_dayOf_3 (n : Nat) (K3 : Int32 → Int32 → qM → qR) (a1 a2 : Int32) (M : qM) : qR :=
  qg ((304 : Int32) + a1) 954 (qg ((296 : Int32) + a1) 954 ((if (M 78 ((296 : Int32) + a1).toNatClampNeg) ≤ (M 78 ((304 : Int32) + a1).toNatClampNeg) then some (0, M) else qg ((304 : Int32) + a1) 954 (ql (((40 : Int32) * a1) + (M 78 ((304 : Int32) + a1).toNatClampNeg)) (fun x1 => qg ((314 : Int32) + x1) 954 (ql (M 78 ((314 : Int32) + x1).toNatClampNeg) (fun x2 => qg ((634 : Int32) + x1) 954 (ql (M 78 ((634 : Int32) + x1).toNatClampNeg) (fun x3 => qc (f_X12_isKind n x2 M) (fun r4 m5 => (if r4 = (0 : Int32) then f_X12_dayOf_101 n K3 a1 a2 x2 x3 m5 else (if x3 = a1 then f_X12_dayOf_101 n K3 a1 a2 x2 x3 m5 else (if x3 = (8 : Int32) then f_X12_dayOf_102 n K3 a1 a2 x2 x3 (1 : Int32) m5 else qc (f_X12_isPerson n x3 m5) (fun r6 m7 => (if r6 = (0 : Int32) then f_X12_dayOf_101 n K3 a1 a2 x2 x3 m7 else f_X12_dayOf_102 n K3 a1 a2 x2 x3 (1 : Int32) m7)))))))))))))))
set_option maxRecDepth 4000 in
theorem wb_X12_dayOf_3 {g : qG} {k : qK} (n : Nat) (j r : Nat) (hj : q_isLaw j) (hr : q_isLaw r) (o : qOk g 5 zX12_dayOf k) (K3 : Int32 → Int32 → qM → qR) (hK3 : ∀ (a1 a2 : Int32) (M : qM), qAE g k zX12_dayOf (qL j r) 3 [some (.inr (some 77)), some (.inl a1), some (.inl a2), none, none, none, none] [] (qL j r, M) (K3 a1 a2 M)) (a1 a2 : Int32) (M : qM) : qAE g k zX12_dayOf (qL j r) 3 [some (.inr (some 77)), some (.inl a1), some (.inl a2), none, none, none, none] [] (qL j r, M) (b_X12_dayOf_3 n K3 a1 a2 M) := by
  unfold b_X12_dayOf_3
  refine qr_aload_n o (q_dm dm_X12_dayOf 2 rfl) rfl ?_
  refine qr_getr (kf := 0) o cf_X12 (sh77 j r) rfl (Nat.le_of_ble_eq_true rfl) fl_X12_7 (q_dm dm_X12_dayOf 3 rfl) ?_
  refine qr_sipush o (q_dm dm_X12_dayOf 4 rfl) si_304 ?_
  refine qr_iload_n o (q_dm dm_X12_dayOf 5 rfl) rfl ?_
  refine qr_iadd o (q_dm dm_X12_dayOf 6 rfl) ?_
  refine qr_iald o (sh78 j r) (q_dm dm_X12_dayOf 7 rfl) ?_
  refine qr_aload_n o (q_dm dm_X12_dayOf 8 rfl) rfl ?_
  refine qr_getr (kf := 0) o cf_X12 (sh77 j r) rfl (Nat.le_of_ble_eq_true rfl) fl_X12_7 (q_dm dm_X12_dayOf 9 rfl) ?_
  refine qr_sipush o (q_dm dm_X12_dayOf 10 rfl) si_296 ?_
  refine qr_iload_n o (q_dm dm_X12_dayOf 11 rfl) rfl ?_
  refine qr_iadd o (q_dm dm_X12_dayOf 12 rfl) ?_
  refine qr_iald o (sh78 j r) (q_dm dm_X12_dayOf 13 rfl) ?_
  refine qr_icmp_ge (tgt := 180) o (q_dm dm_X12_dayOf 14 rfl) (by decide) ?_ ?_
  · exact qr_vret o rfl (q_dm dm_X12_dayOf 101 rfl)
  · refine qr_bipush o (q_dm dm_X12_dayOf 15 rfl) bi_40 ?_
    refine qr_iload_n o (q_dm dm_X12_dayOf 16 rfl) rfl ?_
    refine qr_imul o (q_dm dm_X12_dayOf 17 rfl) ?_
    refine qr_aload_n o (q_dm dm_X12_dayOf 18 rfl) rfl ?_
    refine qr_getr (kf := 0) o cf_X12 (sh77 j r) rfl (Nat.le_of_ble_eq_true rfl) fl_X12_7 (q_dm dm_X12_dayOf 19 rfl) ?_
    refine qr_sipush o (q_dm dm_X12_dayOf 20 rfl) si_304 ?_
    refine qr_iload_n o (q_dm dm_X12_dayOf 21 rfl) rfl ?_
    refine qr_iadd o (q_dm dm_X12_dayOf 22 rfl) ?_
    refine qr_iald o (sh78 j r) (q_dm dm_X12_dayOf 23 rfl) ?_
    refine qr_iadd o (q_dm dm_X12_dayOf 24 rfl) ?_
    refine qr_lt (fun x1 => ?_)
    refine qs_istore_n (L' := [some (.inr (some 77)), some (.inl a1), some (.inl a2), some (.inl x1), none, none, none]) o (q_dm dm_X12_dayOf 25 rfl) (Nat.le_of_ble_eq_true rfl) rfl ?_
    refine qr_aload_n o (q_dm dm_X12_dayOf 26 rfl) rfl ?_
    refine qr_getr (kf := 0) o cf_X12 (sh77 j r) rfl (Nat.le_of_ble_eq_true rfl) fl_X12_7 (q_dm dm_X12_dayOf 27 rfl) ?_
    refine qr_sipush o (q_dm dm_X12_dayOf 28 rfl) si_314 ?_
    refine qr_iload_n o (q_dm dm_X12_dayOf 29 rfl) rfl ?_
    refine qr_iadd o (q_dm dm_X12_dayOf 30 rfl) ?_
    refine qr_iald o (sh78 j r) (q_dm dm_X12_dayOf 31 rfl) ?_
    refine qr_lt (fun x2 => ?_)
    refine qs_istore (L' := [some (.inr (some 77)), some (.inl a1), some (.inl a2), some (.inl x1), some (.inl x2), none, none]) o (q_dm dm_X12_dayOf 32 rfl) (Nat.le_of_ble_eq_true rfl) rfl ?_
    refine qr_aload_n o (q_dm dm_X12_dayOf 33 rfl) rfl ?_
    refine qr_getr (kf := 0) o cf_X12 (sh77 j r) rfl (Nat.le_of_ble_eq_true rfl) fl_X12_7 (q_dm dm_X12_dayOf 34 rfl) ?_
    refine qr_sipush o (q_dm dm_X12_dayOf 35 rfl) si_634 ?_
    refine qr_iload_n o (q_dm dm_X12_dayOf 36 rfl) rfl ?_
    refine qr_iadd o (q_dm dm_X12_dayOf 37 rfl) ?_
    refine qr_iald o (sh78 j r) (q_dm dm_X12_dayOf 38 rfl) ?_
    refine qr_lt (fun x3 => ?_)
    refine qs_istore (L' := [some (.inr (some 77)), some (.inl a1), some (.inl a2), some (.inl x1), some (.inl x2), some (.inl x3), none]) o (q_dm dm_X12_dayOf 39 rfl) (Nat.le_of_ble_eq_true rfl) rfl ?_
    refine qr_aload_n o (q_dm dm_X12_dayOf 40 rfl) rfl ?_
    refine qr_iload o (q_dm dm_X12_dayOf 41 rfl) rfl ?_
    refine qr_callv_i (As := [.inl x2]) (S := []) o (a_X12_isKind g k.2.1 n j r hj hr x2 M) (Nat.le_of_ble_eq_true rfl) zv_X12_isKind rfl cf_X12 (sh77 j r) ml_X12_157 (Nat.le_of_ble_eq_true rfl) (q_dm dm_X12_dayOf 42 rfl) (fun r4 m5 => ?_)
    refine qr_if_eq (tgt := 101) o (q_dm dm_X12_dayOf 43 rfl) (by decide) ?_ ?_
    · exact qr_loc (q_leS (q_leS (q_leS (q_leN (q_leS (q_leS (q_leN q_le0))))))) (w_X12_dayOf_101 n j r hj hr o K3 hK3 a1 a2 x2 x3 m5)
    · refine qr_iload o (q_dm dm_X12_dayOf 44 rfl) rfl ?_
      refine qr_iload_n o (q_dm dm_X12_dayOf 45 rfl) rfl ?_
      refine qr_icmp_eq (tgt := 101) o (q_dm dm_X12_dayOf 46 rfl) (by decide) ?_ ?_
      · exact qr_loc (q_leS (q_leS (q_leS (q_leN (q_leS (q_leS (q_leN q_le0))))))) (w_X12_dayOf_101 n j r hj hr o K3 hK3 a1 a2 x2 x3 m5)
      · refine qr_iload o (q_dm dm_X12_dayOf 47 rfl) rfl ?_
        refine qr_bipush o (q_dm dm_X12_dayOf 48 rfl) bi_8 ?_
        refine qr_icmp_eq (tgt := 97) o (q_dm dm_X12_dayOf 49 rfl) (by decide) ?_ ?_
        · refine qr_iconst o (q_dm dm_X12_dayOf 54 rfl) ic_1 ?_
          refine qr_goto (tgt := 102) o (q_dm dm_X12_dayOf 55 rfl) (by decide) ?_
          exact qr_loc (q_leS (q_leS (q_leS (q_leN (q_leS (q_leS (q_leN q_le0))))))) (w_X12_dayOf_102 n j r hj hr o K3 hK3 a1 a2 x2 x3 (1 : Int32) m5)
        · refine qr_aload_n o (q_dm dm_X12_dayOf 50 rfl) rfl ?_
          refine qr_iload o (q_dm dm_X12_dayOf 51 rfl) rfl ?_
          refine qr_callv_i (As := [.inl x3]) (S := []) o (a_X12_isPerson g k.2.1 n j r hj hr x3 m5) (Nat.le_of_ble_eq_true rfl) zv_X12_isPerson rfl cf_X12 (sh77 j r) ml_X12_310 (Nat.le_of_ble_eq_true rfl) (q_dm dm_X12_dayOf 52 rfl) (fun r6 m7 => ?_)
          refine qr_if_eq (tgt := 101) o (q_dm dm_X12_dayOf 53 rfl) (by decide) ?_ ?_
          · exact qr_loc (q_leS (q_leS (q_leS (q_leN (q_leS (q_leS (q_leN q_le0))))))) (w_X12_dayOf_101 n j r hj hr o K3 hK3 a1 a2 x2 x3 m7)
          · refine qr_iconst o (q_dm dm_X12_dayOf 54 rfl) ic_1 ?_
            refine qr_goto (tgt := 102) o (q_dm dm_X12_dayOf 55 rfl) (by decide) ?_
            exact qr_loc (q_leS (q_leS (q_leS (q_leN (q_leS (q_leS (q_leN q_le0))))))) (w_X12_dayOf_102 n j r hj hr o K3 hK3 a1 a2 x2 x3 (1 : Int32) m7)

def f_X12_dayOf_3 (n : Nat) : Nat → Int32 → Int32 → qM → qR
  | 0, _, _, _ => none
  | m + 1, a1, a2, M => b_X12_dayOf_3 n (f_X12_dayOf_3 n m) a1 a2 M
theorem w_X12_dayOf_3 {g : qG} {k : qK} (n : Nat) (j r : Nat) (hj : q_isLaw j) (hr : q_isLaw r) (o : qOk g 5 zX12_dayOf k) : ∀ (m : Nat) (a1 a2 : Int32) (M : qM), qAE g k zX12_dayOf (qL j r) 3 [some (.inr (some 77)), some (.inl a1), some (.inl a2), none, none, none, none] [] (qL j r, M) (f_X12_dayOf_3 n m a1 a2 M) := by
  intro m
  induction m with
  | zero =>
    intro a1 a2 M
    exact qr_none
  | succ m ih =>
    intro a1 a2 M
    exact wb_X12_dayOf_3 n j r hj hr o (f_X12_dayOf_3 n m) ih a1 a2 M
def f_X12_dayOf (n : Nat) (a1 : Int32) (M : qM) : qR :=
  f_X12_dayOf_3 n n a1 (12 : Int32) M
set_option maxRecDepth 4000 in
theorem w_X12_dayOf {g : qG} {k : qK} (n : Nat) (j r : Nat) (hj : q_isLaw j) (hr : q_isLaw r) (o : qOk g 5 zX12_dayOf k) (a1 : Int32) (M : qM) : qAE g k zX12_dayOf (qL j r) 0 [some (.inr (some 77)), some (.inl a1), none, none, none, none, none] [] (qL j r, M) (f_X12_dayOf n a1 M) := by
  unfold f_X12_dayOf
  refine qr_bipush o (q_dm dm_X12_dayOf 0 rfl) bi_12 ?_
  refine qs_istore_n (L' := [some (.inr (some 77)), some (.inl a1), some (.inl (12 : Int32)), none, none, none, none]) o (q_dm dm_X12_dayOf 1 rfl) (Nat.le_of_ble_eq_true rfl) rfl ?_
  exact qr_loc (q_leS (q_leS (q_leS (q_leN (q_leN (q_leN (q_leN q_le0))))))) (w_X12_dayOf_3 n j r hj hr o n a1 (12 : Int32) M)

theorem a_X12_dayOf (g : qG) (l : Launch) (n : Nat) (j r : Nat) (hj : q_isLaw j) (hr : q_isLaw r) (a1 : Int32) (M : qM) : qAM g l 5 zX12_dayOf (qL j r) [.inr (some 77), .inl a1] (qL j r, M) (f_X12_dayOf n a1 M) :=
  qAM.of zv_X12_dayOf.1 (by show 2 ≤ 7; decide) (fun k hk o => w_X12_dayOf n j r hj hr o a1 M)
