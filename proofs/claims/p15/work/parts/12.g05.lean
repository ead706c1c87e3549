def tb_X11_court : List (Nat × Instr × Nat) := [(0, (.iload_n 1, 1)), (1, (.iconst 1, 1)), (2, (.if_icmp .lt 31, 3)), (5, (.iload_n 1, 1)), (6, (.bipush 9, 2)), (8, (.if_icmp .gt 25, 3)), (11, (.iload 5, 2)), (13, (.ifCond .lt 20, 3)), (16, (.iload 5, 2)), (18, (.iload_n 1, 1)), (19, (.if_icmp .gt 14, 3)), (22, (.iload 6, 2)), (24, (.ifCond .lt 9, 3)), (27, (.iload 6, 2)), (29, (.iconst 2, 1)), (30, (.if_icmp .le 5, 3)), (33, (.iconst (-1), 1)), (34, (.ireturn, 1)), (35, (.iconst 1, 1)), (36, (.iload_n 1, 1)), (37, (.ishl, 1)), (38, (.iconst 1, 1)), (39, (.isub, 1)), (40, (.istore 7, 2)), (42, (.iload_n 2, 1)), (43, (.iload 7, 2)), (45, (.iconst (-1), 1)), (46, (.ixor, 1)), (47, (.iand, 1)), (48, (.ifCond .ne 22, 3)), (51, (.iload_n 3, 1)), (52, (.iload 7, 2)), (54, (.iconst (-1), 1)), (55, (.ixor, 1)), (56, (.iand, 1)), (57, (.ifCond .ne 13, 3)), (60, (.iload 4, 2)), (62, (.iload 7, 2)), (64, (.iconst (-1), 1)), (65, (.ixor, 1)), (66, (.iand, 1)), (67, (.ifCond .eq 5, 3)), (70, (.iconst (-1), 1)), (71, (.ireturn, 1)), (72, (.iload_n 2, 1)), (73, (.invokestatic 220, 3)), (76, (.istore 8, 2)), (78, (.iload_n 2, 1)), (79, (.istore 9, 2)), (81, (.iload 8, 2)), (83, (.iload 5, 2)), (85, (.if_icmp .lt 37, 3)), (88, (.iconst 2, 1)), (89, (.iload 8, 2)), (91, (.imul, 1)), (92, (.iload_n 1, 1)), (93, (.if_icmp .lt 7, 3)), (96, (.iload_n 2, 1)), (97, (.goto 9, 3)), (100, (.iload 7, 2)), (102, (.iload_n 2, 1)), (103, (.iconst (-1), 1)), (104, (.ixor, 1)), (105, (.iand, 1)), (106, (.istore 10, 2)), (108, (.iload_n 3, 1)), (109, (.iload 10, 2)), (111, (.iand, 1)), (112, (.iload 4, 2)), (114, (.iload 10, 2)), (116, (.iconst (-1), 1)), (117, (.ixor, 1)), (118, (.iand, 1)), (119, (.ior, 1)), (120, (.istore 9, 2)), (122, (.iload 6, 2)), (124, (.ifCond .ne 9, 3)), (127, (.iload 9, 2)), (129, (.invokestatic 220, 3)), (132, (.ireturn, 1)), (133, (.iload 6, 2)), (135, (.iconst 1, 1)), (136, (.if_icmp .ne 20, 3)), (139, (.iconst 2, 1)), (140, (.iload 9, 2)), (142, (.invokestatic 220, 3)), (145, (.imul, 1)), (146, (.iload_n 1, 1)), (147, (.if_icmp .le 7, 3)), (150, (.iconst 1, 1)), (151, (.goto 4, 3)), (154, (.iconst 0, 1)), (155, (.ireturn, 1)), (156, (.iload_n 2, 1)), (157, (.iload 9, 2)), (159, (.ixor, 1)), (160, (.invokestatic 220, 3)), (163, (.ireturn, 1))]
theorem dm_X11_court : ∀ q ∈ tb_X11_court, decode zX11_court.2.1 q.1 = .ok q.2 := by decide +kernel
def f_X11_court_122 (n : Nat) (a1 a2 a6 a9 : Int32) (M : qM) : qR :=
  (if a6 = (0 : Int32) then qc (f_J6_bitCount_0f7a4 n a9 M) (fun r5 m6 => some (r5, m6)) else (if a6 = (1 : Int32) then qc (f_J6_bitCount_0f7a4 n a9 M) (fun r3 m4 => (if ((2 : Int32) * r3) ≤ a1 then some ((0 : Int32), m4) else some ((1 : Int32), m4))) else qc (f_J6_bitCount_0f7a4 n (a2 ^^^ a9) M) (fun r1 m2 => some (r1, m2))))
set_option maxRecDepth 4000 in
theorem w_X11_court_122 {g : qG} {k : qK} (n : Nat) (j r : Nat) (hj : q_isLaw j) (hr : q_isLaw r) (o : qOk g 1 zX11_court k) (a1 a2 a6 a9 : Int32) (M : qM) : qAE g k zX11_court (qL j r) 122 [none, some (.inl a1), some (.inl a2), none, none, none, some (.inl a6), none, none, some (.inl a9), none] [] (qL j r, M) (f_X11_court_122 n a1 a2 a6 a9 M) := by
  unfold f_X11_court_122
  refine qr_iload o (q_dm dm_X11_court 75 rfl) rfl ?_
  refine qr_if_ne (tgt := 133) o (q_dm dm_X11_court 76 rfl) (by decide) ?_ ?_
  · refine qr_iload o (q_dm dm_X11_court 80 rfl) rfl ?_
    refine qr_iconst o (q_dm dm_X11_court 81 rfl) ic_1 ?_
    refine qr_icmp_ne (tgt := 156) o (q_dm dm_X11_court 82 rfl) (by decide) ?_ ?_
    · refine qr_iload_n o (q_dm dm_X11_court 93 rfl) rfl ?_
      refine qr_iload o (q_dm dm_X11_court 94 rfl) rfl ?_
      refine qr_ixor o (q_dm dm_X11_court 95 rfl) ?_
      refine qr_calls_i (As := [.inl (a2 ^^^ a9)]) (S := []) o (a_J6_bitCount_0f7a4 g k.2.1 n j r hj hr (a2 ^^^ a9) M) (Nat.le_of_ble_eq_true rfl) zs_J6_bitCount_0f7a4 rfl ml_X11_220 (Nat.le_of_ble_eq_true rfl) (q_dm dm_X11_court 96 rfl) (fun r1 m2 => ?_)
      exact qr_iret o rfl rfl (q_dm dm_X11_court 97 rfl)
    · refine qr_iconst o (q_dm dm_X11_court 83 rfl) ic_2 ?_
      refine qr_iload o (q_dm dm_X11_court 84 rfl) rfl ?_
      refine qr_calls_i (As := [.inl a9]) (S := [.inl (2 : Int32)]) o (a_J6_bitCount_0f7a4 g k.2.1 n j r hj hr a9 M) (Nat.le_of_ble_eq_true rfl) zs_J6_bitCount_0f7a4 rfl ml_X11_220 (Nat.le_of_ble_eq_true rfl) (q_dm dm_X11_court 85 rfl) (fun r3 m4 => ?_)
      refine qr_imul o (q_dm dm_X11_court 86 rfl) ?_
      refine qr_iload_n o (q_dm dm_X11_court 87 rfl) rfl ?_
      refine qr_icmp_le (tgt := 154) o (q_dm dm_X11_court 88 rfl) (by decide) ?_ ?_
      · refine qr_iconst o (q_dm dm_X11_court 91 rfl) ic_0 ?_
        exact qr_iret o rfl rfl (q_dm dm_X11_court 92 rfl)
      · refine qr_iconst o (q_dm dm_X11_court 89 rfl) ic_1 ?_
        refine qr_goto (tgt := 155) o (q_dm dm_X11_court 90 rfl) (by decide) ?_
        exact qr_iret o rfl rfl (q_dm dm_X11_court 92 rfl)
  · refine qr_iload o (q_dm dm_X11_court 77 rfl) rfl ?_
    refine qr_calls_i (As := [.inl a9]) (S := []) o (a_J6_bitCount_0f7a4 g k.2.1 n j r hj hr a9 M) (Nat.le_of_ble_eq_true rfl) zs_J6_bitCount_0f7a4 rfl ml_X11_220 (Nat.le_of_ble_eq_true rfl) (q_dm dm_X11_court 78 rfl) (fun r5 m6 => ?_)
    exact qr_iret o rfl rfl (q_dm dm_X11_court 79 rfl)

def f_X11_court_106 (n : Nat) (a1 a2 a3 a4 a6 s0 : Int32) (M : qM) : qR :=
  ql ((a3 &&& s0) ||| (a4 &&& (s0 ^^^ (-1 : Int32)))) (fun x1 => f_X11_court_122 n a1 a2 a6 x1 M)
set_option maxRecDepth 4000 in
theorem w_X11_court_106 {g : qG} {k : qK} (n : Nat) (j r : Nat) (hj : q_isLaw j) (hr : q_isLaw r) (o : qOk g 1 zX11_court k) (a1 a2 a3 a4 a6 s0 : Int32) (M : qM) : qAE g k zX11_court (qL j r) 106 [none, some (.inl a1), some (.inl a2), some (.inl a3), some (.inl a4), none, some (.inl a6), none, none, none, none] [.inl s0] (qL j r, M) (f_X11_court_106 n a1 a2 a3 a4 a6 s0 M) := by
  unfold f_X11_court_106
  refine qs_istore (L' := [none, some (.inl a1), some (.inl a2), some (.inl a3), some (.inl a4), none, some (.inl a6), none, none, none, some (.inl s0)]) o (q_dm dm_X11_court 64 rfl) (Nat.le_of_ble_eq_true rfl) rfl ?_
  refine qr_iload_n o (q_dm dm_X11_court 65 rfl) rfl ?_
  refine qr_iload o (q_dm dm_X11_court 66 rfl) rfl ?_
  refine qr_iand o (q_dm dm_X11_court 67 rfl) ?_
  refine qr_iload o (q_dm dm_X11_court 68 rfl) rfl ?_
  refine qr_iload o (q_dm dm_X11_court 69 rfl) rfl ?_
  refine qr_iconst o (q_dm dm_X11_court 70 rfl) ic_m1 ?_
  refine qr_ixor o (q_dm dm_X11_court 71 rfl) ?_
  refine qr_iand o (q_dm dm_X11_court 72 rfl) ?_
  refine qr_ior o (q_dm dm_X11_court 73 rfl) ?_
  refine qr_lt (fun x1 => ?_)
  refine qs_istore (L' := [none, some (.inl a1), some (.inl a2), some (.inl a3), some (.inl a4), none, some (.inl a6), none, none, some (.inl x1), some (.inl s0)]) o (q_dm dm_X11_court 74 rfl) (Nat.le_of_ble_eq_true rfl) rfl ?_
  exact qr_loc (q_leN (q_leS (q_leS (q_leN (q_leN (q_leN (q_leS (q_leN (q_leN (q_leS (q_leN q_le0))))))))))) (w_X11_court_122 n j r hj hr o a1 a2 a6 x1 M)

def f_X11_court (n : Nat) (a1 a2 a3 a4 a5 a6 : Int32) (M : qM) : qR :=
  (if a1 < (1 : Int32) then some ((-1 : Int32), M) else (if (9 : Int32) < a1 then some ((-1 : Int32), M) else (if a5 < (0 : Int32) then some ((-1 : Int32), M) else (if a1 < a5 then some ((-1 : Int32), M) else (if a6 < (0 : Int32) then some ((-1 : Int32), M) else (if a6 ≤ (2 : Int32) then ql (((1 : Int32) <<< (a1 &&& 31)) - (1 : Int32)) (fun x1 => (if (a2 &&& (x1 ^^^ (-1 : Int32))) = (0 : Int32) then (if (a3 &&& (x1 ^^^ (-1 : Int32))) = (0 : Int32) then (if (a4 &&& (x1 ^^^ (-1 : Int32))) = (0 : Int32) then qc (f_J6_bitCount_0f7a4 n a2 M) (fun r2 m3 => (if r2 < a5 then f_X11_court_122 n a1 a2 a6 a2 m3 else (if ((2 : Int32) * r2) < a1 then f_X11_court_106 n a1 a2 a3 a4 a6 (x1 &&& (a2 ^^^ (-1 : Int32))) m3 else f_X11_court_106 n a1 a2 a3 a4 a6 a2 m3))) else some ((-1 : Int32), M)) else some ((-1 : Int32), M)) else some ((-1 : Int32), M))) else some ((-1 : Int32), M)))))))
set_option maxRecDepth 4000 in
theorem w_X11_court {g : qG} {k : qK} (n : Nat) (j r : Nat) (hj : q_isLaw j) (hr : q_isLaw r) (o : qOk g 1 zX11_court k) (a1 a2 a3 a4 a5 a6 : Int32) (M : qM) : qAE g k zX11_court (qL j r) 0 [some (.inr (some 0)), some (.inl a1), some (.inl a2), some (.inl a3), some (.inl a4), some (.inl a5), some (.inl a6), none, none, none, none] [] (qL j r, M) (f_X11_court n a1 a2 a3 a4 a5 a6 M) := by
  unfold f_X11_court
  refine qr_iload_n o (q_dm dm_X11_court 0 rfl) rfl ?_
  refine qr_iconst o (q_dm dm_X11_court 1 rfl) ic_1 ?_
  refine qr_icmp_lt (tgt := 33) o (q_dm dm_X11_court 2 rfl) (by decide) ?_ ?_
  · refine qr_iconst o (q_dm dm_X11_court 16 rfl) ic_m1 ?_
    exact qr_iret o rfl rfl (q_dm dm_X11_court 17 rfl)
  · refine qr_iload_n o (q_dm dm_X11_court 3 rfl) rfl ?_
    refine qr_bipush o (q_dm dm_X11_court 4 rfl) bi_9 ?_
    refine qr_icmp_gt (tgt := 33) o (q_dm dm_X11_court 5 rfl) (by decide) ?_ ?_
    · refine qr_iconst o (q_dm dm_X11_court 16 rfl) ic_m1 ?_
      exact qr_iret o rfl rfl (q_dm dm_X11_court 17 rfl)
    · refine qr_iload o (q_dm dm_X11_court 6 rfl) rfl ?_
      refine qr_if_lt (tgt := 33) o (q_dm dm_X11_court 7 rfl) (by decide) ?_ ?_
      · refine qr_iconst o (q_dm dm_X11_court 16 rfl) ic_m1 ?_
        exact qr_iret o rfl rfl (q_dm dm_X11_court 17 rfl)
      · refine qr_iload o (q_dm dm_X11_court 8 rfl) rfl ?_
        refine qr_iload_n o (q_dm dm_X11_court 9 rfl) rfl ?_
        refine qr_icmp_gt (tgt := 33) o (q_dm dm_X11_court 10 rfl) (by decide) ?_ ?_
        · refine qr_iconst o (q_dm dm_X11_court 16 rfl) ic_m1 ?_
          exact qr_iret o rfl rfl (q_dm dm_X11_court 17 rfl)
        · refine qr_iload o (q_dm dm_X11_court 11 rfl) rfl ?_
          refine qr_if_lt (tgt := 33) o (q_dm dm_X11_court 12 rfl) (by decide) ?_ ?_
          · refine qr_iconst o (q_dm dm_X11_court 16 rfl) ic_m1 ?_
            exact qr_iret o rfl rfl (q_dm dm_X11_court 17 rfl)
          · refine qr_iload o (q_dm dm_X11_court 13 rfl) rfl ?_
            refine qr_iconst o (q_dm dm_X11_court 14 rfl) ic_2 ?_
            refine qr_icmp_le (tgt := 35) o (q_dm dm_X11_court 15 rfl) (by decide) ?_ ?_
            · refine qr_iconst o (q_dm dm_X11_court 18 rfl) ic_1 ?_
              refine qr_iload_n o (q_dm dm_X11_court 19 rfl) rfl ?_
              refine qr_ishl o (q_dm dm_X11_court 20 rfl) ?_
              refine qr_iconst o (q_dm dm_X11_court 21 rfl) ic_1 ?_
              refine qr_isub o (q_dm dm_X11_court 22 rfl) ?_
              refine qr_lt (fun x1 => ?_)
              refine qs_istore (L' := [some (.inr (some 0)), some (.inl a1), some (.inl a2), some (.inl a3), some (.inl a4), some (.inl a5), some (.inl a6), some (.inl x1), none, none, none]) o (q_dm dm_X11_court 23 rfl) (Nat.le_of_ble_eq_true rfl) rfl ?_
              refine qr_iload_n o (q_dm dm_X11_court 24 rfl) rfl ?_
              refine qr_iload o (q_dm dm_X11_court 25 rfl) rfl ?_
              refine qr_iconst o (q_dm dm_X11_court 26 rfl) ic_m1 ?_
              refine qr_ixor o (q_dm dm_X11_court 27 rfl) ?_
              refine qr_iand o (q_dm dm_X11_court 28 rfl) ?_
              refine qr_if_ne (tgt := 70) o (q_dm dm_X11_court 29 rfl) (by decide) ?_ ?_
              · refine qr_iconst o (q_dm dm_X11_court 42 rfl) ic_m1 ?_
                exact qr_iret o rfl rfl (q_dm dm_X11_court 43 rfl)
              · refine qr_iload_n o (q_dm dm_X11_court 30 rfl) rfl ?_
                refine qr_iload o (q_dm dm_X11_court 31 rfl) rfl ?_
                refine qr_iconst o (q_dm dm_X11_court 32 rfl) ic_m1 ?_
                refine qr_ixor o (q_dm dm_X11_court 33 rfl) ?_
                refine qr_iand o (q_dm dm_X11_court 34 rfl) ?_
                refine qr_if_ne (tgt := 70) o (q_dm dm_X11_court 35 rfl) (by decide) ?_ ?_
                · refine qr_iconst o (q_dm dm_X11_court 42 rfl) ic_m1 ?_
                  exact qr_iret o rfl rfl (q_dm dm_X11_court 43 rfl)
                · refine qr_iload o (q_dm dm_X11_court 36 rfl) rfl ?_
                  refine qr_iload o (q_dm dm_X11_court 37 rfl) rfl ?_
                  refine qr_iconst o (q_dm dm_X11_court 38 rfl) ic_m1 ?_
                  refine qr_ixor o (q_dm dm_X11_court 39 rfl) ?_
                  refine qr_iand o (q_dm dm_X11_court 40 rfl) ?_
                  refine qr_if_eq (tgt := 72) o (q_dm dm_X11_court 41 rfl) (by decide) ?_ ?_
                  · refine qr_iload_n o (q_dm dm_X11_court 44 rfl) rfl ?_
                    refine qr_calls_i (As := [.inl a2]) (S := []) o (a_J6_bitCount_0f7a4 g k.2.1 n j r hj hr a2 M) (Nat.le_of_ble_eq_true rfl) zs_J6_bitCount_0f7a4 rfl ml_X11_220 (Nat.le_of_ble_eq_true rfl) (q_dm dm_X11_court 45 rfl) (fun r2 m3 => ?_)
                    refine qs_istore (L' := [some (.inr (some 0)), some (.inl a1), some (.inl a2), some (.inl a3), some (.inl a4), some (.inl a5), some (.inl a6), some (.inl x1), some (.inl r2), none, none]) o (q_dm dm_X11_court 46 rfl) (Nat.le_of_ble_eq_true rfl) rfl ?_
                    refine qr_iload_n o (q_dm dm_X11_court 47 rfl) rfl ?_
                    refine qs_istore (L' := [some (.inr (some 0)), some (.inl a1), some (.inl a2), some (.inl a3), some (.inl a4), some (.inl a5), some (.inl a6), some (.inl x1), some (.inl r2), some (.inl a2), none]) o (q_dm dm_X11_court 48 rfl) (Nat.le_of_ble_eq_true rfl) rfl ?_
                    refine qr_iload o (q_dm dm_X11_court 49 rfl) rfl ?_
                    refine qr_iload o (q_dm dm_X11_court 50 rfl) rfl ?_
                    refine qr_icmp_lt (tgt := 122) o (q_dm dm_X11_court 51 rfl) (by decide) ?_ ?_
                    · exact qr_loc (q_leN (q_leS (q_leS (q_leN (q_leN (q_leN (q_leS (q_leN (q_leN (q_leS (q_leN q_le0))))))))))) (w_X11_court_122 n j r hj hr o a1 a2 a6 a2 m3)
                    · refine qr_iconst o (q_dm dm_X11_court 52 rfl) ic_2 ?_
                      refine qr_iload o (q_dm dm_X11_court 53 rfl) rfl ?_
                      refine qr_imul o (q_dm dm_X11_court 54 rfl) ?_
                      refine qr_iload_n o (q_dm dm_X11_court 55 rfl) rfl ?_
                      refine qr_icmp_lt (tgt := 100) o (q_dm dm_X11_court 56 rfl) (by decide) ?_ ?_
                      · refine qr_iload o (q_dm dm_X11_court 59 rfl) rfl ?_
                        refine qr_iload_n o (q_dm dm_X11_court 60 rfl) rfl ?_
                        refine qr_iconst o (q_dm dm_X11_court 61 rfl) ic_m1 ?_
                        refine qr_ixor o (q_dm dm_X11_court 62 rfl) ?_
                        refine qr_iand o (q_dm dm_X11_court 63 rfl) ?_
                        exact qr_loc (q_leN (q_leS (q_leS (q_leS (q_leS (q_leN (q_leS (q_leN (q_leN (q_leN (q_leN q_le0))))))))))) (w_X11_court_106 n j r hj hr o a1 a2 a3 a4 a6 (x1 &&& (a2 ^^^ (-1 : Int32))) m3)
                      · refine qr_iload_n o (q_dm dm_X11_court 57 rfl) rfl ?_
                        refine qr_goto (tgt := 106) o (q_dm dm_X11_court 58 rfl) (by decide) ?_
                        exact qr_loc (q_leN (q_leS (q_leS (q_leS (q_leS (q_leN (q_leS (q_leN (q_leN (q_leN (q_leN q_le0))))))))))) (w_X11_court_106 n j r hj hr o a1 a2 a3 a4 a6 a2 m3)
                  · refine qr_iconst o (q_dm dm_X11_court 42 rfl) ic_m1 ?_
                    exact qr_iret o rfl rfl (q_dm dm_X11_court 43 rfl)
            · refine qr_iconst o (q_dm dm_X11_court 16 rfl) ic_m1 ?_
              exact qr_iret o rfl rfl (q_dm dm_X11_court 17 rfl)

theorem a_X11_court (g : qG) (l : Launch) (n : Nat) (j r : Nat) (hj : q_isLaw j) (hr : q_isLaw r) (a1 a2 a3 a4 a5 a6 : Int32) (M : qM) : qAM g l 1 zX11_court (qL j r) [.inr (some 0), .inl a1, .inl a2, .inl a3, .inl a4, .inl a5, .inl a6] (qL j r, M) (f_X11_court n a1 a2 a3 a4 a5 a6 M) :=
  qAM.of zv_X11_court.1 (by show 7 ≤ 11; decide) (fun k hk o => w_X11_court n j r hj hr o a1 a2 a3 a4 a5 a6 M)
def tb_X11_days : List (Nat × Instr × Nat) := [(0, (.iload_n 1, 1)), (1, (.iconst 1, 1)), (2, (.if_icmp .lt 9, 3)), (5, (.iload_n 1, 1)), (6, (.bipush 60, 2)), (8, (.if_icmp .le 5, 3)), (11, (.iconst (-1), 1)), (12, (.ireturn, 1)), (13, (.aload_n 0, 1)), (14, (.getfield 50, 3)), (17, (.aload_n 0, 1)), (18, (.getfield 26, 3)), (21, (.iload_n 1, 1)), (22, (.invokevirtual 152, 3)), (25, (.aload_n 0, 1)), (26, (.getfield 50, 3)), (29, (.getfield 156, 3)), (32, (.ireturn, 1))]
theorem dm_X11_days : ∀ q ∈ tb_X11_days, decode zX11_days.2.1 q.1 = .ok q.2 := by decide +kernel
def f_X11_days (n : Nat) (j : Nat) (a1 : Int32) (M : qM) : qR :=
  (if a1 < (1 : Int32) then some ((-1 : Int32), M) else (if a1 ≤ (60 : Int32) then qc (f_X0_goDays n 7 j a1 M) (fun _ m1 => some ((m1 44 5), m1)) else some ((-1 : Int32), M)))
set_option maxRecDepth 4000 in
theorem w_X11_days {g : qG} {k : qK} (n : Nat) (j r : Nat) (hj : q_isLaw j) (hr : q_isLaw r) (o : qOk g 7 zX11_days k) (a1 : Int32) (M : qM) : qAE g k zX11_days (qL j r) 0 [some (.inr (some 0)), some (.inl a1)] [] (qL j r, M) (f_X11_days n j a1 M) := by
  unfold f_X11_days
  refine qr_iload_n o (q_dm dm_X11_days 0 rfl) rfl ?_
  refine qr_iconst o (q_dm dm_X11_days 1 rfl) ic_1 ?_
  refine qr_icmp_lt (tgt := 11) o (q_dm dm_X11_days 2 rfl) (by decide) ?_ ?_
  · refine qr_iconst o (q_dm dm_X11_days 6 rfl) ic_m1 ?_
    exact qr_iret o rfl rfl (q_dm dm_X11_days 7 rfl)
  · refine qr_iload_n o (q_dm dm_X11_days 3 rfl) rfl ?_
    refine qr_bipush o (q_dm dm_X11_days 4 rfl) bi_60 ?_
    refine qr_icmp_le (tgt := 13) o (q_dm dm_X11_days 5 rfl) (by decide) ?_ ?_
    · refine qr_aload_n o (q_dm dm_X11_days 8 rfl) rfl ?_
      refine qr_getr (kf := 6) o cf_X11 (sh0 j r) rfl (Nat.le_of_ble_eq_true rfl) fl_X11_50 (q_dm dm_X11_days 9 rfl) ?_
      refine qr_aload_n o (q_dm dm_X11_days 10 rfl) rfl ?_
      refine qr_getr (kf := 2) o cf_X11 (sh0 j r) rfl (Nat.le_of_ble_eq_true rfl) fl_X11_26 (q_dm dm_X11_days 11 rfl) ?_
      refine qr_iload_n o (q_dm dm_X11_days 12 rfl) rfl ?_
      refine qr_callv_v (As := [.inr (some 7), .inl a1]) (S := []) o (a_X0_goDays g k.2.1 n j r hj hr (Or.inl rfl) a1 M) (Nat.le_of_ble_eq_true rfl) zv_X0_goDays rfl cf_X0 (sh44 j r) ml_X11_152 (Nat.le_of_ble_eq_true rfl) (q_dm dm_X11_days 13 rfl) (fun _ m1 => ?_)
      refine qr_aload_n o (q_dm dm_X11_days 14 rfl) rfl ?_
      refine qr_getr (kf := 6) o cf_X11 (sh0 j r) rfl (Nat.le_of_ble_eq_true rfl) fl_X11_50 (q_dm dm_X11_days 15 rfl) ?_
      refine qr_getf (kf := 5) o cf_X0 (sh44 j r) rfl (Nat.le_of_ble_eq_true rfl) fl_X11_156 (q_dm dm_X11_days 16 rfl) ?_
      exact qr_iret o rfl rfl (q_dm dm_X11_days 17 rfl)
    · refine qr_iconst o (q_dm dm_X11_days 6 rfl) ic_m1 ?_
      exact qr_iret o rfl rfl (q_dm dm_X11_days 7 rfl)

theorem a_X11_days (g : qG) (l : Launch) (n : Nat) (j r : Nat) (hj : q_isLaw j) (hr : q_isLaw r) (a1 : Int32) (M : qM) : qAM g l 7 zX11_days (qL j r) [.inr (some 0), .inl a1] (qL j r, M) (f_X11_days n j a1 M) :=
  qAM.of zv_X11_days.1 (by show 2 ≤ 2; decide) (fun k hk o => w_X11_days n j r hj hr o a1 M)
def tb_X9_put : List (Nat × Instr × Nat) := [(0, (.bipush 24, 2)), (2, (.istore_n 2, 1)), (3, (.iload_n 2, 1)), (4, (.ifCond .lt 45, 3)), (7, (.aload_n 0, 1)), (8, (.getfield 15, 3)), (11, (.sipush 260, 3)), (14, (.if_icmp .ge 35, 3)), (17, (.aload_n 0, 1)), (18, (.getfield 9, 3)), (21, (.aload_n 0, 1)), (22, (.getfield 15, 3)), (25, (.iload_n 1, 1)), (26, (.iload_n 2, 1)), (27, (.ishr, 1)), (28, (.sipush 255, 3)), (31, (.iand, 1)), (32, (.iastore, 1)), (33, (.aload_n 0, 1)), (34, (.dup, 1)), (35, (.getfield 15, 3)), (38, (.iconst 1, 1)), (39, (.iadd, 1)), (40, (.putfield 15, 3)), (43, (.iinc 2 (-8), 3)), (46, (.goto (-43), 3)), (49, (.return_, 1))]
theorem dm_X9_put : ∀ q ∈ tb_X9_put, decode zX9_put.2.1 q.1 = .ok q.2 := by decide +kernel
def b_X9_put_3 (n : Nat) (K3 : Int32 → Int32 → qM → qR) (a1 a2 : Int32) (M : qM) : qR :=
  (if a2 < (0 : Int32) then some (0, M) else (if (260 : Int32) ≤ (M 1 1) then some (0, M) else qg (M 1 1) 260 (qlm (mu M 2 (M 1 1).toNatClampNeg ((a1 >>> (a2 &&& 31)) &&& (255 : Int32))) (fun m1 => qlm (mu m1 1 1 ((m1 1 1) + (1 : Int32))) (fun m2 => ql (a2 + (-8 : Int32)) (fun x3 => K3 a1 x3 m2))))))
set_option maxRecDepth 4000 in
theorem wb_X9_put_3 {g : qG} {k : qK} (n : Nat) (j r : Nat) (hj : q_isLaw j) (hr : q_isLaw r) (o : qOk g 0 zX9_put k) (K3 : Int32 → Int32 → qM → qR) (hK3 : ∀ (a1 a2 : Int32) (M : qM), qAE g k zX9_put (qL j r) 3 [some (.inr (some 1)), some (.inl a1), some (.inl a2)] [] (qL j r, M) (K3 a1 a2 M)) (a1 a2 : Int32) (M : qM) : qAE g k zX9_put (qL j r) 3 [some (.inr (some 1)), some (.inl a1), some (.inl a2)] [] (qL j r, M) (b_X9_put_3 n K3 a1 a2 M) := by
  unfold b_X9_put_3
  refine qr_iload_n o (q_dm dm_X9_put 2 rfl) rfl ?_
  refine qr_if_lt (tgt := 49) o (q_dm dm_X9_put 3 rfl) (by decide) ?_ ?_
  · exact qr_vret o rfl (q_dm dm_X9_put 26 rfl)
  · refine qr_aload_n o (q_dm dm_X9_put 4 rfl) rfl ?_
    refine qr_getf (kf := 1) o cf_X9 (sh1 j r) rfl (Nat.le_of_ble_eq_true rfl) fl_X9_15 (q_dm dm_X9_put 5 rfl) ?_
    refine qr_sipush o (q_dm dm_X9_put 6 rfl) si_260 ?_
    refine qr_icmp_ge (tgt := 49) o (q_dm dm_X9_put 7 rfl) (by decide) ?_ ?_
    · exact qr_vret o rfl (q_dm dm_X9_put 26 rfl)
    · refine qr_aload_n o (q_dm dm_X9_put 8 rfl) rfl ?_
      refine qr_getr (kf := 0) o cf_X9 (sh1 j r) rfl (Nat.le_of_ble_eq_true rfl) fl_X9_9 (q_dm dm_X9_put 9 rfl) ?_
      refine qr_aload_n o (q_dm dm_X9_put 10 rfl) rfl ?_
      refine qr_getf (kf := 1) o cf_X9 (sh1 j r) rfl (Nat.le_of_ble_eq_true rfl) fl_X9_15 (q_dm dm_X9_put 11 rfl) ?_
      refine qr_iload_n o (q_dm dm_X9_put 12 rfl) rfl ?_
      refine qr_iload_n o (q_dm dm_X9_put 13 rfl) rfl ?_
      refine qr_ishr o (q_dm dm_X9_put 14 rfl) ?_
      refine qr_sipush o (q_dm dm_X9_put 15 rfl) si_255 ?_
      refine qr_iand o (q_dm dm_X9_put 16 rfl) ?_
      refine qr_iast o (sh2 j r) (q_dm dm_X9_put 17 rfl) ?_
      refine qr_letm (fun m1 => ?_)
      refine qr_aload_n o (q_dm dm_X9_put 18 rfl) rfl ?_
      refine qr_dup o (q_dm dm_X9_put 19 rfl) ?_
      refine qr_getf (kf := 1) o cf_X9 (sh1 j r) rfl (Nat.le_of_ble_eq_true rfl) fl_X9_15 (q_dm dm_X9_put 20 rfl) ?_
      refine qr_iconst o (q_dm dm_X9_put 21 rfl) ic_1 ?_
      refine qr_iadd o (q_dm dm_X9_put 22 rfl) ?_
      refine qr_putf (kf := 1) o cf_X9 (sh1 j r) rfl (Nat.le_of_ble_eq_true rfl) fl_X9_15 rfl (by decide +kernel) (q_dm dm_X9_put 23 rfl) ?_
      refine qr_letm (fun m2 => ?_)
      refine qs_iincl2 (L' := fun x3 => [some (.inr (some 1)), some (.inl a1), some (.inl x3)]) o (q_dm dm_X9_put 24 rfl) rfl ic_m8 (Nat.le_of_ble_eq_true rfl) (fun _ => rfl) (fun x3 => ?_)
      refine qr_goto (tgt := 3) o (q_dm dm_X9_put 25 rfl) (by decide) ?_
      exact qr_loc (q_leS (q_leS (q_leS q_le0))) (hK3 a1 x3 m2)

def f_X9_put_3 (n : Nat) : Nat → Int32 → Int32 → qM → qR
  | 0, _, _, _ => none
  | m + 1, a1, a2, M => b_X9_put_3 n (f_X9_put_3 n m) a1 a2 M
theorem w_X9_put_3 {g : qG} {k : qK} (n : Nat) (j r : Nat) (hj : q_isLaw j) (hr : q_isLaw r) (o : qOk g 0 zX9_put k) : ∀ (m : Nat) (a1 a2 : Int32) (M : qM), qAE g k zX9_put (qL j r) 3 [some (.inr (some 1)), some (.inl a1), some (.inl a2)] [] (qL j r, M) (f_X9_put_3 n m a1 a2 M) := by
  intro m
  induction m with
  | zero =>
    intro a1 a2 M
    exact qr_none
  | succ m ih =>
    intro a1 a2 M
    exact wb_X9_put_3 n j r hj hr o (f_X9_put_3 n m) ih a1 a2 M
def f_X9_put (n : Nat) (a1 : Int32) (M : qM) : qR :=
  f_X9_put_3 n n a1 (24 : Int32) M
set_option maxRecDepth 4000 in
theorem w_X9_put {g : qG} {k : qK} (n : Nat) (j r : Nat) (hj : q_isLaw j) (hr : q_isLaw r) (o : qOk g 0 zX9_put k) (a1 : Int32) (M : qM) : qAE g k zX9_put (qL j r) 0 [some (.inr (some 1)), some (.inl a1), none] [] (qL j r, M) (f_X9_put n a1 M) := by
  unfold f_X9_put
  refine qr_bipush o (q_dm dm_X9_put 0 rfl) bi_24 ?_
  refine qs_istore_n (L' := [some (.inr (some 1)), some (.inl a1), some (.inl (24 : Int32))]) o (q_dm dm_X9_put 1 rfl) (Nat.le_of_ble_eq_true rfl) rfl ?_
  exact qr_loc (q_leS (q_leS (q_leS q_le0))) (w_X9_put_3 n j r hj hr o n a1 (24 : Int32) M)

theorem a_X9_put (g : qG) (l : Launch) (n : Nat) (j r : Nat) (hj : q_isLaw j) (hr : q_isLaw r) (a1 : Int32) (M : qM) : qAM g l 0 zX9_put (qL j r) [.inr (some 1), .inl a1] (qL j r, M) (f_X9_put n a1 M) :=
  qAM.of zv_X9_put.1 (by show 2 ≤ 3; decide) (fun k hk o => w_X9_put n j r hj hr o a1 M)
def tb_X11_feed : List (Nat × Instr × Nat) := [(0, (.aload_n 0, 1)), (1, (.getfield 10, 3)), (4, (.getfield 112, 3)), (7, (.bipush 20, 2)), (9, (.iadd, 1)), (10, (.sipush 260, 3)), (13, (.if_icmp .le 5, 3)), (16, (.iconst (-1), 1)), (17, (.ireturn, 1)), (18, (.aload_n 0, 1)), (19, (.getfield 10, 3)), (22, (.iload_n 1, 1)), (23, (.invokevirtual 115, 3)), (26, (.aload_n 0, 1)), (27, (.getfield 10, 3)), (30, (.iload_n 2, 1)), (31, (.invokevirtual 115, 3)), (34, (.aload_n 0, 1)), (35, (.getfield 10, 3)), (38, (.iload_n 3, 1)), (39, (.invokevirtual 115, 3)), (42, (.aload_n 0, 1)), (43, (.getfield 10, 3)), (46, (.iload 4, 2)), (48, (.invokevirtual 115, 3)), (51, (.aload_n 0, 1)), (52, (.getfield 10, 3)), (55, (.iload 5, 2)), (57, (.invokevirtual 115, 3)), (60, (.aload_n 0, 1)), (61, (.getfield 10, 3)), (64, (.getfield 112, 3)), (67, (.ireturn, 1))]
theorem dm_X11_feed : ∀ q ∈ tb_X11_feed, decode zX11_feed.2.1 q.1 = .ok q.2 := by decide +kernel
def f_X11_feed (n : Nat) (a1 a2 a3 a4 a5 : Int32) (M : qM) : qR :=
  (if ((M 1 1) + (20 : Int32)) ≤ (260 : Int32) then qc (f_X9_put n a1 M) (fun _ m1 => qc (f_X9_put n a2 m1) (fun _ m2 => qc (f_X9_put n a3 m2) (fun _ m3 => qc (f_X9_put n a4 m3) (fun _ m4 => qc (f_X9_put n a5 m4) (fun _ m5 => some ((m5 1 1), m5)))))) else some ((-1 : Int32), M))
set_option maxRecDepth 4000 in
theorem w_X11_feed {g : qG} {k : qK} (n : Nat) (j r : Nat) (hj : q_isLaw j) (hr : q_isLaw r) (o : qOk g 1 zX11_feed k) (a1 a2 a3 a4 a5 : Int32) (M : qM) : qAE g k zX11_feed (qL j r) 0 [some (.inr (some 0)), some (.inl a1), some (.inl a2), some (.inl a3), some (.inl a4), some (.inl a5)] [] (qL j r, M) (f_X11_feed n a1 a2 a3 a4 a5 M) := by
  unfold f_X11_feed
  refine qr_aload_n o (q_dm dm_X11_feed 0 rfl) rfl ?_
  refine qr_getr (kf := 0) o cf_X11 (sh0 j r) rfl (Nat.le_of_ble_eq_true rfl) fl_X11_10 (q_dm dm_X11_feed 1 rfl) ?_
  refine qr_getf (kf := 1) o cf_X9 (sh1 j r) rfl (Nat.le_of_ble_eq_true rfl) fl_X11_112 (q_dm dm_X11_feed 2 rfl) ?_
  refine qr_bipush o (q_dm dm_X11_feed 3 rfl) bi_20 ?_
  refine qr_iadd o (q_dm dm_X11_feed 4 rfl) ?_
  refine qr_sipush o (q_dm dm_X11_feed 5 rfl) si_260 ?_
  refine qr_icmp_le (tgt := 18) o (q_dm dm_X11_feed 6 rfl) (by decide) ?_ ?_
  · refine qr_aload_n o (q_dm dm_X11_feed 9 rfl) rfl ?_
    refine qr_getr (kf := 0) o cf_X11 (sh0 j r) rfl (Nat.le_of_ble_eq_true rfl) fl_X11_10 (q_dm dm_X11_feed 10 rfl) ?_
    refine qr_iload_n o (q_dm dm_X11_feed 11 rfl) rfl ?_
    refine qr_callv_v (As := [.inl a1]) (S := []) o (a_X9_put g k.2.1 n j r hj hr a1 M) (Nat.le_of_ble_eq_true rfl) zv_X9_put rfl cf_X9 (sh1 j r) ml_X11_115 (Nat.le_of_ble_eq_true rfl) (q_dm dm_X11_feed 12 rfl) (fun _ m1 => ?_)
    refine qr_aload_n o (q_dm dm_X11_feed 13 rfl) rfl ?_
    refine qr_getr (kf := 0) o cf_X11 (sh0 j r) rfl (Nat.le_of_ble_eq_true rfl) fl_X11_10 (q_dm dm_X11_feed 14 rfl) ?_
    refine qr_iload_n o (q_dm dm_X11_feed 15 rfl) rfl ?_
    refine qr_callv_v (As := [.inl a2]) (S := []) o (a_X9_put g k.2.1 n j r hj hr a2 m1) (Nat.le_of_ble_eq_true rfl) zv_X9_put rfl cf_X9 (sh1 j r) ml_X11_115 (Nat.le_of_ble_eq_true rfl) (q_dm dm_X11_feed 16 rfl) (fun _ m2 => ?_)
    refine qr_aload_n o (q_dm dm_X11_feed 17 rfl) rfl ?_
    refine qr_getr (kf := 0) o cf_X11 (sh0 j r) rfl (Nat.le_of_ble_eq_true rfl) fl_X11_10 (q_dm dm_X11_feed 18 rfl) ?_
    refine qr_iload_n o (q_dm dm_X11_feed 19 rfl) rfl ?_
    refine qr_callv_v (As := [.inl a3]) (S := []) o (a_X9_put g k.2.1 n j r hj hr a3 m2) (Nat.le_of_ble_eq_true rfl) zv_X9_put rfl cf_X9 (sh1 j r) ml_X11_115 (Nat.le_of_ble_eq_true rfl) (q_dm dm_X11_feed 20 rfl) (fun _ m3 => ?_)
    refine qr_aload_n o (q_dm dm_X11_feed 21 rfl) rfl ?_
    refine qr_getr (kf := 0) o cf_X11 (sh0 j r) rfl (Nat.le_of_ble_eq_true rfl) fl_X11_10 (q_dm dm_X11_feed 22 rfl) ?_
    refine qr_iload o (q_dm dm_X11_feed 23 rfl) rfl ?_
    refine qr_callv_v (As := [.inl a4]) (S := []) o (a_X9_put g k.2.1 n j r hj hr a4 m3) (Nat.le_of_ble_eq_true rfl) zv_X9_put rfl cf_X9 (sh1 j r) ml_X11_115 (Nat.le_of_ble_eq_true rfl) (q_dm dm_X11_feed 24 rfl) (fun _ m4 => ?_)
    refine qr_aload_n o (q_dm dm_X11_feed 25 rfl) rfl ?_
    refine qr_getr (kf := 0) o cf_X11 (sh0 j r) rfl (Nat.le_of_ble_eq_true rfl) fl_X11_10 (q_dm dm_X11_feed 26 rfl) ?_
    refine qr_iload o (q_dm dm_X11_feed 27 rfl) rfl ?_
    refine qr_callv_v (As := [.inl a5]) (S := []) o (a_X9_put g k.2.1 n j r hj hr a5 m4) (Nat.le_of_ble_eq_true rfl) zv_X9_put rfl cf_X9 (sh1 j r) ml_X11_115 (Nat.le_of_ble_eq_true rfl) (q_dm dm_X11_feed 28 rfl) (fun _ m5 => ?_)
    refine qr_aload_n o (q_dm dm_X11_feed 29 rfl) rfl ?_
    refine qr_getr (kf := 0) o cf_X11 (sh0 j r) rfl (Nat.le_of_ble_eq_true rfl) fl_X11_10 (q_dm dm_X11_feed 30 rfl) ?_
    refine qr_getf (kf := 1) o cf_X9 (sh1 j r) rfl (Nat.le_of_ble_eq_true rfl) fl_X11_112 (q_dm dm_X11_feed 31 rfl) ?_
    exact qr_iret o rfl rfl (q_dm dm_X11_feed 32 rfl)
  · refine qr_iconst o (q_dm dm_X11_feed 7 rfl) ic_m1 ?_
    exact qr_iret o rfl rfl (q_dm dm_X11_feed 8 rfl)

theorem a_X11_feed (g : qG) (l : Launch) (n : Nat) (j r : Nat) (hj : q_isLaw j) (hr : q_isLaw r) (a1 a2 a3 a4 a5 : Int32) (M : qM) : qAM g l 1 zX11_feed (qL j r) [.inr (some 0), .inl a1, .inl a2, .inl a3, .inl a4, .inl a5] (qL j r, M) (f_X11_feed n a1 a2 a3 a4 a5 M) :=
  qAM.of zv_X11_feed.1 (by show 6 ≤ 6; decide) (fun k hk o => w_X11_feed n j r hj hr o a1 a2 a3 a4 a5 M)
def tb_X11_isHeap : List (Nat × Instr × Nat) := [(0, (.iload_n 0, 1)), (1, (.ifCond .lt 13, 3)), (4, (.iload_n 0, 1)), (5, (.bipush 7, 2)), (7, (.if_icmp .gt 7, 3)), (10, (.iconst 1, 1)), (11, (.goto 4, 3)), (14, (.iconst 0, 1)), (15, (.ireturn, 1))]
theorem dm_X11_isHeap : ∀ q ∈ tb_X11_isHeap, decode zX11_isHeap.2.1 q.1 = .ok q.2 := by decide +kernel
def f_X11_isHeap (n : Nat) (a0 : Int32) (M : qM) : qR :=
  (if a0 < (0 : Int32) then some ((0 : Int32), M) else (if (7 : Int32) < a0 then some ((0 : Int32), M) else some ((1 : Int32), M)))
set_option maxRecDepth 4000 in
theorem w_X11_isHeap {g : qG} {k : qK} (n : Nat) (j r : Nat) (hj : q_isLaw j) (hr : q_isLaw r) (o : qOk g 0 zX11_isHeap k) (a0 : Int32) (M : qM) : qAE g k zX11_isHeap (qL j r) 0 [some (.inl a0)] [] (qL j r, M) (f_X11_isHeap n a0 M) := by
  unfold f_X11_isHeap
  refine qr_iload_n o (q_dm dm_X11_isHeap 0 rfl) rfl ?_
  refine qr_if_lt (tgt := 14) o (q_dm dm_X11_isHeap 1 rfl) (by decide) ?_ ?_
  · refine qr_iconst o (q_dm dm_X11_isHeap 7 rfl) ic_0 ?_
    exact qr_iret o rfl (by decide) (q_dm dm_X11_isHeap 8 rfl)
  · refine qr_iload_n o (q_dm dm_X11_isHeap 2 rfl) rfl ?_
    refine qr_bipush o (q_dm dm_X11_isHeap 3 rfl) bi_7 ?_
    refine qr_icmp_gt (tgt := 14) o (q_dm dm_X11_isHeap 4 rfl) (by decide) ?_ ?_
    · refine qr_iconst o (q_dm dm_X11_isHeap 7 rfl) ic_0 ?_
      exact qr_iret o rfl (by decide) (q_dm dm_X11_isHeap 8 rfl)
    · refine qr_iconst o (q_dm dm_X11_isHeap 5 rfl) ic_1 ?_
      refine qr_goto (tgt := 15) o (q_dm dm_X11_isHeap 6 rfl) (by decide) ?_
      exact qr_iret o rfl (by decide) (q_dm dm_X11_isHeap 8 rfl)

theorem a_X11_isHeap (g : qG) (l : Launch) (n : Nat) (j r : Nat) (hj : q_isLaw j) (hr : q_isLaw r) (a0 : Int32) (M : qM) : qAM g l 0 zX11_isHeap (qL j r) [.inl a0] (qL j r, M) (f_X11_isHeap n a0 M) :=
  qAM.of zs_X11_isHeap.1 (by show 1 ≤ 1; decide) (fun k hk o => w_X11_isHeap n j r hj hr o a0 M)
def tb_X11_game : List (Nat × Instr × Nat) := [(0, (.iload_n 1, 1)), (1, (.invokestatic 259, 3)), (4, (.ifCond .eq 28, 3)), (7, (.iload_n 2, 1)), (8, (.invokestatic 259, 3)), (11, (.ifCond .eq 21, 3)), (14, (.iload_n 3, 1)), (15, (.invokestatic 259, 3)), (18, (.ifCond .eq 14, 3)), (21, (.iload 6, 2)), (23, (.ifCond .lt 9, 3)), (26, (.iload 6, 2)), (28, (.iconst 1, 1)), (29, (.if_icmp .le 5, 3)), (32, (.iconst (-1), 1)), (33, (.ireturn, 1)), (34, (.iload_n 1, 1)), (35, (.iload_n 2, 1)), (36, (.iconst 3, 1)), (37, (.ishl, 1)), (38, (.ior, 1)), (39, (.iload_n 3, 1)), (40, (.bipush 6, 2)), (42, (.ishl, 1)), (43, (.ior, 1)), (44, (.iload 4, 2)), (46, (.iload 5, 2)), (48, (.invokestatic 262, 3)), (51, (.istore 7, 2)), (53, (.iload 6, 2)), (55, (.iconst 1, 1)), (56, (.if_icmp .ne 6, 3)), (59, (.iload 7, 2)), (61, (.ireturn, 1)), (62, (.iload 7, 2)), (64, (.bipush (-2), 2)), (66, (.if_icmp .ne 7, 3)), (69, (.iconst 0, 1)), (70, (.goto 4, 3)), (73, (.iconst 1, 1)), (74, (.ireturn, 1))]
theorem dm_X11_game : ∀ q ∈ tb_X11_game, decode zX11_game.2.1 q.1 = .ok q.2 := by decide +kernel
def f_X11_game (n : Nat) (a1 a2 a3 a4 a5 a6 : Int32) (M : qM) : qR :=
  qc (f_X11_isHeap n a1 M) (fun r1 m2 => (if r1 = (0 : Int32) then some ((-1 : Int32), m2) else qc (f_X11_isHeap n a2 m2) (fun r3 m4 => (if r3 = (0 : Int32) then some ((-1 : Int32), m4) else qc (f_X11_isHeap n a3 m4) (fun r5 m6 => (if r5 = (0 : Int32) then some ((-1 : Int32), m6) else (if a6 < (0 : Int32) then some ((-1 : Int32), m6) else (if a6 ≤ (1 : Int32) then qc (f_X11_bestMove n ((a1 ||| (a2 <<< ((3 : Int32) &&& 31))) ||| (a3 <<< ((6 : Int32) &&& 31))) a4 a5 m6) (fun r7 m8 => (if a6 = (1 : Int32) then some (r7, m8) else (if r7 = (-2 : Int32) then some ((0 : Int32), m8) else some ((1 : Int32), m8)))) else some ((-1 : Int32), m6)))))))))
set_option maxRecDepth 4000 in
theorem w_X11_game {g : qG} {k : qK} (n : Nat) (j r : Nat) (hj : q_isLaw j) (hr : q_isLaw r) (o : qOk g 2 zX11_game k) (a1 a2 a3 a4 a5 a6 : Int32) (M : qM) : qAE g k zX11_game (qL j r) 0 [some (.inr (some 0)), some (.inl a1), some (.inl a2), some (.inl a3), some (.inl a4), some (.inl a5), some (.inl a6), none] [] (qL j r, M) (f_X11_game n a1 a2 a3 a4 a5 a6 M) := by
  unfold f_X11_game
  refine qr_iload_n o (q_dm dm_X11_game 0 rfl) rfl ?_
  refine qr_calls_i (As := [.inl a1]) (S := []) o (a_X11_isHeap g k.2.1 n j r hj hr a1 M) (Nat.le_of_ble_eq_true rfl) zs_X11_isHeap rfl ml_X11_259 (Nat.le_of_ble_eq_true rfl) (q_dm dm_X11_game 1 rfl) (fun r1 m2 => ?_)
  refine qr_if_eq (tgt := 32) o (q_dm dm_X11_game 2 rfl) (by decide) ?_ ?_
  · refine qr_iconst o (q_dm dm_X11_game 14 rfl) ic_m1 ?_
    exact qr_iret o rfl rfl (q_dm dm_X11_game 15 rfl)
  · refine qr_iload_n o (q_dm dm_X11_game 3 rfl) rfl ?_
    refine qr_calls_i (As := [.inl a2]) (S := []) o (a_X11_isHeap g k.2.1 n j r hj hr a2 m2) (Nat.le_of_ble_eq_true rfl) zs_X11_isHeap rfl ml_X11_259 (Nat.le_of_ble_eq_true rfl) (q_dm dm_X11_game 4 rfl) (fun r3 m4 => ?_)
    refine qr_if_eq (tgt := 32) o (q_dm dm_X11_game 5 rfl) (by decide) ?_ ?_
    · refine qr_iconst o (q_dm dm_X11_game 14 rfl) ic_m1 ?_
      exact qr_iret o rfl rfl (q_dm dm_X11_game 15 rfl)
    · refine qr_iload_n o (q_dm dm_X11_game 6 rfl) rfl ?_
      refine qr_calls_i (As := [.inl a3]) (S := []) o (a_X11_isHeap g k.2.1 n j r hj hr a3 m4) (Nat.le_of_ble_eq_true rfl) zs_X11_isHeap rfl ml_X11_259 (Nat.le_of_ble_eq_true rfl) (q_dm dm_X11_game 7 rfl) (fun r5 m6 => ?_)
      refine qr_if_eq (tgt := 32) o (q_dm dm_X11_game 8 rfl) (by decide) ?_ ?_
      · refine qr_iconst o (q_dm dm_X11_game 14 rfl) ic_m1 ?_
        exact qr_iret o rfl rfl (q_dm dm_X11_game 15 rfl)
      · refine qr_iload o (q_dm dm_X11_game 9 rfl) rfl ?_
        refine qr_if_lt (tgt := 32) o (q_dm dm_X11_game 10 rfl) (by decide) ?_ ?_
        · refine qr_iconst o (q_dm dm_X11_game 14 rfl) ic_m1 ?_
          exact qr_iret o rfl rfl (q_dm dm_X11_game 15 rfl)
        · refine qr_iload o (q_dm dm_X11_game 11 rfl) rfl ?_
          refine qr_iconst o (q_dm dm_X11_game 12 rfl) ic_1 ?_
          refine qr_icmp_le (tgt := 34) o (q_dm dm_X11_game 13 rfl) (by decide) ?_ ?_
          · refine qr_iload_n o (q_dm dm_X11_game 16 rfl) rfl ?_
            refine qr_iload_n o (q_dm dm_X11_game 17 rfl) rfl ?_
            refine qr_iconst o (q_dm dm_X11_game 18 rfl) ic_3 ?_
            refine qr_ishl o (q_dm dm_X11_game 19 rfl) ?_
            refine qr_ior o (q_dm dm_X11_game 20 rfl) ?_
            refine qr_iload_n o (q_dm dm_X11_game 21 rfl) rfl ?_
            refine qr_bipush o (q_dm dm_X11_game 22 rfl) bi_6 ?_
            refine qr_ishl o (q_dm dm_X11_game 23 rfl) ?_
            refine qr_ior o (q_dm dm_X11_game 24 rfl) ?_
            refine qr_iload o (q_dm dm_X11_game 25 rfl) rfl ?_
            refine qr_iload o (q_dm dm_X11_game 26 rfl) rfl ?_
            refine qr_calls_i (As := [.inl ((a1 ||| (a2 <<< ((3 : Int32) &&& 31))) ||| (a3 <<< ((6 : Int32) &&& 31))), .inl a4, .inl a5]) (S := []) o (a_X11_bestMove g k.2.1 n j r hj hr ((a1 ||| (a2 <<< ((3 : Int32) &&& 31))) ||| (a3 <<< ((6 : Int32) &&& 31))) a4 a5 m6) (Nat.le_of_ble_eq_true rfl) zs_X11_bestMove rfl ml_X11_262 (Nat.le_of_ble_eq_true rfl) (q_dm dm_X11_game 27 rfl) (fun r7 m8 => ?_)
            refine qs_istore (L' := [some (.inr (some 0)), some (.inl a1), some (.inl a2), some (.inl a3), some (.inl a4), some (.inl a5), some (.inl a6), some (.inl r7)]) o (q_dm dm_X11_game 28 rfl) (Nat.le_of_ble_eq_true rfl) rfl ?_
            refine qr_iload o (q_dm dm_X11_game 29 rfl) rfl ?_
            refine qr_iconst o (q_dm dm_X11_game 30 rfl) ic_1 ?_
            refine qr_icmp_ne (tgt := 62) o (q_dm dm_X11_game 31 rfl) (by decide) ?_ ?_
            · refine qr_iload o (q_dm dm_X11_game 34 rfl) rfl ?_
              refine qr_bipush o (q_dm dm_X11_game 35 rfl) bi_m2 ?_
              refine qr_icmp_ne (tgt := 73) o (q_dm dm_X11_game 36 rfl) (by decide) ?_ ?_
              · refine qr_iconst o (q_dm dm_X11_game 39 rfl) ic_1 ?_
                exact qr_iret o rfl rfl (q_dm dm_X11_game 40 rfl)
              · refine qr_iconst o (q_dm dm_X11_game 37 rfl) ic_0 ?_
                refine qr_goto (tgt := 74) o (q_dm dm_X11_game 38 rfl) (by decide) ?_
                exact qr_iret o rfl rfl (q_dm dm_X11_game 40 rfl)
            · refine qr_iload o (q_dm dm_X11_game 32 rfl) rfl ?_
              exact qr_iret o rfl rfl (q_dm dm_X11_game 33 rfl)
          · refine qr_iconst o (q_dm dm_X11_game 14 rfl) ic_m1 ?_
            exact qr_iret o rfl rfl (q_dm dm_X11_game 15 rfl)

theorem a_X11_game (g : qG) (l : Launch) (n : Nat) (j r : Nat) (hj : q_isLaw j) (hr : q_isLaw r) (a1 a2 a3 a4 a5 a6 : Int32) (M : qM) : qAM g l 2 zX11_game (qL j r) [.inr (some 0), .inl a1, .inl a2, .inl a3, .inl a4, .inl a5, .inl a6] (qL j r, M) (f_X11_game n a1 a2 a3 a4 a5 a6 M) :=
  qAM.of zv_X11_game.1 (by show 7 ≤ 8; decide) (fun k hk o => w_X11_game n j r hj hr o a1 a2 a3 a4 a5 a6 M)
def tb_X11_has : List (Nat × Instr × Nat) := [(0, (.aload_n 0, 1)), (1, (.getfield 26, 3)), (4, (.iload_n 1, 1)), (5, (.invokevirtual 131, 3)), (8, (.ifCond .eq 23, 3)), (11, (.aload_n 0, 1)), (12, (.getfield 19, 3)), (15, (.iload_n 2, 1)), (16, (.invokevirtual 140, 3)), (19, (.ifCond .eq 12, 3)), (22, (.iload_n 3, 1)), (23, (.ifCond .lt 8, 3)), (26, (.iload_n 3, 1)), (27, (.iconst 5, 1)), (28, (.if_icmp .le 5, 3)), (31, (.iconst (-1), 1)), (32, (.ireturn, 1)), (33, (.iload_n 1, 1)), (34, (.bipush 12, 2)), (36, (.imul, 1)), (37, (.iload_n 2, 1)), (38, (.iadd, 1)), (39, (.istore 4, 2)), (41, (.iload_n 3, 1)), (42, (.ifCond .ne 14, 3)), (45, (.aload_n 0, 1)), (46, (.getfield 26, 3)), (49, (.getfield 169, 3)), (52, (.iload 4, 2)), (54, (.iaload, 1)), (55, (.ireturn, 1)), (56, (.iload_n 3, 1)), (57, (.iconst 1, 1)), (58, (.if_icmp .ne 14, 3)), (61, (.aload_n 0, 1)), (62, (.getfield 26, 3)), (65, (.getfield 172, 3)), (68, (.iload 4, 2)), (70, (.iaload, 1)), (71, (.ireturn, 1)), (72, (.iload_n 3, 1)), (73, (.iconst 2, 1)), (74, (.if_icmp .ne 32, 3)), (77, (.aload_n 0, 1)), (78, (.getfield 26, 3)), (81, (.getfield 169, 3)), (84, (.iload 4, 2)), (86, (.iaload, 1)), (87, (.ifCond .le 16, 3)), (90, (.aload_n 0, 1)), (91, (.getfield 26, 3)), (94, (.getfield 175, 3)), (97, (.iload 4, 2)), (99, (.iaload, 1)), (100, (.goto 5, 3)), (103, (.bipush (-2), 2)), (105, (.ireturn, 1)), (106, (.aload_n 0, 1)), (107, (.getfield 33, 3)), (110, (.aload_n 0, 1)), (111, (.getfield 26, 3)), (114, (.invokevirtual 159, 3)), (117, (.aload_n 0, 1)), (118, (.getfield 50, 3)), (121, (.aload_n 0, 1)), (122, (.getfield 33, 3)), (125, (.iload_n 1, 1)), (126, (.iload_n 2, 1)), (127, (.bipush 8, 2)), (129, (.invokevirtual 141, 3)), (132, (.istore 5, 2)), (134, (.iload_n 3, 1)), (135, (.iconst 3, 1)), (136, (.if_icmp .ne 11, 3)), (139, (.aload_n 0, 1)), (140, (.getfield 50, 3)), (143, (.getfield 178, 3)), (146, (.ireturn, 1)), (147, (.iload_n 3, 1)), (148, (.iconst 4, 1)), (149, (.if_icmp .ne 11, 3)), (152, (.aload_n 0, 1)), (153, (.getfield 50, 3)), (156, (.getfield 181, 3)), (159, (.ireturn, 1)), (160, (.iload 5, 2)), (162, (.iconst 1, 1)), (163, (.if_icmp .ne 7, 3)), (166, (.iconst 1, 1)), (167, (.goto 4, 3)), (170, (.iconst 0, 1)), (171, (.ireturn, 1))]
theorem dm_X11_has : ∀ q ∈ tb_X11_has, decode zX11_has.2.1 q.1 = .ok q.2 := by decide +kernel
def f_X11_has (n : Nat) (j : Nat) (a1 a2 a3 : Int32) (M : qM) : qR :=
  qc (f_X10_knows n 7 a1 M) (fun r1 m2 => (if r1 = (0 : Int32) then some ((-1 : Int32), m2) else qc (f_X2_knows n a2 m2) (fun r3 m4 => (if r3 = (0 : Int32) then some ((-1 : Int32), m4) else (if a3 < (0 : Int32) then some ((-1 : Int32), m4) else (if a3 ≤ (5 : Int32) then ql ((a1 * (12 : Int32)) + a2) (fun x5 => (if a3 = (0 : Int32) then qg x5 96 (some ((m4 9 x5.toNatClampNeg), m4)) else (if a3 = (1 : Int32) then qg x5 96 (some ((m4 11 x5.toNatClampNeg), m4)) else (if a3 = (2 : Int32) then qg x5 96 ((if (m4 9 x5.toNatClampNeg) ≤ (0 : Int32) then some ((-2 : Int32), m4) else qg x5 96 (some ((m4 10 x5.toNatClampNeg), m4)))) else qc (f_X10_copy n 25 7 m4) (fun _ m6 => qc (f_X0_attempt n 25 j a1 a2 (8 : Int32) m6) (fun r7 m8 => (if a3 = (3 : Int32) then some ((m8 44 2), m8) else (if a3 = (4 : Int32) then some ((m8 44 3), m8) else (if r7 = (1 : Int32) then some ((1 : Int32), m8) else some ((0 : Int32), m8)))))))))) else some ((-1 : Int32), m4)))))))
set_option maxRecDepth 4000 in
theorem w_X11_has {g : qG} {k : qK} (n : Nat) (j r : Nat) (hj : q_isLaw j) (hr : q_isLaw r) (o : qOk g 5 zX11_has k) (a1 a2 a3 : Int32) (M : qM) : qAE g k zX11_has (qL j r) 0 [some (.inr (some 0)), some (.inl a1), some (.inl a2), some (.inl a3), none, none] [] (qL j r, M) (f_X11_has n j a1 a2 a3 M) := by
  unfold f_X11_has
  refine qr_aload_n o (q_dm dm_X11_has 0 rfl) rfl ?_
  refine qr_getr (kf := 2) o cf_X11 (sh0 j r) rfl (Nat.le_of_ble_eq_true rfl) fl_X11_26 (q_dm dm_X11_has 1 rfl) ?_
  refine qr_iload_n o (q_dm dm_X11_has 2 rfl) rfl ?_
  refine qr_callv_i (As := [.inl a1]) (S := []) o (a_X10_knows g k.2.1 n j r hj hr (Or.inl rfl) a1 M) (Nat.le_of_ble_eq_true rfl) zv_X10_knows rfl cf_X10 (sh7 j r) ml_X11_131 (Nat.le_of_ble_eq_true rfl) (q_dm dm_X11_has 3 rfl) (fun r1 m2 => ?_)
  refine qr_if_eq (tgt := 31) o (q_dm dm_X11_has 4 rfl) (by decide) ?_ ?_
  · refine qr_iconst o (q_dm dm_X11_has 15 rfl) ic_m1 ?_
    exact qr_iret o rfl rfl (q_dm dm_X11_has 16 rfl)
  · refine qr_aload_n o (q_dm dm_X11_has 5 rfl) rfl ?_
    refine qr_getr (kf := 1) o cf_X11 (sh0 j r) rfl (Nat.le_of_ble_eq_true rfl) fl_X11_19 (q_dm dm_X11_has 6 rfl) ?_
    refine qr_iload_n o (q_dm dm_X11_has 7 rfl) rfl ?_
    refine qr_callv_i (As := [.inl a2]) (S := []) o (a_X2_knows g k.2.1 n j r hj hr a2 m2) (Nat.le_of_ble_eq_true rfl) zv_X2_knows rfl cf_X2 (sh3 j r) ml_X11_140 (Nat.le_of_ble_eq_true rfl) (q_dm dm_X11_has 8 rfl) (fun r3 m4 => ?_)
    refine qr_if_eq (tgt := 31) o (q_dm dm_X11_has 9 rfl) (by decide) ?_ ?_
    · refine qr_iconst o (q_dm dm_X11_has 15 rfl) ic_m1 ?_
      exact qr_iret o rfl rfl (q_dm dm_X11_has 16 rfl)
    · refine qr_iload_n o (q_dm dm_X11_has 10 rfl) rfl ?_
      refine qr_if_lt (tgt := 31) o (q_dm dm_X11_has 11 rfl) (by decide) ?_ ?_
      · refine qr_iconst o (q_dm dm_X11_has 15 rfl) ic_m1 ?_
        exact qr_iret o rfl rfl (q_dm dm_X11_has 16 rfl)
      · refine qr_iload_n o (q_dm dm_X11_has 12 rfl) rfl ?_
        refine qr_iconst o (q_dm dm_X11_has 13 rfl) ic_5 ?_
        refine qr_icmp_le (tgt := 33) o (q_dm dm_X11_has 14 rfl) (by decide) ?_ ?_
        · refine qr_iload_n o (q_dm dm_X11_has 17 rfl) rfl ?_
          refine qr_bipush o (q_dm dm_X11_has 18 rfl) bi_12 ?_
          refine qr_imul o (q_dm dm_X11_has 19 rfl) ?_
          refine qr_iload_n o (q_dm dm_X11_has 20 rfl) rfl ?_
          refine qr_iadd o (q_dm dm_X11_has 21 rfl) ?_
          refine qr_lt (fun x5 => ?_)
          refine qs_istore (L' := [some (.inr (some 0)), some (.inl a1), some (.inl a2), some (.inl a3), some (.inl x5), none]) o (q_dm dm_X11_has 22 rfl) (Nat.le_of_ble_eq_true rfl) rfl ?_
          refine qr_iload_n o (q_dm dm_X11_has 23 rfl) rfl ?_
          refine qr_if_ne (tgt := 56) o (q_dm dm_X11_has 24 rfl) (by decide) ?_ ?_
          · refine qr_iload_n o (q_dm dm_X11_has 31 rfl) rfl ?_
            refine qr_iconst o (q_dm dm_X11_has 32 rfl) ic_1 ?_
            refine qr_icmp_ne (tgt := 72) o (q_dm dm_X11_has 33 rfl) (by decide) ?_ ?_
            · refine qr_iload_n o (q_dm dm_X11_has 40 rfl) rfl ?_
              refine qr_iconst o (q_dm dm_X11_has 41 rfl) ic_2 ?_
              refine qr_icmp_ne (tgt := 106) o (q_dm dm_X11_has 42 rfl) (by decide) ?_ ?_
              · refine qr_aload_n o (q_dm dm_X11_has 57 rfl) rfl ?_
                refine qr_getr (kf := 4) o cf_X11 (sh0 j r) rfl (Nat.le_of_ble_eq_true rfl) fl_X11_33 (q_dm dm_X11_has 58 rfl) ?_
                refine qr_aload_n o (q_dm dm_X11_has 59 rfl) rfl ?_
                refine qr_getr (kf := 2) o cf_X11 (sh0 j r) rfl (Nat.le_of_ble_eq_true rfl) fl_X11_26 (q_dm dm_X11_has 60 rfl) ?_
                refine qr_callv_v (As := [.inr (some 7)]) (S := []) o (a_X10_copy g k.2.1 n j r hj hr (Or.inr (Or.inr rfl)) (Or.inl rfl) m4) (Nat.le_of_ble_eq_true rfl) zv_X10_copy rfl cf_X10 (sh25 j r) ml_X11_159 (Nat.le_of_ble_eq_true rfl) (q_dm dm_X11_has 61 rfl) (fun _ m6 => ?_)
                refine qr_aload_n o (q_dm dm_X11_has 62 rfl) rfl ?_
                refine qr_getr (kf := 6) o cf_X11 (sh0 j r) rfl (Nat.le_of_ble_eq_true rfl) fl_X11_50 (q_dm dm_X11_has 63 rfl) ?_
                refine qr_aload_n o (q_dm dm_X11_has 64 rfl) rfl ?_
                refine qr_getr (kf := 4) o cf_X11 (sh0 j r) rfl (Nat.le_of_ble_eq_true rfl) fl_X11_33 (q_dm dm_X11_has 65 rfl) ?_
                refine qr_iload_n o (q_dm dm_X11_has 66 rfl) rfl ?_
                refine qr_iload_n o (q_dm dm_X11_has 67 rfl) rfl ?_
                refine qr_bipush o (q_dm dm_X11_has 68 rfl) bi_8 ?_
                refine qr_callv_i (As := [.inr (some 25), .inl a1, .inl a2, .inl (8 : Int32)]) (S := []) o (a_X0_attempt g k.2.1 n j r hj hr (Or.inr (Or.inr rfl)) a1 a2 (8 : Int32) m6) (Nat.le_of_ble_eq_true rfl) zv_X0_attempt rfl cf_X0 (sh44 j r) ml_X11_141 (Nat.le_of_ble_eq_true rfl) (q_dm dm_X11_has 69 rfl) (fun r7 m8 => ?_)
                refine qs_istore (L' := [some (.inr (some 0)), some (.inl a1), some (.inl a2), some (.inl a3), some (.inl x5), some (.inl r7)]) o (q_dm dm_X11_has 70 rfl) (Nat.le_of_ble_eq_true rfl) rfl ?_
                refine qr_iload_n o (q_dm dm_X11_has 71 rfl) rfl ?_
                refine qr_iconst o (q_dm dm_X11_has 72 rfl) ic_3 ?_
                refine qr_icmp_ne (tgt := 147) o (q_dm dm_X11_has 73 rfl) (by decide) ?_ ?_
                · refine qr_iload_n o (q_dm dm_X11_has 78 rfl) rfl ?_
                  refine qr_iconst o (q_dm dm_X11_has 79 rfl) ic_4 ?_
                  refine qr_icmp_ne (tgt := 160) o (q_dm dm_X11_has 80 rfl) (by decide) ?_ ?_
                  · refine qr_iload o (q_dm dm_X11_has 85 rfl) rfl ?_
                    refine qr_iconst o (q_dm dm_X11_has 86 rfl) ic_1 ?_
                    refine qr_icmp_ne (tgt := 170) o (q_dm dm_X11_has 87 rfl) (by decide) ?_ ?_
                    · refine qr_iconst o (q_dm dm_X11_has 90 rfl) ic_0 ?_
                      exact qr_iret o rfl rfl (q_dm dm_X11_has 91 rfl)
                    · refine qr_iconst o (q_dm dm_X11_has 88 rfl) ic_1 ?_
                      refine qr_goto (tgt := 171) o (q_dm dm_X11_has 89 rfl) (by decide) ?_
                      exact qr_iret o rfl rfl (q_dm dm_X11_has 91 rfl)
                  · refine qr_aload_n o (q_dm dm_X11_has 81 rfl) rfl ?_
                    refine qr_getr (kf := 6) o cf_X11 (sh0 j r) rfl (Nat.le_of_ble_eq_true rfl) fl_X11_50 (q_dm dm_X11_has 82 rfl) ?_
                    refine qr_getf (kf := 3) o cf_X0 (sh44 j r) rfl (Nat.le_of_ble_eq_true rfl) fl_X11_181 (q_dm dm_X11_has 83 rfl) ?_
                    exact qr_iret o rfl rfl (q_dm dm_X11_has 84 rfl)
                · refine qr_aload_n o (q_dm dm_X11_has 74 rfl) rfl ?_
                  refine qr_getr (kf := 6) o cf_X11 (sh0 j r) rfl (Nat.le_of_ble_eq_true rfl) fl_X11_50 (q_dm dm_X11_has 75 rfl) ?_
                  refine qr_getf (kf := 2) o cf_X0 (sh44 j r) rfl (Nat.le_of_ble_eq_true rfl) fl_X11_178 (q_dm dm_X11_has 76 rfl) ?_
                  exact qr_iret o rfl rfl (q_dm dm_X11_has 77 rfl)
              · refine qr_aload_n o (q_dm dm_X11_has 43 rfl) rfl ?_
                refine qr_getr (kf := 2) o cf_X11 (sh0 j r) rfl (Nat.le_of_ble_eq_true rfl) fl_X11_26 (q_dm dm_X11_has 44 rfl) ?_
                refine qr_getr (kf := 1) o cf_X10 (sh7 j r) rfl (Nat.le_of_ble_eq_true rfl) fl_X11_169 (q_dm dm_X11_has 45 rfl) ?_
                refine qr_iload o (q_dm dm_X11_has 46 rfl) rfl ?_
                refine qr_iald o (sh9 j r) (q_dm dm_X11_has 47 rfl) ?_
                refine qr_if_le (tgt := 103) o (q_dm dm_X11_has 48 rfl) (by decide) ?_ ?_
                · refine qr_bipush o (q_dm dm_X11_has 55 rfl) bi_m2 ?_
                  exact qr_iret o rfl rfl (q_dm dm_X11_has 56 rfl)
                · refine qr_aload_n o (q_dm dm_X11_has 49 rfl) rfl ?_
                  refine qr_getr (kf := 2) o cf_X11 (sh0 j r) rfl (Nat.le_of_ble_eq_true rfl) fl_X11_26 (q_dm dm_X11_has 50 rfl) ?_
                  refine qr_getr (kf := 2) o cf_X10 (sh7 j r) rfl (Nat.le_of_ble_eq_true rfl) fl_X11_175 (q_dm dm_X11_has 51 rfl) ?_
                  refine qr_iload o (q_dm dm_X11_has 52 rfl) rfl ?_
                  refine qr_iald o (sh10 j r) (q_dm dm_X11_has 53 rfl) ?_
                  refine qr_goto (tgt := 105) o (q_dm dm_X11_has 54 rfl) (by decide) ?_
                  exact qr_iret o rfl rfl (q_dm dm_X11_has 56 rfl)
            · refine qr_aload_n o (q_dm dm_X11_has 34 rfl) rfl ?_
              refine qr_getr (kf := 2) o cf_X11 (sh0 j r) rfl (Nat.le_of_ble_eq_true rfl) fl_X11_26 (q_dm dm_X11_has 35 rfl) ?_
              refine qr_getr (kf := 3) o cf_X10 (sh7 j r) rfl (Nat.le_of_ble_eq_true rfl) fl_X11_172 (q_dm dm_X11_has 36 rfl) ?_
              refine qr_iload o (q_dm dm_X11_has 37 rfl) rfl ?_
              refine qr_iald o (sh11 j r) (q_dm dm_X11_has 38 rfl) ?_
              exact qr_iret o rfl rfl (q_dm dm_X11_has 39 rfl)
          · refine qr_aload_n o (q_dm dm_X11_has 25 rfl) rfl ?_
            refine qr_getr (kf := 2) o cf_X11 (sh0 j r) rfl (Nat.le_of_ble_eq_true rfl) fl_X11_26 (q_dm dm_X11_has 26 rfl) ?_
            refine qr_getr (kf := 1) o cf_X10 (sh7 j r) rfl (Nat.le_of_ble_eq_true rfl) fl_X11_169 (q_dm dm_X11_has 27 rfl) ?_
            refine qr_iload o (q_dm dm_X11_has 28 rfl) rfl ?_
            refine qr_iald o (sh9 j r) (q_dm dm_X11_has 29 rfl) ?_
            exact qr_iret o rfl rfl (q_dm dm_X11_has 30 rfl)
        · refine qr_iconst o (q_dm dm_X11_has 15 rfl) ic_m1 ?_
          exact qr_iret o rfl rfl (q_dm dm_X11_has 16 rfl)

theorem a_X11_has (g : qG) (l : Launch) (n : Nat) (j r : Nat) (hj : q_isLaw j) (hr : q_isLaw r) (a1 a2 a3 : Int32) (M : qM) : qAM g l 5 zX11_has (qL j r) [.inr (some 0), .inl a1, .inl a2, .inl a3] (qL j r, M) (f_X11_has n j a1 a2 a3 M) :=
  qAM.of zv_X11_has.1 (by show 4 ≤ 6; decide) (fun k hk o => w_X11_has n j r hj hr o a1 a2 a3 M)
def tb_X8_old : List (Nat × Instr × Nat) := [(0, (.iconst 0, 1)), (1, (.istore_n 2, 1)), (2, (.iconst 0, 1)), (3, (.istore_n 3, 1)), (4, (.iload_n 3, 1)), (5, (.aload_n 0, 1)), (6, (.getfield 44, 3)), (9, (.if_icmp .ge 41, 3)), (12, (.iload_n 2, 1)), (13, (.aload_n 0, 1)), (14, (.getfield 15, 3)), (17, (.iload_n 1, 1)), (18, (.iaload, 1)), (19, (.aload_n 0, 1)), (20, (.getfield 9, 3)), (23, (.iload_n 3, 1)), (24, (.iaload, 1)), (25, (.ishr, 1)), (26, (.iconst 1, 1)), (27, (.iand, 1)), (28, (.iconst 1, 1)), (29, (.if_icmp .ne 12, 3)), (32, (.aload_n 0, 1)), (33, (.getfield 24, 3)), (36, (.iload_n 3, 1)), (37, (.iaload, 1)), (38, (.goto 4, 3)), (41, (.iconst 0, 1)), (42, (.iadd, 1)), (43, (.istore_n 2, 1)), (44, (.iinc 3 1, 3)), (47, (.goto (-43), 3)), (50, (.iload_n 2, 1)), (51, (.ireturn, 1))]
theorem dm_X8_old : ∀ q ∈ tb_X8_old, decode zX8_old.2.1 q.1 = .ok q.2 := by decide +kernel
def f_X8_old_42 (n : Nat) (K4 : Int32 → Int32 → Int32 → qM → qR) (a1 a3 s0 s1 : Int32) (M : qM) : qR :=
  ql (s0 + s1) (fun x1 => ql (a3 + (1 : Int32)) (fun x2 => K4 a1 x1 x2 M))
set_option maxRecDepth 4000 in
theorem w_X8_old_42 {g : qG} {k : qK} (n : Nat) (j r : Nat) (hj : q_isLaw j) (hr : q_isLaw r) (o : qOk g 0 zX8_old k) (K4 : Int32 → Int32 → Int32 → qM → qR) (hK4 : ∀ (a1 a2 a3 : Int32) (M : qM), qAE g k zX8_old (qL j r) 4 [some (.inr (some 70)), some (.inl a1), some (.inl a2), some (.inl a3)] [] (qL j r, M) (K4 a1 a2 a3 M)) (a1 a3 s0 s1 : Int32) (M : qM) : qAE g k zX8_old (qL j r) 42 [some (.inr (some 70)), some (.inl a1), none, some (.inl a3)] [.inl s1, .inl s0] (qL j r, M) (f_X8_old_42 n K4 a1 a3 s0 s1 M) := by
  unfold f_X8_old_42
  refine qr_iadd o (q_dm dm_X8_old 28 rfl) ?_
  refine qr_lt (fun x1 => ?_)
  refine qs_istore_n (L' := [some (.inr (some 70)), some (.inl a1), some (.inl x1), some (.inl a3)]) o (q_dm dm_X8_old 29 rfl) (Nat.le_of_ble_eq_true rfl) rfl ?_
  refine qs_iincl2 (L' := fun x2 => [some (.inr (some 70)), some (.inl a1), some (.inl x1), some (.inl x2)]) o (q_dm dm_X8_old 30 rfl) rfl ic_1 (Nat.le_of_ble_eq_true rfl) (fun _ => rfl) (fun x2 => ?_)
  refine qr_goto (tgt := 4) o (q_dm dm_X8_old 31 rfl) (by decide) ?_
  exact qr_loc (q_leS (q_leS (q_leS (q_leS q_le0)))) (hK4 a1 x1 x2 M)

def b_X8_old_4 (n : Nat) (K4 : Int32 → Int32 → Int32 → qM → qR) (a1 a2 a3 : Int32) (M : qM) : qR :=
  (if (M 70 8) ≤ a3 then some (a2, M) else qg a1 4 (qg a3 4 ((if (((M 72 a1.toNatClampNeg) >>> ((M 71 a3.toNatClampNeg) &&& 31)) &&& (1 : Int32)) = (1 : Int32) then qg a3 4 (f_X8_old_42 n K4 a1 a3 a2 (M 75 a3.toNatClampNeg) M) else f_X8_old_42 n K4 a1 a3 a2 (0 : Int32) M))))
set_option maxRecDepth 4000 in
theorem wb_X8_old_4 {g : qG} {k : qK} (n : Nat) (j r : Nat) (hj : q_isLaw j) (hr : q_isLaw r) (o : qOk g 0 zX8_old k) (K4 : Int32 → Int32 → Int32 → qM → qR) (hK4 : ∀ (a1 a2 a3 : Int32) (M : qM), qAE g k zX8_old (qL j r) 4 [some (.inr (some 70)), some (.inl a1), some (.inl a2), some (.inl a3)] [] (qL j r, M) (K4 a1 a2 a3 M)) (a1 a2 a3 : Int32) (M : qM) : qAE g k zX8_old (qL j r) 4 [some (.inr (some 70)), some (.inl a1), some (.inl a2), some (.inl a3)] [] (qL j r, M) (b_X8_old_4 n K4 a1 a2 a3 M) := by
  unfold b_X8_old_4
  refine qr_iload_n o (q_dm dm_X8_old 4 rfl) rfl ?_
  refine qr_aload_n o (q_dm dm_X8_old 5 rfl) rfl ?_
  refine qr_getf (kf := 8) o cf_X8 (sh70 j r) rfl (Nat.le_of_ble_eq_true rfl) fl_X8_44 (q_dm dm_X8_old 6 rfl) ?_
  refine qr_icmp_ge (tgt := 50) o (q_dm dm_X8_old 7 rfl) (by decide) ?_ ?_
  · refine qr_iload_n o (q_dm dm_X8_old 32 rfl) rfl ?_
    exact qr_iret o rfl rfl (q_dm dm_X8_old 33 rfl)
  · refine qr_iload_n o (q_dm dm_X8_old 8 rfl) rfl ?_
    refine qr_aload_n o (q_dm dm_X8_old 9 rfl) rfl ?_
    refine qr_getr (kf := 3) o cf_X8 (sh70 j r) rfl (Nat.le_of_ble_eq_true rfl) fl_X8_15 (q_dm dm_X8_old 10 rfl) ?_
    refine qr_iload_n o (q_dm dm_X8_old 11 rfl) rfl ?_
    refine qr_iald o (sh72 j r) (q_dm dm_X8_old 12 rfl) ?_
    refine qr_aload_n o (q_dm dm_X8_old 13 rfl) rfl ?_
    refine qr_getr (kf := 2) o cf_X8 (sh70 j r) rfl (Nat.le_of_ble_eq_true rfl) fl_X8_9 (q_dm dm_X8_old 14 rfl) ?_
    refine qr_iload_n o (q_dm dm_X8_old 15 rfl) rfl ?_
    refine qr_iald o (sh71 j r) (q_dm dm_X8_old 16 rfl) ?_
    refine qr_ishr o (q_dm dm_X8_old 17 rfl) ?_
    refine qr_iconst o (q_dm dm_X8_old 18 rfl) ic_1 ?_
    refine qr_iand o (q_dm dm_X8_old 19 rfl) ?_
    refine qr_iconst o (q_dm dm_X8_old 20 rfl) ic_1 ?_
    refine qr_icmp_ne (tgt := 41) o (q_dm dm_X8_old 21 rfl) (by decide) ?_ ?_
    · refine qr_iconst o (q_dm dm_X8_old 27 rfl) ic_0 ?_
      exact qr_loc (q_leS (q_leS (q_leN (q_leS q_le0)))) (w_X8_old_42 n j r hj hr o K4 hK4 a1 a3 a2 (0 : Int32) M)
    · refine qr_aload_n o (q_dm dm_X8_old 22 rfl) rfl ?_
      refine qr_getr (kf := 6) o cf_X8 (sh70 j r) rfl (Nat.le_of_ble_eq_true rfl) fl_X8_24 (q_dm dm_X8_old 23 rfl) ?_
      refine qr_iload_n o (q_dm dm_X8_old 24 rfl) rfl ?_
      refine qr_iald o (sh75 j r) (q_dm dm_X8_old 25 rfl) ?_
      refine qr_goto (tgt := 42) o (q_dm dm_X8_old 26 rfl) (by decide) ?_
      exact qr_loc (q_leS (q_leS (q_leN (q_leS q_le0)))) (w_X8_old_42 n j r hj hr o K4 hK4 a1 a3 a2 (M 75 a3.toNatClampNeg) M)

def f_X8_old_4 (n : Nat) : Nat → Int32 → Int32 → Int32 → qM → qR
  | 0, _, _, _, _ => none
  | m + 1, a1, a2, a3, M => b_X8_old_4 n (f_X8_old_4 n m) a1 a2 a3 M
theorem w_X8_old_4 {g : qG} {k : qK} (n : Nat) (j r : Nat) (hj : q_isLaw j) (hr : q_isLaw r) (o : qOk g 0 zX8_old k) : ∀ (m : Nat) (a1 a2 a3 : Int32) (M : qM), qAE g k zX8_old (qL j r) 4 [some (.inr (some 70)), some (.inl a1), some (.inl a2), some (.inl a3)] [] (qL j r, M) (f_X8_old_4 n m a1 a2 a3 M) := by
  intro m
  induction m with
  | zero =>
    intro a1 a2 a3 M
    exact qr_none
  | succ m ih =>
    intro a1 a2 a3 M
    exact wb_X8_old_4 n j r hj hr o (f_X8_old_4 n m) ih a1 a2 a3 M
def f_X8_old (n : Nat) (a1 : Int32) (M : qM) : qR :=
  f_X8_old_4 n n a1 (0 : Int32) (0 : Int32) M
set_option maxRecDepth 4000 in
theorem w_X8_old {g : qG} {k : qK} (n : Nat) (j r : Nat) (hj : q_isLaw j) (hr : q_isLaw r) (o : qOk g 0 zX8_old k) (a1 : Int32) (M : qM) : qAE g k zX8_old (qL j r) 0 [some (.inr (some 70)), some (.inl a1), none, none] [] (qL j r, M) (f_X8_old n a1 M) := by
  unfold f_X8_old
  refine qr_iconst o (q_dm dm_X8_old 0 rfl) ic_0 ?_
  refine qs_istore_n (L' := [some (.inr (some 70)), some (.inl a1), some (.inl (0 : Int32)), none]) o (q_dm dm_X8_old 1 rfl) (Nat.le_of_ble_eq_true rfl) rfl ?_
  refine qr_iconst o (q_dm dm_X8_old 2 rfl) ic_0 ?_
  refine qs_istore_n (L' := [some (.inr (some 70)), some (.inl a1), some (.inl (0 : Int32)), some (.inl (0 : Int32))]) o (q_dm dm_X8_old 3 rfl) (Nat.le_of_ble_eq_true rfl) rfl ?_
  exact qr_loc (q_leS (q_leS (q_leS (q_leS q_le0)))) (w_X8_old_4 n j r hj hr o n a1 (0 : Int32) (0 : Int32) M)

theorem a_X8_old (g : qG) (l : Launch) (n : Nat) (j r : Nat) (hj : q_isLaw j) (hr : q_isLaw r) (a1 : Int32) (M : qM) : qAM g l 0 zX8_old (qL j r) [.inr (some 70), .inl a1] (qL j r, M) (f_X8_old n a1 M) :=
  qAM.of zv_X8_old.1 (by show 2 ≤ 4; decide) (fun k hk o => w_X8_old n j r hj hr o a1 M)
def tb_X8_fits : List (Nat × Instr × Nat) := [(0, (.iconst 0, 1)), (1, (.istore_n 3, 1)), (2, (.iload_n 3, 1)), (3, (.aload_n 0, 1)), (4, (.getfield 44, 3)), (7, (.if_icmp .ge 29, 3)), (10, (.aload_n 0, 1)), (11, (.getfield 24, 3)), (14, (.iload_n 3, 1)), (15, (.iload_n 1, 1)), (16, (.iconst 2, 1)), (17, (.aload_n 0, 1)), (18, (.getfield 44, 3)), (21, (.iconst 1, 1)), (22, (.isub, 1)), (23, (.iload_n 3, 1)), (24, (.isub, 1)), (25, (.imul, 1)), (26, (.ishr, 1)), (27, (.iconst 3, 1)), (28, (.iand, 1)), (29, (.iastore, 1)), (30, (.iinc 3 1, 3)), (33, (.goto (-31), 3)), (36, (.iconst 0, 1)), (37, (.istore_n 3, 1)), (38, (.iload_n 3, 1)), (39, (.aload_n 0, 1)), (40, (.getfield 48, 3)), (43, (.if_icmp .ge 54, 3)), (46, (.aload_n 0, 1)), (47, (.aload_n 0, 1)), (48, (.getfield 18, 3)), (51, (.iload_n 3, 1)), (52, (.iaload, 1)), (53, (.invokevirtual 83, 3)), (56, (.iload_n 2, 1)), (57, (.if_icmp .lt 7, 3)), (60, (.iconst 1, 1)), (61, (.goto 4, 3)), (64, (.iconst 0, 1)), (65, (.aload_n 0, 1)), (66, (.getfield 21, 3)), (69, (.iload_n 3, 1)), (70, (.iaload, 1)), (71, (.if_icmp .eq 5, 3)), (74, (.iconst 0, 1)), (75, (.ireturn, 1)), (76, (.aload_n 0, 1)), (77, (.getfield 24, 3)), (80, (.aload_n 0, 1)), (81, (.getfield 18, 3)), (84, (.iload_n 3, 1)), (85, (.iaload, 1)), (86, (.dup2, 1)), (87, (.iaload, 1)), (88, (.iconst 1, 1)), (89, (.iadd, 1)), (90, (.iastore, 1)), (91, (.iinc 3 1, 3)), (94, (.goto (-56), 3)), (97, (.iconst 1, 1)), (98, (.ireturn, 1))]
theorem dm_X8_fits : ∀ q ∈ tb_X8_fits, decode zX8_fits.2.1 q.1 = .ok q.2 := by decide +kernel
def f_X8_fits_65 (n : Nat) (K38 : Int32 → Int32 → qM → qR) (a2 a3 s0 : Int32) (M : qM) : qR :=
  qg a3 10 ((if s0 = (M 74 a3.toNatClampNeg) then qg a3 10 (ql (M 73 a3.toNatClampNeg) (fun x1 => qg x1 4 (qg x1 4 (qlm (mu M 75 x1.toNatClampNeg ((M 75 x1.toNatClampNeg) + (1 : Int32))) (fun m2 => ql (a3 + (1 : Int32)) (fun x3 => K38 a2 x3 m2)))))) else some ((0 : Int32), M)))
set_option maxRecDepth 4000 in
theorem w_X8_fits_65 {g : qG} {k : qK} (n : Nat) (j r : Nat) (hj : q_isLaw j) (hr : q_isLaw r) (o : qOk g 1 zX8_fits k) (K38 : Int32 → Int32 → qM → qR) (hK38 : ∀ (a2 a3 : Int32) (M : qM), qAE g k zX8_fits (qL j r) 38 [some (.inr (some 70)), none, some (.inl a2), some (.inl a3)] [] (qL j r, M) (K38 a2 a3 M)) (a2 a3 s0 : Int32) (M : qM) : qAE g k zX8_fits (qL j r) 65 [some (.inr (some 70)), none, some (.inl a2), some (.inl a3)] [.inl s0] (qL j r, M) (f_X8_fits_65 n K38 a2 a3 s0 M) := by
  unfold f_X8_fits_65
  refine qr_aload_n o (q_dm dm_X8_fits 41 rfl) rfl ?_
  refine qr_getr (kf := 5) o cf_X8 (sh70 j r) rfl (Nat.le_of_ble_eq_true rfl) fl_X8_21 (q_dm dm_X8_fits 42 rfl) ?_
  refine qr_iload_n o (q_dm dm_X8_fits 43 rfl) rfl ?_
  refine qr_iald o (sh74 j r) (q_dm dm_X8_fits 44 rfl) ?_
  refine qr_icmp_eq (tgt := 76) o (q_dm dm_X8_fits 45 rfl) (by decide) ?_ ?_
  · refine qr_aload_n o (q_dm dm_X8_fits 48 rfl) rfl ?_
    refine qr_getr (kf := 6) o cf_X8 (sh70 j r) rfl (Nat.le_of_ble_eq_true rfl) fl_X8_24 (q_dm dm_X8_fits 49 rfl) ?_
    refine qr_aload_n o (q_dm dm_X8_fits 50 rfl) rfl ?_
    refine qr_getr (kf := 4) o cf_X8 (sh70 j r) rfl (Nat.le_of_ble_eq_true rfl) fl_X8_18 (q_dm dm_X8_fits 51 rfl) ?_
    refine qr_iload_n o (q_dm dm_X8_fits 52 rfl) rfl ?_
    refine qr_iald o (sh73 j r) (q_dm dm_X8_fits 53 rfl) ?_
    refine qr_lt (fun x1 => ?_)
    refine qr_dup2 o (q_dm dm_X8_fits 54 rfl) ?_
    refine qr_iald o (sh75 j r) (q_dm dm_X8_fits 55 rfl) ?_
    refine qr_iconst o (q_dm dm_X8_fits 56 rfl) ic_1 ?_
    refine qr_iadd o (q_dm dm_X8_fits 57 rfl) ?_
    refine qr_iast o (sh75 j r) (q_dm dm_X8_fits 58 rfl) ?_
    refine qr_letm (fun m2 => ?_)
    refine qs_iincl2 (L' := fun x3 => [some (.inr (some 70)), none, some (.inl a2), some (.inl x3)]) o (q_dm dm_X8_fits 59 rfl) rfl ic_1 (Nat.le_of_ble_eq_true rfl) (fun _ => rfl) (fun x3 => ?_)
    refine qr_goto (tgt := 38) o (q_dm dm_X8_fits 60 rfl) (by decide) ?_
    exact qr_loc (q_leS (q_leN (q_leS (q_leS q_le0)))) (hK38 a2 x3 m2)
  · refine qr_iconst o (q_dm dm_X8_fits 46 rfl) ic_0 ?_
    exact qr_iret o rfl (by decide) (q_dm dm_X8_fits 47 rfl)

def b_X8_fits_38 (n : Nat) (K38 : Int32 → Int32 → qM → qR) (a2 a3 : Int32) (M : qM) : qR :=
  (if (M 70 9) ≤ a3 then some ((1 : Int32), M) else qg a3 10 (qc (f_X8_old n (M 73 a3.toNatClampNeg) M) (fun r1 m2 => (if r1 < a2 then f_X8_fits_65 n K38 a2 a3 (0 : Int32) m2 else f_X8_fits_65 n K38 a2 a3 (1 : Int32) m2))))
set_option maxRecDepth 4000 in
theorem wb_X8_fits_38 {g : qG} {k : qK} (n : Nat) (j r : Nat) (hj : q_isLaw j) (hr : q_isLaw r) (o : qOk g 1 zX8_fits k) (K38 : Int32 → Int32 → qM → qR) (hK38 : ∀ (a2 a3 : Int32) (M : qM), qAE g k zX8_fits (qL j r) 38 [some (.inr (some 70)), none, some (.inl a2), some (.inl a3)] [] (qL j r, M) (K38 a2 a3 M)) (a2 a3 : Int32) (M : qM) : qAE g k zX8_fits (qL j r) 38 [some (.inr (some 70)), none, some (.inl a2), some (.inl a3)] [] (qL j r, M) (b_X8_fits_38 n K38 a2 a3 M) := by
  unfold b_X8_fits_38
  refine qr_iload_n o (q_dm dm_X8_fits 26 rfl) rfl ?_
  refine qr_aload_n o (q_dm dm_X8_fits 27 rfl) rfl ?_
  refine qr_getf (kf := 9) o cf_X8 (sh70 j r) rfl (Nat.le_of_ble_eq_true rfl) fl_X8_48 (q_dm dm_X8_fits 28 rfl) ?_
  refine qr_icmp_ge (tgt := 97) o (q_dm dm_X8_fits 29 rfl) (by decide) ?_ ?_
  · refine qr_iconst o (q_dm dm_X8_fits 61 rfl) ic_1 ?_
    exact qr_iret o rfl (by decide) (q_dm dm_X8_fits 62 rfl)
  · refine qr_aload_n o (q_dm dm_X8_fits 30 rfl) rfl ?_
    refine qr_aload_n o (q_dm dm_X8_fits 31 rfl) rfl ?_
    refine qr_getr (kf := 4) o cf_X8 (sh70 j r) rfl (Nat.le_of_ble_eq_true rfl) fl_X8_18 (q_dm dm_X8_fits 32 rfl) ?_
    refine qr_iload_n o (q_dm dm_X8_fits 33 rfl) rfl ?_
    refine qr_iald o (sh73 j r) (q_dm dm_X8_fits 34 rfl) ?_
    refine qr_callv_i (As := [.inl (M 73 a3.toNatClampNeg)]) (S := []) o (a_X8_old g k.2.1 n j r hj hr (M 73 a3.toNatClampNeg) M) (Nat.le_of_ble_eq_true rfl) zv_X8_old rfl cf_X8 (sh70 j r) ml_X8_83 (Nat.le_of_ble_eq_true rfl) (q_dm dm_X8_fits 35 rfl) (fun r1 m2 => ?_)
    refine qr_iload_n o (q_dm dm_X8_fits 36 rfl) rfl ?_
    refine qr_icmp_lt (tgt := 64) o (q_dm dm_X8_fits 37 rfl) (by decide) ?_ ?_
    · refine qr_iconst o (q_dm dm_X8_fits 40 rfl) ic_0 ?_
      exact qr_loc (q_leS (q_leN (q_leS (q_leS q_le0)))) (w_X8_fits_65 n j r hj hr o K38 hK38 a2 a3 (0 : Int32) m2)
    · refine qr_iconst o (q_dm dm_X8_fits 38 rfl) ic_1 ?_
      refine qr_goto (tgt := 65) o (q_dm dm_X8_fits 39 rfl) (by decide) ?_
      exact qr_loc (q_leS (q_leN (q_leS (q_leS q_le0)))) (w_X8_fits_65 n j r hj hr o K38 hK38 a2 a3 (1 : Int32) m2)

def f_X8_fits_38 (n : Nat) : Nat → Int32 → Int32 → qM → qR
  | 0, _, _, _ => none
  | m + 1, a2, a3, M => b_X8_fits_38 n (f_X8_fits_38 n m) a2 a3 M
theorem w_X8_fits_38 {g : qG} {k : qK} (n : Nat) (j r : Nat) (hj : q_isLaw j) (hr : q_isLaw r) (o : qOk g 1 zX8_fits k) : ∀ (m : Nat) (a2 a3 : Int32) (M : qM), qAE g k zX8_fits (qL j r) 38 [some (.inr (some 70)), none, some (.inl a2), some (.inl a3)] [] (qL j r, M) (f_X8_fits_38 n m a2 a3 M) := by
  intro m
  induction m with
  | zero =>
    intro a2 a3 M
    exact qr_none
  | succ m ih =>
    intro a2 a3 M
    exact wb_X8_fits_38 n j r hj hr o (f_X8_fits_38 n m) ih a2 a3 M
def b_X8_fits_2 (n : Nat) (K2 : Int32 → Int32 → Int32 → qM → qR) (a1 a2 a3 : Int32) (M : qM) : qR :=
  (if (M 70 8) ≤ a3 then f_X8_fits_38 n n a2 (0 : Int32) M else qg a3 4 (qlm (mu M 75 a3.toNatClampNeg ((a1 >>> (((2 : Int32) * (((M 70 8) - (1 : Int32)) - a3)) &&& 31)) &&& (3 : Int32))) (fun m1 => ql (a3 + (1 : Int32)) (fun x2 => K2 a1 a2 x2 m1))))
set_option maxRecDepth 4000 in
theorem wb_X8_fits_2 {g : qG} {k : qK} (n : Nat) (j r : Nat) (hj : q_isLaw j) (hr : q_isLaw r) (o : qOk g 1 zX8_fits k) (K2 : Int32 → Int32 → Int32 → qM → qR) (hK2 : ∀ (a1 a2 a3 : Int32) (M : qM), qAE g k zX8_fits (qL j r) 2 [some (.inr (some 70)), some (.inl a1), some (.inl a2), some (.inl a3)] [] (qL j r, M) (K2 a1 a2 a3 M)) (a1 a2 a3 : Int32) (M : qM) : qAE g k zX8_fits (qL j r) 2 [some (.inr (some 70)), some (.inl a1), some (.inl a2), some (.inl a3)] [] (qL j r, M) (b_X8_fits_2 n K2 a1 a2 a3 M) := by
  unfold b_X8_fits_2
  refine qr_iload_n o (q_dm dm_X8_fits 2 rfl) rfl ?_
  refine qr_aload_n o (q_dm dm_X8_fits 3 rfl) rfl ?_
  refine qr_getf (kf := 8) o cf_X8 (sh70 j r) rfl (Nat.le_of_ble_eq_true rfl) fl_X8_44 (q_dm dm_X8_fits 4 rfl) ?_
  refine qr_icmp_ge (tgt := 36) o (q_dm dm_X8_fits 5 rfl) (by decide) ?_ ?_
  · refine qr_iconst o (q_dm dm_X8_fits 24 rfl) ic_0 ?_
    refine qs_istore_n (L' := [some (.inr (some 70)), some (.inl a1), some (.inl a2), some (.inl (0 : Int32))]) o (q_dm dm_X8_fits 25 rfl) (Nat.le_of_ble_eq_true rfl) rfl ?_
    exact qr_loc (q_leS (q_leN (q_leS (q_leS q_le0)))) (w_X8_fits_38 n j r hj hr o n a2 (0 : Int32) M)
  · refine qr_aload_n o (q_dm dm_X8_fits 6 rfl) rfl ?_
    refine qr_getr (kf := 6) o cf_X8 (sh70 j r) rfl (Nat.le_of_ble_eq_true rfl) fl_X8_24 (q_dm dm_X8_fits 7 rfl) ?_
    refine qr_iload_n o (q_dm dm_X8_fits 8 rfl) rfl ?_
    refine qr_iload_n o (q_dm dm_X8_fits 9 rfl) rfl ?_
    refine qr_iconst o (q_dm dm_X8_fits 10 rfl) ic_2 ?_
    refine qr_aload_n o (q_dm dm_X8_fits 11 rfl) rfl ?_
    refine qr_getf (kf := 8) o cf_X8 (sh70 j r) rfl (Nat.le_of_ble_eq_true rfl) fl_X8_44 (q_dm dm_X8_fits 12 rfl) ?_
    refine qr_iconst o (q_dm dm_X8_fits 13 rfl) ic_1 ?_
    refine qr_isub o (q_dm dm_X8_fits 14 rfl) ?_
    refine qr_iload_n o (q_dm dm_X8_fits 15 rfl) rfl ?_
    refine qr_isub o (q_dm dm_X8_fits 16 rfl) ?_
    refine qr_imul o (q_dm dm_X8_fits 17 rfl) ?_
    refine qr_ishr o (q_dm dm_X8_fits 18 rfl) ?_
    refine qr_iconst o (q_dm dm_X8_fits 19 rfl) ic_3 ?_
    refine qr_iand o (q_dm dm_X8_fits 20 rfl) ?_
    refine qr_iast o (sh75 j r) (q_dm dm_X8_fits 21 rfl) ?_
    refine qr_letm (fun m1 => ?_)
    refine qs_iincl2 (L' := fun x2 => [some (.inr (some 70)), some (.inl a1), some (.inl a2), some (.inl x2)]) o (q_dm dm_X8_fits 22 rfl) rfl ic_1 (Nat.le_of_ble_eq_true rfl) (fun _ => rfl) (fun x2 => ?_)
    refine qr_goto (tgt := 2) o (q_dm dm_X8_fits 23 rfl) (by decide) ?_
    exact qr_loc (q_leS (q_leS (q_leS (q_leS q_le0)))) (hK2 a1 a2 x2 m1)

def f_X8_fits_2 (n : Nat) : Nat → Int32 → Int32 → Int32 → qM → qR
  | 0, _, _, _, _ => none
  | m + 1, a1, a2, a3, M => b_X8_fits_2 n (f_X8_fits_2 n m) a1 a2 a3 M
theorem w_X8_fits_2 {g : qG} {k : qK} (n : Nat) (j r : Nat) (hj : q_isLaw j) (hr : q_isLaw r) (o : qOk g 1 zX8_fits k) : ∀ (m : Nat) (a1 a2 a3 : Int32) (M : qM), qAE g k zX8_fits (qL j r) 2 [some (.inr (some 70)), some (.inl a1), some (.inl a2), some (.inl a3)] [] (qL j r, M) (f_X8_fits_2 n m a1 a2 a3 M) := by
  intro m
  induction m with
  | zero =>
    intro a1 a2 a3 M
    exact qr_none
  | succ m ih =>
    intro a1 a2 a3 M
    exact wb_X8_fits_2 n j r hj hr o (f_X8_fits_2 n m) ih a1 a2 a3 M
def f_X8_fits (n : Nat) (a1 a2 : Int32) (M : qM) : qR :=
  f_X8_fits_2 n n a1 a2 (0 : Int32) M
set_option maxRecDepth 4000 in
theorem w_X8_fits {g : qG} {k : qK} (n : Nat) (j r : Nat) (hj : q_isLaw j) (hr : q_isLaw r) (o : qOk g 1 zX8_fits k) (a1 a2 : Int32) (M : qM) : qAE g k zX8_fits (qL j r) 0 [some (.inr (some 70)), some (.inl a1), some (.inl a2), none] [] (qL j r, M) (f_X8_fits n a1 a2 M) := by
  unfold f_X8_fits
  refine qr_iconst o (q_dm dm_X8_fits 0 rfl) ic_0 ?_
  refine qs_istore_n (L' := [some (.inr (some 70)), some (.inl a1), some (.inl a2), some (.inl (0 : Int32))]) o (q_dm dm_X8_fits 1 rfl) (Nat.le_of_ble_eq_true rfl) rfl ?_
  exact qr_loc (q_leS (q_leS (q_leS (q_leS q_le0)))) (w_X8_fits_2 n j r hj hr o n a1 a2 (0 : Int32) M)

theorem a_X8_fits (g : qG) (l : Launch) (n : Nat) (j r : Nat) (hj : q_isLaw j) (hr : q_isLaw r) (a1 a2 : Int32) (M : qM) : qAM g l 1 zX8_fits (qL j r) [.inr (some 70), .inl a1, .inl a2] (qL j r, M) (f_X8_fits n a1 a2 M) :=
  qAM.of zv_X8_fits.1 (by show 3 ≤ 4; decide) (fun k hk o => w_X8_fits n j r hj hr o a1 a2 M)
