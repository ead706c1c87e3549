def tb_X12_cheapest : List (Nat × Instr × Nat) := [(0, (.aload_n 0, 1)), (1, (.iload_n 1, 1)), (2, (.iload_n 2, 1)), (3, (.iload_n 3, 1)), (4, (.invokevirtual 386, 3)), (7, (.ifCond .eq 25, 3)), (10, (.iload 4, 2)), (12, (.iconst 0, 1)), (13, (.sipush 200, 3)), (16, (.invokestatic 153, 3)), (19, (.ifCond .eq 13, 3)), (22, (.iload 5, 2)), (24, (.iconst 0, 1)), (25, (.iconst 1, 1)), (26, (.invokestatic 153, 3)), (29, (.ifCond .ne 5, 3)), (32, (.iconst (-1), 1)), (33, (.ireturn, 1)), (34, (.aload_n 0, 1)), (35, (.iload_n 1, 1)), (36, (.iload_n 2, 1)), (37, (.invokevirtual 389, 3)), (40, (.iconst 0, 1)), (41, (.istore 6, 2)), (43, (.iload 6, 2)), (45, (.aload_n 0, 1)), (46, (.getfield 365, 3)), (49, (.if_icmp .ge 28, 3)), (52, (.aload_n 0, 1)), (53, (.getfield 104, 3)), (56, (.iload 6, 2)), (58, (.aload_n 0, 1)), (59, (.iload_n 1, 1)), (60, (.aload_n 0, 1)), (61, (.getfield 92, 3)), (64, (.iload 6, 2)), (66, (.iaload, 1)), (67, (.invokevirtual 411, 3)), (70, (.iastore, 1)), (71, (.iinc 6 1, 3)), (74, (.goto (-31), 3)), (77, (.aload_n 0, 1)), (78, (.invokevirtual 392, 3)), (81, (.istore 6, 2)), (83, (.aload_n 0, 1)), (84, (.iload_n 3, 1)), (85, (.invokevirtual 395, 3)), (88, (.istore 7, 2)), (90, (.ldc_w 398, 3)), (93, (.istore 8, 2)), (95, (.aload_n 0, 1)), (96, (.iload 6, 2)), (98, (.invokevirtual 414, 3)), (101, (.iconst 0, 1)), (102, (.istore 9, 2)), (104, (.iload 9, 2)), (106, (.iload 6, 2)), (108, (.if_icmp .ge 83, 3)), (111, (.aload_n 0, 1)), (112, (.getfield 108, 3)), (115, (.iload 9, 2)), (117, (.baload, 1)), (118, (.ifCond .ne 6, 3)), (121, (.goto 64, 3)), (124, (.aload_n 0, 1)), (125, (.iload 9, 2)), (127, (.invokevirtual 399, 3)), (130, (.aload_n 0, 1)), (131, (.invokevirtual 402, 3)), (134, (.iload 4, 2)), (136, (.if_icmp .le 6, 3)), (139, (.goto 46, 3)), (142, (.aload_n 0, 1)), (143, (.getfield 89, 3)), (146, (.aload_n 0, 1)), (147, (.getfield 101, 3)), (150, (.iload 7, 2)), (152, (.iaload, 1)), (153, (.iaload, 1)), (154, (.ifCond .le 26, 3)), (157, (.iload 8, 2)), (159, (.sipush 256, 3)), (162, (.aload_n 0, 1)), (163, (.invokevirtual 417, 3)), (166, (.imul, 1)), (167, (.aload_n 0, 1)), (168, (.invokevirtual 402, 3)), (171, (.iadd, 1)), (172, (.invokestatic 307, 3)), (175, (.istore 8, 2)), (177, (.goto 8, 3)), (180, (.aload_n 0, 1)), (181, (.iconst 0, 1)), (182, (.invokevirtual 408, 3)), (185, (.iinc 9 1, 3)), (188, (.goto (-84), 3)), (191, (.iload 8, 2)), (193, (.ldc_w 398, 3)), (196, (.if_icmp .ne 8, 3)), (199, (.bipush (-2), 2)), (201, (.goto 23, 3)), (204, (.iload 5, 2)), (206, (.ifCond .ne 12, 3)), (209, (.iload 8, 2)), (211, (.sipush 256, 3)), (214, (.idiv, 1)), (215, (.goto 9, 3)), (218, (.iload 8, 2)), (220, (.sipush 256, 3)), (223, (.irem, 1)), (224, (.ireturn, 1))]
theorem dm_X12_cheapest : ∀ q ∈ tb_X12_cheapest, decode zX12_cheapest.2.1 q.1 = .ok q.2 := by decide +kernel
def b_X12_cheapest_104 (n : Nat) (K104 : Int32 → Int32 → Int32 → Int32 → Int32 → Int32 → qM → qR) (a4 a5 a6 a7 a8 a9 : Int32) (M : qM) : qR :=
  (if a6 ≤ a9 then (if a8 = (1000000000 : Int32) then some ((-2 : Int32), M) else (if a5 = (0 : Int32) then some ((a8 / (256 : Int32)), M) else some ((a8 - a8 / (256 : Int32) * (256 : Int32)), M))) else qg a9 160000 ((if (M 110 a9.toNatClampNeg) = (0 : Int32) then ql (a9 + (1 : Int32)) (fun x14 => K104 a4 a5 a6 a7 a8 x14 M) else qc (f_X12_takesState n a9 M) (fun _ m1 => qc (f_X12_hoursNow n  m1) (fun r2 m3 => (if r2 ≤ a4 then qg a7 4 (qg (m3 108 a7.toNatClampNeg) 20 ((if (m3 104 (m3 108 a7.toNatClampNeg).toNatClampNeg) ≤ (0 : Int32) then qc (f_X12_spreads n (0 : Int32) m3) (fun _ m4 => ql (a9 + (1 : Int32)) (fun x5 => K104 a4 a5 a6 a7 a8 x5 m4)) else qc (f_X12_coinsNow n  m3) (fun r6 m7 => qc (f_X12_hoursNow n  m7) (fun r8 m9 => qc (f_X12_min n a8 (((256 : Int32) * r6) + r8) m9) (fun r10 m11 => ql (a9 + (1 : Int32)) (fun x12 => K104 a4 a5 a6 a7 r10 x12 m11))))))) else ql (a9 + (1 : Int32)) (fun x13 => K104 a4 a5 a6 a7 a8 x13 m3)))))))
set_option maxRecDepth 4000 in
theorem wb_X12_cheapest_104 {g : qG} {k : qK} (n : Nat) (j r : Nat) (hj : q_isLaw j) (hr : q_isLaw r) (o : qOk g 5 zX12_cheapest k) (K104 : Int32 → Int32 → Int32 → Int32 → Int32 → Int32 → qM → qR) (hK104 : ∀ (a4 a5 a6 a7 a8 a9 : Int32) (M : qM), qAE g k zX12_cheapest (qL j r) 104 [some (.inr (some 77)), none, none, none, some (.inl a4), some (.inl a5), some (.inl a6), some (.inl a7), some (.inl a8), some (.inl a9)] [] (qL j r, M) (K104 a4 a5 a6 a7 a8 a9 M)) (a4 a5 a6 a7 a8 a9 : Int32) (M : qM) : qAE g k zX12_cheapest (qL j r) 104 [some (.inr (some 77)), none, none, none, some (.inl a4), some (.inl a5), some (.inl a6), some (.inl a7), some (.inl a8), some (.inl a9)] [] (qL j r, M) (b_X12_cheapest_104 n K104 a4 a5 a6 a7 a8 a9 M) := by
  unfold b_X12_cheapest_104
  refine qr_iload o (q_dm dm_X12_cheapest 55 rfl) rfl ?_
  refine qr_iload o (q_dm dm_X12_cheapest 56 rfl) rfl ?_
  refine qr_icmp_ge (tgt := 191) o (q_dm dm_X12_cheapest 57 rfl) (by decide) ?_ ?_
  · refine qr_iload o (q_dm dm_X12_cheapest 96 rfl) rfl ?_
    refine qr_ldc_w o (q_dm dm_X12_cheapest 97 rfl) kc_X12_398 ?_
    refine qr_icmp_ne (tgt := 204) o (q_dm dm_X12_cheapest 98 rfl) (by decide) ?_ ?_
    · refine qr_iload o (q_dm dm_X12_cheapest 101 rfl) rfl ?_
      refine qr_if_ne (tgt := 218) o (q_dm dm_X12_cheapest 102 rfl) (by decide) ?_ ?_
      · refine qr_iload o (q_dm dm_X12_cheapest 107 rfl) rfl ?_
        refine qr_sipush o (q_dm dm_X12_cheapest 108 rfl) si_256 ?_
        refine qr_iremc o (q_dm dm_X12_cheapest 109 rfl) (by decide) ?_
        exact qr_iret o rfl rfl (q_dm dm_X12_cheapest 110 rfl)
      · refine qr_iload o (q_dm dm_X12_cheapest 103 rfl) rfl ?_
        refine qr_sipush o (q_dm dm_X12_cheapest 104 rfl) si_256 ?_
        refine qr_idivc o (q_dm dm_X12_cheapest 105 rfl) (by decide) ?_
        refine qr_goto (tgt := 224) o (q_dm dm_X12_cheapest 106 rfl) (by decide) ?_
        exact qr_iret o rfl rfl (q_dm dm_X12_cheapest 110 rfl)
    · refine qr_bipush o (q_dm dm_X12_cheapest 99 rfl) bi_m2 ?_
      refine qr_goto (tgt := 224) o (q_dm dm_X12_cheapest 100 rfl) (by decide) ?_
      exact qr_iret o rfl rfl (q_dm dm_X12_cheapest 110 rfl)
  · refine qr_aload_n o (q_dm dm_X12_cheapest 58 rfl) rfl ?_
    refine qr_getr (kf := 53) o cf_X12 (sh77 j r) rfl (Nat.le_of_ble_eq_true rfl) fl_X12_108 (q_dm dm_X12_cheapest 59 rfl) ?_
    refine qr_iload o (q_dm dm_X12_cheapest 60 rfl) rfl ?_
    refine qr_zald o (sh110 j r) (q_dm dm_X12_cheapest 61 rfl) ?_
    refine qr_if_ne (tgt := 124) o (q_dm dm_X12_cheapest 62 rfl) (by decide) ?_ ?_
    · refine qr_aload_n o (q_dm dm_X12_cheapest 64 rfl) rfl ?_
      refine qr_iload o (q_dm dm_X12_cheapest 65 rfl) rfl ?_
      refine qr_callv_v (As := [.inl a9]) (S := []) o (a_X12_takesState g k.2.1 n j r hj hr a9 M) (Nat.le_of_ble_eq_true rfl) zv_X12_takesState rfl cf_X12 (sh77 j r) ml_X12_399 (Nat.le_of_ble_eq_true rfl) (q_dm dm_X12_cheapest 66 rfl) (fun _ m1 => ?_)
      refine qr_aload_n o (q_dm dm_X12_cheapest 67 rfl) rfl ?_
      refine qr_callv_i (As := []) (S := []) o (a_X12_hoursNow g k.2.1 n j r hj hr  m1) (Nat.le_of_ble_eq_true rfl) zv_X12_hoursNow rfl cf_X12 (sh77 j r) ml_X12_402 (Nat.le_of_ble_eq_true rfl) (q_dm dm_X12_cheapest 68 rfl) (fun r2 m3 => ?_)
      refine qr_iload o (q_dm dm_X12_cheapest 69 rfl) rfl ?_
      refine qr_icmp_le (tgt := 142) o (q_dm dm_X12_cheapest 70 rfl) (by decide) ?_ ?_
      · refine qr_aload_n o (q_dm dm_X12_cheapest 72 rfl) rfl ?_
        refine qr_getr (kf := 47) o cf_X12 (sh77 j r) rfl (Nat.le_of_ble_eq_true rfl) fl_X12_89 (q_dm dm_X12_cheapest 73 rfl) ?_
        refine qr_aload_n o (q_dm dm_X12_cheapest 74 rfl) rfl ?_
        refine qr_getr (kf := 51) o cf_X12 (sh77 j r) rfl (Nat.le_of_ble_eq_true rfl) fl_X12_101 (q_dm dm_X12_cheapest 75 rfl) ?_
        refine qr_iload o (q_dm dm_X12_cheapest 76 rfl) rfl ?_
        refine qr_iald o (sh108 j r) (q_dm dm_X12_cheapest 77 rfl) ?_
        refine qr_iald o (sh104 j r) (q_dm dm_X12_cheapest 78 rfl) ?_
        refine qr_if_le (tgt := 180) o (q_dm dm_X12_cheapest 79 rfl) (by decide) ?_ ?_
        · refine qr_aload_n o (q_dm dm_X12_cheapest 91 rfl) rfl ?_
          refine qr_iconst o (q_dm dm_X12_cheapest 92 rfl) ic_0 ?_
          refine qr_callv_v (As := [.inl (0 : Int32)]) (S := []) o (a_X12_spreads g k.2.1 n j r hj hr (0 : Int32) m3) (Nat.le_of_ble_eq_true rfl) zv_X12_spreads rfl cf_X12 (sh77 j r) ml_X12_408 (Nat.le_of_ble_eq_true rfl) (q_dm dm_X12_cheapest 93 rfl) (fun _ m4 => ?_)
          refine qs_iincl2 (L' := fun x5 => [some (.inr (some 77)), none, none, none, some (.inl a4), some (.inl a5), some (.inl a6), some (.inl a7), some (.inl a8), some (.inl x5)]) o (q_dm dm_X12_cheapest 94 rfl) rfl ic_1 (Nat.le_of_ble_eq_true rfl) (fun _ => rfl) (fun x5 => ?_)
          refine qr_goto (tgt := 104) o (q_dm dm_X12_cheapest 95 rfl) (by decide) ?_
          exact qr_loc (q_leS (q_leN (q_leN (q_leN (q_leS (q_leS (q_leS (q_leS (q_leS (q_leS q_le0)))))))))) (hK104 a4 a5 a6 a7 a8 x5 m4)
        · refine qr_iload o (q_dm dm_X12_cheapest 80 rfl) rfl ?_
          refine qr_sipush o (q_dm dm_X12_cheapest 81 rfl) si_256 ?_
          refine qr_aload_n o (q_dm dm_X12_cheapest 82 rfl) rfl ?_
          refine qr_callv_i (As := []) (S := [.inl (256 : Int32), .inl a8]) o (a_X12_coinsNow g k.2.1 n j r hj hr  m3) (Nat.le_of_ble_eq_true rfl) zv_X12_coinsNow rfl cf_X12 (sh77 j r) ml_X12_417 (Nat.le_of_ble_eq_true rfl) (q_dm dm_X12_cheapest 83 rfl) (fun r6 m7 => ?_)
          refine qr_imul o (q_dm dm_X12_cheapest 84 rfl) ?_
          refine qr_aload_n o (q_dm dm_X12_cheapest 85 rfl) rfl ?_
          refine qr_callv_i (As := []) (S := [.inl ((256 : Int32) * r6), .inl a8]) o (a_X12_hoursNow g k.2.1 n j r hj hr  m7) (Nat.le_of_ble_eq_true rfl) zv_X12_hoursNow rfl cf_X12 (sh77 j r) ml_X12_402 (Nat.le_of_ble_eq_true rfl) (q_dm dm_X12_cheapest 86 rfl) (fun r8 m9 => ?_)
          refine qr_iadd o (q_dm dm_X12_cheapest 87 rfl) ?_
          refine qr_calls_i (As := [.inl a8, .inl (((256 : Int32) * r6) + r8)]) (S := []) o (a_X12_min g k.2.1 n j r hj hr a8 (((256 : Int32) * r6) + r8) m9) (Nat.le_of_ble_eq_true rfl) zs_X12_min rfl ml_X12_307 (Nat.le_of_ble_eq_true rfl) (q_dm dm_X12_cheapest 88 rfl) (fun r10 m11 => ?_)
          refine qs_istore (L' := [some (.inr (some 77)), none, none, none, some (.inl a4), some (.inl a5), some (.inl a6), some (.inl a7), some (.inl r10), some (.inl a9)]) o (q_dm dm_X12_cheapest 89 rfl) (Nat.le_of_ble_eq_true rfl) rfl ?_
          refine qr_goto (tgt := 185) o (q_dm dm_X12_cheapest 90 rfl) (by decide) ?_
          refine qs_iincl2 (L' := fun x12 => [some (.inr (some 77)), none, none, none, some (.inl a4), some (.inl a5), some (.inl a6), some (.inl a7), some (.inl r10), some (.inl x12)]) o (q_dm dm_X12_cheapest 94 rfl) rfl ic_1 (Nat.le_of_ble_eq_true rfl) (fun _ => rfl) (fun x12 => ?_)
          refine qr_goto (tgt := 104) o (q_dm dm_X12_cheapest 95 rfl) (by decide) ?_
          exact qr_loc (q_leS (q_leN (q_leN (q_leN (q_leS (q_leS (q_leS (q_leS (q_leS (q_leS q_le0)))))))))) (hK104 a4 a5 a6 a7 r10 x12 m11)
      · refine qr_goto (tgt := 185) o (q_dm dm_X12_cheapest 71 rfl) (by decide) ?_
        refine qs_iincl2 (L' := fun x13 => [some (.inr (some 77)), none, none, none, some (.inl a4), some (.inl a5), some (.inl a6), some (.inl a7), some (.inl a8), some (.inl x13)]) o (q_dm dm_X12_cheapest 94 rfl) rfl ic_1 (Nat.le_of_ble_eq_true rfl) (fun _ => rfl) (fun x13 => ?_)
        refine qr_goto (tgt := 104) o (q_dm dm_X12_cheapest 95 rfl) (by decide) ?_
        exact qr_loc (q_leS (q_leN (q_leN (q_leN (q_leS (q_leS (q_leS (q_leS (q_leS (q_leS q_le0)))))))))) (hK104 a4 a5 a6 a7 a8 x13 m3)
    · refine qr_goto (tgt := 185) o (q_dm dm_X12_cheapest 63 rfl) (by decide) ?_
      refine qs_iincl2 (L' := fun x14 => [some (.inr (some 77)), none, none, none, some (.inl a4), some (.inl a5), some (.inl a6), some (.inl a7), some (.inl a8), some (.inl x14)]) o (q_dm dm_X12_cheapest 94 rfl) rfl ic_1 (Nat.le_of_ble_eq_true rfl) (fun _ => rfl) (fun x14 => ?_)
      refine qr_goto (tgt := 104) o (q_dm dm_X12_cheapest 95 rfl) (by decide) ?_
      exact qr_loc (q_leS (q_leN (q_leN (q_leN (q_leS (q_leS (q_leS (q_leS (q_leS (q_leS q_le0)))))))))) (hK104 a4 a5 a6 a7 a8 x14 M)

def f_X12_cheapest_104 (n : Nat) : Nat → Int32 → Int32 → Int32 → Int32 → Int32 → Int32 → qM → qR
  | 0, _, _, _, _, _, _, _ => none
  | m + 1, a4, a5, a6, a7, a8, a9, M => b_X12_cheapest_104 n (f_X12_cheapest_104 n m) a4 a5 a6 a7 a8 a9 M
theorem w_X12_cheapest_104 {g : qG} {k : qK} (n : Nat) (j r : Nat) (hj : q_isLaw j) (hr : q_isLaw r) (o : qOk g 5 zX12_cheapest k) : ∀ (m : Nat) (a4 a5 a6 a7 a8 a9 : Int32) (M : qM), qAE g k zX12_cheapest (qL j r) 104 [some (.inr (some 77)), none, none, none, some (.inl a4), some (.inl a5), some (.inl a6), some (.inl a7), some (.inl a8), some (.inl a9)] [] (qL j r, M) (f_X12_cheapest_104 n m a4 a5 a6 a7 a8 a9 M) := by
  intro m
  induction m with
  | zero =>
    intro a4 a5 a6 a7 a8 a9 M
    exact qr_none
  | succ m ih =>
    intro a4 a5 a6 a7 a8 a9 M
    exact wb_X12_cheapest_104 n j r hj hr o (f_X12_cheapest_104 n m) ih a4 a5 a6 a7 a8 a9 M
def b_X12_cheapest_43 (n : Nat) (K43 : Int32 → Int32 → Int32 → Int32 → Int32 → qM → qR) (a1 a3 a4 a5 a6 : Int32) (M : qM) : qR :=
  (if (M 77 43) ≤ a6 then qc (f_X12_statesAll n  M) (fun r1 m2 => qc (f_X12_placeOf n a3 m2) (fun r3 m4 => qc (f_X12_marksBought n r1 m4) (fun _ m5 => f_X12_cheapest_104 n n a4 a5 r1 r3 (1000000000 : Int32) (0 : Int32) m5))) else qg a6 4 (qc (f_X12_leastPrice n a1 (M 105 a6.toNatClampNeg) M) (fun r6 m7 => qg a6 4 (qlm (mu m7 109 a6.toNatClampNeg r6) (fun m8 => ql (a6 + (1 : Int32)) (fun x9 => K43 a1 a3 a4 a5 x9 m8))))))
set_option maxRecDepth 4000 in
theorem wb_X12_cheapest_43 {g : qG} {k : qK} (n : Nat) (j r : Nat) (hj : q_isLaw j) (hr : q_isLaw r) (o : qOk g 5 zX12_cheapest k) (K43 : Int32 → Int32 → Int32 → Int32 → Int32 → qM → qR) (hK43 : ∀ (a1 a3 a4 a5 a6 : Int32) (M : qM), qAE g k zX12_cheapest (qL j r) 43 [some (.inr (some 77)), some (.inl a1), none, some (.inl a3), some (.inl a4), some (.inl a5), some (.inl a6), none, none, none] [] (qL j r, M) (K43 a1 a3 a4 a5 a6 M)) (a1 a3 a4 a5 a6 : Int32) (M : qM) : qAE g k zX12_cheapest (qL j r) 43 [some (.inr (some 77)), some (.inl a1), none, some (.inl a3), some (.inl a4), some (.inl a5), some (.inl a6), none, none, none] [] (qL j r, M) (b_X12_cheapest_43 n K43 a1 a3 a4 a5 a6 M) := by
  unfold b_X12_cheapest_43
  refine qr_iload o (q_dm dm_X12_cheapest 24 rfl) rfl ?_
  refine qr_aload_n o (q_dm dm_X12_cheapest 25 rfl) rfl ?_
  refine qr_getf (kf := 43) o cf_X12 (sh77 j r) rfl (Nat.le_of_ble_eq_true rfl) fl_X12_365 (q_dm dm_X12_cheapest 26 rfl) ?_
  refine qr_icmp_ge (tgt := 77) o (q_dm dm_X12_cheapest 27 rfl) (by decide) ?_ ?_
  · refine qr_aload_n o (q_dm dm_X12_cheapest 41 rfl) rfl ?_
    refine qr_callv_i (As := []) (S := []) o (a_X12_statesAll g k.2.1 n j r hj hr  M) (Nat.le_of_ble_eq_true rfl) zv_X12_statesAll rfl cf_X12 (sh77 j r) ml_X12_392 (Nat.le_of_ble_eq_true rfl) (q_dm dm_X12_cheapest 42 rfl) (fun r1 m2 => ?_)
    refine qs_istore (L' := [some (.inr (some 77)), some (.inl a1), none, some (.inl a3), some (.inl a4), some (.inl a5), some (.inl r1), none, none, none]) o (q_dm dm_X12_cheapest 43 rfl) (Nat.le_of_ble_eq_true rfl) rfl ?_
    refine qr_aload_n o (q_dm dm_X12_cheapest 44 rfl) rfl ?_
    refine qr_iload_n o (q_dm dm_X12_cheapest 45 rfl) rfl ?_
    refine qr_callv_i (As := [.inl a3]) (S := []) o (a_X12_placeOf g k.2.1 n j r hj hr a3 m2) (Nat.le_of_ble_eq_true rfl) zv_X12_placeOf rfl cf_X12 (sh77 j r) ml_X12_395 (Nat.le_of_ble_eq_true rfl) (q_dm dm_X12_cheapest 46 rfl) (fun r3 m4 => ?_)
    refine qs_istore (L' := [some (.inr (some 77)), some (.inl a1), none, some (.inl a3), some (.inl a4), some (.inl a5), some (.inl r1), some (.inl r3), none, none]) o (q_dm dm_X12_cheapest 47 rfl) (Nat.le_of_ble_eq_true rfl) rfl ?_
    refine qr_ldc_w o (q_dm dm_X12_cheapest 48 rfl) kc_X12_398 ?_
    refine qs_istore (L' := [some (.inr (some 77)), some (.inl a1), none, some (.inl a3), some (.inl a4), some (.inl a5), some (.inl r1), some (.inl r3), some (.inl (1000000000 : Int32)), none]) o (q_dm dm_X12_cheapest 49 rfl) (Nat.le_of_ble_eq_true rfl) rfl ?_
    refine qr_aload_n o (q_dm dm_X12_cheapest 50 rfl) rfl ?_
    refine qr_iload o (q_dm dm_X12_cheapest 51 rfl) rfl ?_
    refine qr_callv_v (As := [.inl r1]) (S := []) o (a_X12_marksBought g k.2.1 n j r hj hr r1 m4) (Nat.le_of_ble_eq_true rfl) zv_X12_marksBought rfl cf_X12 (sh77 j r) ml_X12_414 (Nat.le_of_ble_eq_true rfl) (q_dm dm_X12_cheapest 52 rfl) (fun _ m5 => ?_)
    refine qr_iconst o (q_dm dm_X12_cheapest 53 rfl) ic_0 ?_
    refine qs_istore (L' := [some (.inr (some 77)), some (.inl a1), none, some (.inl a3), some (.inl a4), some (.inl a5), some (.inl r1), some (.inl r3), some (.inl (1000000000 : Int32)), some (.inl (0 : Int32))]) o (q_dm dm_X12_cheapest 54 rfl) (Nat.le_of_ble_eq_true rfl) rfl ?_
    exact qr_loc (q_leS (q_leN (q_leN (q_leN (q_leS (q_leS (q_leS (q_leS (q_leS (q_leS q_le0)))))))))) (w_X12_cheapest_104 n j r hj hr o n a4 a5 r1 r3 (1000000000 : Int32) (0 : Int32) m5)
  · refine qr_aload_n o (q_dm dm_X12_cheapest 28 rfl) rfl ?_
    refine qr_getr (kf := 52) o cf_X12 (sh77 j r) rfl (Nat.le_of_ble_eq_true rfl) fl_X12_104 (q_dm dm_X12_cheapest 29 rfl) ?_
    refine qr_iload o (q_dm dm_X12_cheapest 30 rfl) rfl ?_
    refine qr_aload_n o (q_dm dm_X12_cheapest 31 rfl) rfl ?_
    refine qr_iload_n o (q_dm dm_X12_cheapest 32 rfl) rfl ?_
    refine qr_aload_n o (q_dm dm_X12_cheapest 33 rfl) rfl ?_
    refine qr_getr (kf := 48) o cf_X12 (sh77 j r) rfl (Nat.le_of_ble_eq_true rfl) fl_X12_92 (q_dm dm_X12_cheapest 34 rfl) ?_
    refine qr_iload o (q_dm dm_X12_cheapest 35 rfl) rfl ?_
    refine qr_iald o (sh105 j r) (q_dm dm_X12_cheapest 36 rfl) ?_
    refine qr_callv_i (As := [.inl a1, .inl (M 105 a6.toNatClampNeg)]) (S := [.inl a6, .inr (some 109)]) o (a_X12_leastPrice g k.2.1 n j r hj hr a1 (M 105 a6.toNatClampNeg) M) (Nat.le_of_ble_eq_true rfl) zv_X12_leastPrice rfl cf_X12 (sh77 j r) ml_X12_411 (Nat.le_of_ble_eq_true rfl) (q_dm dm_X12_cheapest 37 rfl) (fun r6 m7 => ?_)
    refine qr_iast o (sh109 j r) (q_dm dm_X12_cheapest 38 rfl) ?_
    refine qr_letm (fun m8 => ?_)
    refine qs_iincl2 (L' := fun x9 => [some (.inr (some 77)), some (.inl a1), none, some (.inl a3), some (.inl a4), some (.inl a5), some (.inl x9), none, none, none]) o (q_dm dm_X12_cheapest 39 rfl) rfl ic_1 (Nat.le_of_ble_eq_true rfl) (fun _ => rfl) (fun x9 => ?_)
    refine qr_goto (tgt := 43) o (q_dm dm_X12_cheapest 40 rfl) (by decide) ?_
    exact qr_loc (q_leS (q_leS (q_leN (q_leS (q_leS (q_leS (q_leS (q_leN (q_leN (q_leN q_le0)))))))))) (hK43 a1 a3 a4 a5 x9 m8)

def f_X12_cheapest_43 (n : Nat) : Nat → Int32 → Int32 → Int32 → Int32 → Int32 → qM → qR
  | 0, _, _, _, _, _, _ => none
  | m + 1, a1, a3, a4, a5, a6, M => b_X12_cheapest_43 n (f_X12_cheapest_43 n m) a1 a3 a4 a5 a6 M
theorem w_X12_cheapest_43 {g : qG} {k : qK} (n : Nat) (j r : Nat) (hj : q_isLaw j) (hr : q_isLaw r) (o : qOk g 5 zX12_cheapest k) : ∀ (m : Nat) (a1 a3 a4 a5 a6 : Int32) (M : qM), qAE g k zX12_cheapest (qL j r) 43 [some (.inr (some 77)), some (.inl a1), none, some (.inl a3), some (.inl a4), some (.inl a5), some (.inl a6), none, none, none] [] (qL j r, M) (f_X12_cheapest_43 n m a1 a3 a4 a5 a6 M) := by
  intro m
  induction m with
  | zero =>
    intro a1 a3 a4 a5 a6 M
    exact qr_none
  | succ m ih =>
    intro a1 a3 a4 a5 a6 M
    exact wb_X12_cheapest_43 n j r hj hr o (f_X12_cheapest_43 n m) ih a1 a3 a4 a5 a6 M
def f_X12_cheapest (n : Nat) (a1 a2 a3 a4 a5 : Int32) (M : qM) : qR :=
  qc (f_X12_areSome n a1 a2 a3 M) (fun r1 m2 => (if r1 = (0 : Int32) then some ((-1 : Int32), m2) else qc (f_X12_in n a4 (0 : Int32) (200 : Int32) m2) (fun r3 m4 => (if r3 = (0 : Int32) then some ((-1 : Int32), m4) else qc (f_X12_in n a5 (0 : Int32) (1 : Int32) m4) (fun r5 m6 => (if r5 = (0 : Int32) then some ((-1 : Int32), m6) else qc (f_X12_laysOwn n a1 a2 m6) (fun _ m7 => f_X12_cheapest_43 n n a1 a3 a4 a5 (0 : Int32) m7)))))))
set_option maxRecDepth 4000 in
theorem w_X12_cheapest {g : qG} {k : qK} (n : Nat) (j r : Nat) (hj : q_isLaw j) (hr : q_isLaw r) (o : qOk g 5 zX12_cheapest k) (a1 a2 a3 a4 a5 : Int32) (M : qM) : qAE g k zX12_cheapest (qL j r) 0 [some (.inr (some 77)), some (.inl a1), some (.inl a2), some (.inl a3), some (.inl a4), some (.inl a5), none, none, none, none] [] (qL j r, M) (f_X12_cheapest n a1 a2 a3 a4 a5 M) := by
  unfold f_X12_cheapest
  refine qr_aload_n o (q_dm dm_X12_cheapest 0 rfl) rfl ?_
  refine qr_iload_n o (q_dm dm_X12_cheapest 1 rfl) rfl ?_
  refine qr_iload_n o (q_dm dm_X12_cheapest 2 rfl) rfl ?_
  refine qr_iload_n o (q_dm dm_X12_cheapest 3 rfl) rfl ?_
  refine qr_callv_i (As := [.inl a1, .inl a2, .inl a3]) (S := []) o (a_X12_areSome g k.2.1 n j r hj hr a1 a2 a3 M) (Nat.le_of_ble_eq_true rfl) zv_X12_areSome rfl cf_X12 (sh77 j r) ml_X12_386 (Nat.le_of_ble_eq_true rfl) (q_dm dm_X12_cheapest 4 rfl) (fun r1 m2 => ?_)
  refine qr_if_eq (tgt := 32) o (q_dm dm_X12_cheapest 5 rfl) (by decide) ?_ ?_
  · refine qr_iconst o (q_dm dm_X12_cheapest 16 rfl) ic_m1 ?_
    exact qr_iret o rfl rfl (q_dm dm_X12_cheapest 17 rfl)
  · refine qr_iload o (q_dm dm_X12_cheapest 6 rfl) rfl ?_
    refine qr_iconst o (q_dm dm_X12_cheapest 7 rfl) ic_0 ?_
    refine qr_sipush o (q_dm dm_X12_cheapest 8 rfl) si_200 ?_
    refine qr_calls_i (As := [.inl a4, .inl (0 : Int32), .inl (200 : Int32)]) (S := []) o (a_X12_in g k.2.1 n j r hj hr a4 (0 : Int32) (200 : Int32) m2) (Nat.le_of_ble_eq_true rfl) zs_X12_in rfl ml_X12_153 (Nat.le_of_ble_eq_true rfl) (q_dm dm_X12_cheapest 9 rfl) (fun r3 m4 => ?_)
    refine qr_if_eq (tgt := 32) o (q_dm dm_X12_cheapest 10 rfl) (by decide) ?_ ?_
    · refine qr_iconst o (q_dm dm_X12_cheapest 16 rfl) ic_m1 ?_
      exact qr_iret o rfl rfl (q_dm dm_X12_cheapest 17 rfl)
    · refine qr_iload o (q_dm dm_X12_cheapest 11 rfl) rfl ?_
      refine qr_iconst o (q_dm dm_X12_cheapest 12 rfl) ic_0 ?_
      refine qr_iconst o (q_dm dm_X12_cheapest 13 rfl) ic_1 ?_
      refine qr_calls_i (As := [.inl a5, .inl (0 : Int32), .inl (1 : Int32)]) (S := []) o (a_X12_in g k.2.1 n j r hj hr a5 (0 : Int32) (1 : Int32) m4) (Nat.le_of_ble_eq_true rfl) zs_X12_in rfl ml_X12_153 (Nat.le_of_ble_eq_true rfl) (q_dm dm_X12_cheapest 14 rfl) (fun r5 m6 => ?_)
      refine qr_if_ne (tgt := 34) o (q_dm dm_X12_cheapest 15 rfl) (by decide) ?_ ?_
      · refine qr_aload_n o (q_dm dm_X12_cheapest 18 rfl) rfl ?_
        refine qr_iload_n o (q_dm dm_X12_cheapest 19 rfl) rfl ?_
        refine qr_iload_n o (q_dm dm_X12_cheapest 20 rfl) rfl ?_
        refine qr_callv_v (As := [.inl a1, .inl a2]) (S := []) o (a_X12_laysOwn g k.2.1 n j r hj hr a1 a2 m6) (Nat.le_of_ble_eq_true rfl) zv_X12_laysOwn rfl cf_X12 (sh77 j r) ml_X12_389 (Nat.le_of_ble_eq_true rfl) (q_dm dm_X12_cheapest 21 rfl) (fun _ m7 => ?_)
        refine qr_iconst o (q_dm dm_X12_cheapest 22 rfl) ic_0 ?_
        refine qs_istore (L' := [some (.inr (some 77)), some (.inl a1), some (.inl a2), some (.inl a3), some (.inl a4), some (.inl a5), some (.inl (0 : Int32)), none, none, none]) o (q_dm dm_X12_cheapest 23 rfl) (Nat.le_of_ble_eq_true rfl) rfl ?_
        exact qr_loc (q_leS (q_leS (q_leN (q_leS (q_leS (q_leS (q_leS (q_leN (q_leN (q_leN q_le0)))))))))) (w_X12_cheapest_43 n j r hj hr o n a1 a3 a4 a5 (0 : Int32) m7)
      · refine qr_iconst o (q_dm dm_X12_cheapest 16 rfl) ic_m1 ?_
        exact qr_iret o rfl rfl (q_dm dm_X12_cheapest 17 rfl)

theorem a_X12_cheapest (g : qG) (l : Launch) (n : Nat) (j r : Nat) (hj : q_isLaw j) (hr : q_isLaw r) (a1 a2 a3 a4 a5 : Int32) (M : qM) : qAM g l 5 zX12_cheapest (qL j r) [.inr (some 77), .inl a1, .inl a2, .inl a3, .inl a4, .inl a5] (qL j r, M) (f_X12_cheapest n a1 a2 a3 a4 a5 M) :=
  qAM.of zv_X12_cheapest.1 (by show 6 ≤ 10; decide) (fun k hk o => w_X12_cheapest n j r hj hr o a1 a2 a3 a4 a5 M)
def tb_X12_tapeNumber : List (Nat × Instr × Nat) := [(0, (.iconst 0, 1)), (1, (.istore_n 2, 1)), (2, (.iconst 4, 1)), (3, (.iload_n 1, 1)), (4, (.imul, 1)), (5, (.istore_n 3, 1)), (6, (.iload_n 3, 1)), (7, (.iconst 4, 1)), (8, (.iload_n 1, 1)), (9, (.imul, 1)), (10, (.iconst 4, 1)), (11, (.iadd, 1)), (12, (.if_icmp .ge 25, 3)), (15, (.iload_n 2, 1)), (16, (.bipush 8, 2)), (18, (.ishl, 1)), (19, (.aload_n 0, 1)), (20, (.getfield 28, 3)), (23, (.iload_n 3, 1)), (24, (.baload, 1)), (25, (.sipush 255, 3)), (28, (.iand, 1)), (29, (.ior, 1)), (30, (.istore_n 2, 1)), (31, (.iinc 3 1, 3)), (34, (.goto (-28), 3)), (37, (.iload_n 2, 1)), (38, (.ireturn, 1))]
theorem dm_X12_tapeNumber : ∀ q ∈ tb_X12_tapeNumber, decode zX12_tapeNumber.2.1 q.1 = .ok q.2 := by decide +kernel
def b_X12_tapeNumber_6 (n : Nat) (K6 : Int32 → Int32 → Int32 → qM → qR) (a1 a2 a3 : Int32) (M : qM) : qR :=
  (if (((4 : Int32) * a1) + (4 : Int32)) ≤ a3 then some (a2, M) else qg a3 260 (ql ((a2 <<< ((8 : Int32) &&& 31)) ||| ((M 84 a3.toNatClampNeg) &&& (255 : Int32))) (fun x1 => ql (a3 + (1 : Int32)) (fun x2 => K6 a1 x1 x2 M))))
set_option maxRecDepth 4000 in
theorem wb_X12_tapeNumber_6 {g : qG} {k : qK} (n : Nat) (j r : Nat) (hj : q_isLaw j) (hr : q_isLaw r) (o : qOk g 0 zX12_tapeNumber k) (K6 : Int32 → Int32 → Int32 → qM → qR) (hK6 : ∀ (a1 a2 a3 : Int32) (M : qM), qAE g k zX12_tapeNumber (qL j r) 6 [some (.inr (some 77)), some (.inl a1), some (.inl a2), some (.inl a3)] [] (qL j r, M) (K6 a1 a2 a3 M)) (a1 a2 a3 : Int32) (M : qM) : qAE g k zX12_tapeNumber (qL j r) 6 [some (.inr (some 77)), some (.inl a1), some (.inl a2), some (.inl a3)] [] (qL j r, M) (b_X12_tapeNumber_6 n K6 a1 a2 a3 M) := by
  unfold b_X12_tapeNumber_6
  refine qr_iload_n o (q_dm dm_X12_tapeNumber 6 rfl) rfl ?_
  refine qr_iconst o (q_dm dm_X12_tapeNumber 7 rfl) ic_4 ?_
  refine qr_iload_n o (q_dm dm_X12_tapeNumber 8 rfl) rfl ?_
  refine qr_imul o (q_dm dm_X12_tapeNumber 9 rfl) ?_
  refine qr_iconst o (q_dm dm_X12_tapeNumber 10 rfl) ic_4 ?_
  refine qr_iadd o (q_dm dm_X12_tapeNumber 11 rfl) ?_
  refine qr_icmp_ge (tgt := 37) o (q_dm dm_X12_tapeNumber 12 rfl) (by decide) ?_ ?_
  · refine qr_iload_n o (q_dm dm_X12_tapeNumber 26 rfl) rfl ?_
    exact qr_iret o rfl rfl (q_dm dm_X12_tapeNumber 27 rfl)
  · refine qr_iload_n o (q_dm dm_X12_tapeNumber 13 rfl) rfl ?_
    refine qr_bipush o (q_dm dm_X12_tapeNumber 14 rfl) bi_8 ?_
    refine qr_ishl o (q_dm dm_X12_tapeNumber 15 rfl) ?_
    refine qr_aload_n o (q_dm dm_X12_tapeNumber 16 rfl) rfl ?_
    refine qr_getr (kf := 7) o cf_X12 (sh77 j r) rfl (Nat.le_of_ble_eq_true rfl) fl_X12_28 (q_dm dm_X12_tapeNumber 17 rfl) ?_
    refine qr_iload_n o (q_dm dm_X12_tapeNumber 18 rfl) rfl ?_
    refine qr_bald o (sh84 j r) (q_dm dm_X12_tapeNumber 19 rfl) ?_
    refine qr_sipush o (q_dm dm_X12_tapeNumber 20 rfl) si_255 ?_
    refine qr_iand o (q_dm dm_X12_tapeNumber 21 rfl) ?_
    refine qr_ior o (q_dm dm_X12_tapeNumber 22 rfl) ?_
    refine qr_lt (fun x1 => ?_)
    refine qs_istore_n (L' := [some (.inr (some 77)), some (.inl a1), some (.inl x1), some (.inl a3)]) o (q_dm dm_X12_tapeNumber 23 rfl) (Nat.le_of_ble_eq_true rfl) rfl ?_
    refine qs_iincl2 (L' := fun x2 => [some (.inr (some 77)), some (.inl a1), some (.inl x1), some (.inl x2)]) o (q_dm dm_X12_tapeNumber 24 rfl) rfl ic_1 (Nat.le_of_ble_eq_true rfl) (fun _ => rfl) (fun x2 => ?_)
    refine qr_goto (tgt := 6) o (q_dm dm_X12_tapeNumber 25 rfl) (by decide) ?_
    exact qr_loc (q_leS (q_leS (q_leS (q_leS q_le0)))) (hK6 a1 x1 x2 M)

def f_X12_tapeNumber_6 (n : Nat) : Nat → Int32 → Int32 → Int32 → qM → qR
  | 0, _, _, _, _ => none
  | m + 1, a1, a2, a3, M => b_X12_tapeNumber_6 n (f_X12_tapeNumber_6 n m) a1 a2 a3 M
theorem w_X12_tapeNumber_6 {g : qG} {k : qK} (n : Nat) (j r : Nat) (hj : q_isLaw j) (hr : q_isLaw r) (o : qOk g 0 zX12_tapeNumber k) : ∀ (m : Nat) (a1 a2 a3 : Int32) (M : qM), qAE g k zX12_tapeNumber (qL j r) 6 [some (.inr (some 77)), some (.inl a1), some (.inl a2), some (.inl a3)] [] (qL j r, M) (f_X12_tapeNumber_6 n m a1 a2 a3 M) := by
  intro m
  induction m with
  | zero =>
    intro a1 a2 a3 M
    exact qr_none
  | succ m ih =>
    intro a1 a2 a3 M
    exact wb_X12_tapeNumber_6 n j r hj hr o (f_X12_tapeNumber_6 n m) ih a1 a2 a3 M
def f_X12_tapeNumber (n : Nat) (a1 : Int32) (M : qM) : qR :=
  ql ((4 : Int32) * a1) (fun x1 => f_X12_tapeNumber_6 n n a1 (0 : Int32) x1 M)
set_option maxRecDepth 4000 in
theorem w_X12_tapeNumber {g : qG} {k : qK} (n : Nat) (j r : Nat) (hj : q_isLaw j) (hr : q_isLaw r) (o : qOk g 0 zX12_tapeNumber k) (a1 : Int32) (M : qM) : qAE g k zX12_tapeNumber (qL j r) 0 [some (.inr (some 77)), some (.inl a1), none, none] [] (qL j r, M) (f_X12_tapeNumber n a1 M) := by
  unfold f_X12_tapeNumber
  refine qr_iconst o (q_dm dm_X12_tapeNumber 0 rfl) ic_0 ?_
  refine qs_istore_n (L' := [some (.inr (some 77)), some (.inl a1), some (.inl (0 : Int32)), none]) o (q_dm dm_X12_tapeNumber 1 rfl) (Nat.le_of_ble_eq_true rfl) rfl ?_
  refine qr_iconst o (q_dm dm_X12_tapeNumber 2 rfl) ic_4 ?_
  refine qr_iload_n o (q_dm dm_X12_tapeNumber 3 rfl) rfl ?_
  refine qr_imul o (q_dm dm_X12_tapeNumber 4 rfl) ?_
  refine qr_lt (fun x1 => ?_)
  refine qs_istore_n (L' := [some (.inr (some 77)), some (.inl a1), some (.inl (0 : Int32)), some (.inl x1)]) o (q_dm dm_X12_tapeNumber 5 rfl) (Nat.le_of_ble_eq_true rfl) rfl ?_
  exact qr_loc (q_leS (q_leS (q_leS (q_leS q_le0)))) (w_X12_tapeNumber_6 n j r hj hr o n a1 (0 : Int32) x1 M)

theorem a_X12_tapeNumber (g : qG) (l : Launch) (n : Nat) (j r : Nat) (hj : q_isLaw j) (hr : q_isLaw r) (a1 : Int32) (M : qM) : qAM g l 0 zX12_tapeNumber (qL j r) [.inr (some 77), .inl a1] (qL j r, M) (f_X12_tapeNumber n a1 M) :=
  qAM.of zv_X12_tapeNumber.1 (by show 2 ≤ 4; decide) (fun k hk o => w_X12_tapeNumber n j r hj hr o a1 M)
def tb_X12_check : List (Nat × Instr × Nat) := [(0, (.aload_n 0, 1)), (1, (.iload_n 1, 1)), (2, (.invokevirtual 310, 3)), (5, (.ifCond .eq 23, 3)), (8, (.iload_n 2, 1)), (9, (.iconst 0, 1)), (10, (.bipush 12, 2)), (12, (.invokestatic 153, 3)), (15, (.ifCond .eq 13, 3)), (18, (.iload_n 2, 1)), (19, (.aload_n 0, 1)), (20, (.getfield 162, 3)), (23, (.iconst 4, 1)), (24, (.idiv, 1)), (25, (.if_icmp .le 6, 3)), (28, (.bipush (-2), 2)), (30, (.ireturn, 1)), (31, (.aload_n 0, 1)), (32, (.iconst 0, 1)), (33, (.putfield 162, 3)), (36, (.iconst 0, 1)), (37, (.istore_n 3, 1)), (38, (.iload_n 3, 1)), (39, (.iload_n 2, 1)), (40, (.if_icmp .ge 31, 3)), (43, (.aload_n 0, 1)), (44, (.iload_n 3, 1)), (45, (.invokevirtual 493, 3)), (48, (.aload_n 0, 1)), (49, (.getfield 7, 3)), (52, (.iconst 0, 1)), (53, (.iload_n 1, 1)), (54, (.iload_n 3, 1)), (55, (.invokestatic 282, 3)), (58, (.iadd, 1)), (59, (.iaload, 1)), (60, (.if_icmp .eq 5, 3)), (63, (.iload_n 3, 1)), (64, (.ireturn, 1)), (65, (.iinc 3 1, 3)), (68, (.goto (-30), 3)), (71, (.iconst (-1), 1)), (72, (.ireturn, 1))]
theorem dm_X12_check : ∀ q ∈ tb_X12_check, decode zX12_check.2.1 q.1 = .ok q.2 := by decide +kernel
def b_X12_check_38 (n : Nat) (K38 : Int32 → Int32 → Int32 → qM → qR) (a1 a2 a3 : Int32) (M : qM) : qR :=
  (if a2 ≤ a3 then some ((-1 : Int32), M) else qc (f_X12_tapeNumber n a3 M) (fun r1 m2 => qc (f_X12_at n a1 a3 m2) (fun r3 m4 => qg ((0 : Int32) + r3) 954 ((if r1 = (m4 78 ((0 : Int32) + r3).toNatClampNeg) then ql (a3 + (1 : Int32)) (fun x5 => K38 a1 a2 x5 m4) else some (a3, m4))))))
set_option maxRecDepth 4000 in
theorem wb_X12_check_38 {g : qG} {k : qK} (n : Nat) (j r : Nat) (hj : q_isLaw j) (hr : q_isLaw r) (o : qOk g 2 zX12_check k) (K38 : Int32 → Int32 → Int32 → qM → qR) (hK38 : ∀ (a1 a2 a3 : Int32) (M : qM), qAE g k zX12_check (qL j r) 38 [some (.inr (some 77)), some (.inl a1), some (.inl a2), some (.inl a3)] [] (qL j r, M) (K38 a1 a2 a3 M)) (a1 a2 a3 : Int32) (M : qM) : qAE g k zX12_check (qL j r) 38 [some (.inr (some 77)), some (.inl a1), some (.inl a2), some (.inl a3)] [] (qL j r, M) (b_X12_check_38 n K38 a1 a2 a3 M) := by
  unfold b_X12_check_38
  refine qr_iload_n o (q_dm dm_X12_check 22 rfl) rfl ?_
  refine qr_iload_n o (q_dm dm_X12_check 23 rfl) rfl ?_
  refine qr_icmp_ge (tgt := 71) o (q_dm dm_X12_check 24 rfl) (by decide) ?_ ?_
  · refine qr_iconst o (q_dm dm_X12_check 41 rfl) ic_m1 ?_
    exact qr_iret o rfl rfl (q_dm dm_X12_check 42 rfl)
  · refine qr_aload_n o (q_dm dm_X12_check 25 rfl) rfl ?_
    refine qr_iload_n o (q_dm dm_X12_check 26 rfl) rfl ?_
    refine qr_callv_i (As := [.inl a3]) (S := []) o (a_X12_tapeNumber g k.2.1 n j r hj hr a3 M) (Nat.le_of_ble_eq_true rfl) zv_X12_tapeNumber rfl cf_X12 (sh77 j r) ml_X12_493 (Nat.le_of_ble_eq_true rfl) (q_dm dm_X12_check 27 rfl) (fun r1 m2 => ?_)
    refine qr_aload_n o (q_dm dm_X12_check 28 rfl) rfl ?_
    refine qr_getr (kf := 0) o cf_X12 (sh77 j r) rfl (Nat.le_of_ble_eq_true rfl) fl_X12_7 (q_dm dm_X12_check 29 rfl) ?_
    refine qr_iconst o (q_dm dm_X12_check 30 rfl) ic_0 ?_
    refine qr_iload_n o (q_dm dm_X12_check 31 rfl) rfl ?_
    refine qr_iload_n o (q_dm dm_X12_check 32 rfl) rfl ?_
    refine qr_calls_i (As := [.inl a1, .inl a3]) (S := [.inl (0 : Int32), .inr (some 78), .inl r1]) o (a_X12_at g k.2.1 n j r hj hr a1 a3 m2) (Nat.le_of_ble_eq_true rfl) zs_X12_at rfl ml_X12_282 (Nat.le_of_ble_eq_true rfl) (q_dm dm_X12_check 33 rfl) (fun r3 m4 => ?_)
    refine qr_iadd o (q_dm dm_X12_check 34 rfl) ?_
    refine qr_iald o (sh78 j r) (q_dm dm_X12_check 35 rfl) ?_
    refine qr_icmp_eq (tgt := 65) o (q_dm dm_X12_check 36 rfl) (by decide) ?_ ?_
    · refine qs_iincl2 (L' := fun x5 => [some (.inr (some 77)), some (.inl a1), some (.inl a2), some (.inl x5)]) o (q_dm dm_X12_check 39 rfl) rfl ic_1 (Nat.le_of_ble_eq_true rfl) (fun _ => rfl) (fun x5 => ?_)
      refine qr_goto (tgt := 38) o (q_dm dm_X12_check 40 rfl) (by decide) ?_
      exact qr_loc (q_leS (q_leS (q_leS (q_leS q_le0)))) (hK38 a1 a2 x5 m4)
    · refine qr_iload_n o (q_dm dm_X12_check 37 rfl) rfl ?_
      exact qr_iret o rfl rfl (q_dm dm_X12_check 38 rfl)

def f_X12_check_38 (n : Nat) : Nat → Int32 → Int32 → Int32 → qM → qR
  | 0, _, _, _, _ => none
  | m + 1, a1, a2, a3, M => b_X12_check_38 n (f_X12_check_38 n m) a1 a2 a3 M
theorem w_X12_check_38 {g : qG} {k : qK} (n : Nat) (j r : Nat) (hj : q_isLaw j) (hr : q_isLaw r) (o : qOk g 2 zX12_check k) : ∀ (m : Nat) (a1 a2 a3 : Int32) (M : qM), qAE g k zX12_check (qL j r) 38 [some (.inr (some 77)), some (.inl a1), some (.inl a2), some (.inl a3)] [] (qL j r, M) (f_X12_check_38 n m a1 a2 a3 M) := by
  intro m
  induction m with
  | zero =>
    intro a1 a2 a3 M
    exact qr_none
  | succ m ih =>
    intro a1 a2 a3 M
    exact wb_X12_check_38 n j r hj hr o (f_X12_check_38 n m) ih a1 a2 a3 M
def f_X12_check (n : Nat) (a1 a2 : Int32) (M : qM) : qR :=
  qc (f_X12_isPerson n a1 M) (fun r1 m2 => (if r1 = (0 : Int32) then some ((-2 : Int32), m2) else qc (f_X12_in n a2 (0 : Int32) (12 : Int32) m2) (fun r3 m4 => (if r3 = (0 : Int32) then some ((-2 : Int32), m4) else (if a2 ≤ ((m4 77 8) / (4 : Int32)) then qlm (mu m4 77 8 (0 : Int32)) (fun m5 => f_X12_check_38 n n a1 a2 (0 : Int32) m5) else some ((-2 : Int32), m4))))))
set_option maxRecDepth 4000 in
theorem w_X12_check {g : qG} {k : qK} (n : Nat) (j r : Nat) (hj : q_isLaw j) (hr : q_isLaw r) (o : qOk g 2 zX12_check k) (a1 a2 : Int32) (M : qM) : qAE g k zX12_check (qL j r) 0 [some (.inr (some 77)), some (.inl a1), some (.inl a2), none] [] (qL j r, M) (f_X12_check n a1 a2 M) := by
  unfold f_X12_check
  refine qr_aload_n o (q_dm dm_X12_check 0 rfl) rfl ?_
  refine qr_iload_n o (q_dm dm_X12_check 1 rfl) rfl ?_
  refine qr_callv_i (As := [.inl a1]) (S := []) o (a_X12_isPerson g k.2.1 n j r hj hr a1 M) (Nat.le_of_ble_eq_true rfl) zv_X12_isPerson rfl cf_X12 (sh77 j r) ml_X12_310 (Nat.le_of_ble_eq_true rfl) (q_dm dm_X12_check 2 rfl) (fun r1 m2 => ?_)
  refine qr_if_eq (tgt := 28) o (q_dm dm_X12_check 3 rfl) (by decide) ?_ ?_
  · refine qr_bipush o (q_dm dm_X12_check 15 rfl) bi_m2 ?_
    exact qr_iret o rfl rfl (q_dm dm_X12_check 16 rfl)
  · refine qr_iload_n o (q_dm dm_X12_check 4 rfl) rfl ?_
    refine qr_iconst o (q_dm dm_X12_check 5 rfl) ic_0 ?_
    refine qr_bipush o (q_dm dm_X12_check 6 rfl) bi_12 ?_
    refine qr_calls_i (As := [.inl a2, .inl (0 : Int32), .inl (12 : Int32)]) (S := []) o (a_X12_in g k.2.1 n j r hj hr a2 (0 : Int32) (12 : Int32) m2) (Nat.le_of_ble_eq_true rfl) zs_X12_in rfl ml_X12_153 (Nat.le_of_ble_eq_true rfl) (q_dm dm_X12_check 7 rfl) (fun r3 m4 => ?_)
    refine qr_if_eq (tgt := 28) o (q_dm dm_X12_check 8 rfl) (by decide) ?_ ?_
    · refine qr_bipush o (q_dm dm_X12_check 15 rfl) bi_m2 ?_
      exact qr_iret o rfl rfl (q_dm dm_X12_check 16 rfl)
    · refine qr_iload_n o (q_dm dm_X12_check 9 rfl) rfl ?_
      refine qr_aload_n o (q_dm dm_X12_check 10 rfl) rfl ?_
      refine qr_getf (kf := 8) o cf_X12 (sh77 j r) rfl (Nat.le_of_ble_eq_true rfl) fl_X12_162 (q_dm dm_X12_check 11 rfl) ?_
      refine qr_iconst o (q_dm dm_X12_check 12 rfl) ic_4 ?_
      refine qr_idivc o (q_dm dm_X12_check 13 rfl) (by decide) ?_
      refine qr_icmp_le (tgt := 31) o (q_dm dm_X12_check 14 rfl) (by decide) ?_ ?_
      · refine qr_aload_n o (q_dm dm_X12_check 17 rfl) rfl ?_
        refine qr_iconst o (q_dm dm_X12_check 18 rfl) ic_0 ?_
        refine qr_putf (kf := 8) o cf_X12 (sh77 j r) rfl (Nat.le_of_ble_eq_true rfl) fl_X12_162 rfl (by decide +kernel) (q_dm dm_X12_check 19 rfl) ?_
        refine qr_letm (fun m5 => ?_)
        refine qr_iconst o (q_dm dm_X12_check 20 rfl) ic_0 ?_
        refine qs_istore_n (L' := [some (.inr (some 77)), some (.inl a1), some (.inl a2), some (.inl (0 : Int32))]) o (q_dm dm_X12_check 21 rfl) (Nat.le_of_ble_eq_true rfl) rfl ?_
        exact qr_loc (q_leS (q_leS (q_leS (q_leS q_le0)))) (w_X12_check_38 n j r hj hr o n a1 a2 (0 : Int32) m5)
      · refine qr_bipush o (q_dm dm_X12_check 15 rfl) bi_m2 ?_
        exact qr_iret o rfl rfl (q_dm dm_X12_check 16 rfl)

theorem a_X12_check (g : qG) (l : Launch) (n : Nat) (j r : Nat) (hj : q_isLaw j) (hr : q_isLaw r) (a1 a2 : Int32) (M : qM) : qAM g l 2 zX12_check (qL j r) [.inr (some 77), .inl a1, .inl a2] (qL j r, M) (f_X12_check n a1 a2 M) :=
  qAM.of zv_X12_check.1 (by show 3 ≤ 4; decide) (fun k hk o => w_X12_check n j r hj hr o a1 a2 M)
def tb_X12_notes : List (Nat × Instr × Nat) := [(0, (.aload_n 0, 1)), (1, (.getfield 32, 3)), (4, (.aload_n 0, 1)), (5, (.getfield 192, 3)), (8, (.ldc 195, 2)), (10, (.iload_n 1, 1)), (11, (.imul, 1)), (12, (.iload_n 2, 1)), (13, (.iadd, 1)), (14, (.iastore, 1)), (15, (.aload_n 0, 1)), (16, (.aload_n 0, 1)), (17, (.getfield 192, 3)), (20, (.iconst 1, 1)), (21, (.iadd, 1)), (22, (.putfield 192, 3)), (25, (.return_, 1))]
theorem dm_X12_notes : ∀ q ∈ tb_X12_notes, decode zX12_notes.2.1 q.1 = .ok q.2 := by decide +kernel
def f_X12_notes (n : Nat) (a1 a2 : Int32) (M : qM) : qR :=
  qg (M 77 14) 260 (qlm (mu M 85 (M 77 14).toNatClampNeg (((1048576 : Int32) * a1) + a2)) (fun m1 => qlm (mu m1 77 14 ((m1 77 14) + (1 : Int32))) (fun m2 => some (0, m2))))
set_option maxRecDepth 4000 in
theorem w_X12_notes {g : qG} {k : qK} (n : Nat) (j r : Nat) (hj : q_isLaw j) (hr : q_isLaw r) (o : qOk g 0 zX12_notes k) (a1 a2 : Int32) (M : qM) : qAE g k zX12_notes (qL j r) 0 [some (.inr (some 77)), some (.inl a1), some (.inl a2)] [] (qL j r, M) (f_X12_notes n a1 a2 M) := by
  unfold f_X12_notes
  refine qr_aload_n o (q_dm dm_X12_notes 0 rfl) rfl ?_
  refine qr_getr (kf := 18) o cf_X12 (sh77 j r) rfl (Nat.le_of_ble_eq_true rfl) fl_X12_32 (q_dm dm_X12_notes 1 rfl) ?_
  refine qr_aload_n o (q_dm dm_X12_notes 2 rfl) rfl ?_
  refine qr_getf (kf := 14) o cf_X12 (sh77 j r) rfl (Nat.le_of_ble_eq_true rfl) fl_X12_192 (q_dm dm_X12_notes 3 rfl) ?_
  refine qr_ldc o (q_dm dm_X12_notes 4 rfl) kc_X12_195 ?_
  refine qr_iload_n o (q_dm dm_X12_notes 5 rfl) rfl ?_
  refine qr_imul o (q_dm dm_X12_notes 6 rfl) ?_
  refine qr_iload_n o (q_dm dm_X12_notes 7 rfl) rfl ?_
  refine qr_iadd o (q_dm dm_X12_notes 8 rfl) ?_
  refine qr_iast o (sh85 j r) (q_dm dm_X12_notes 9 rfl) ?_
  refine qr_letm (fun m1 => ?_)
  refine qr_aload_n o (q_dm dm_X12_notes 10 rfl) rfl ?_
  refine qr_aload_n o (q_dm dm_X12_notes 11 rfl) rfl ?_
  refine qr_getf (kf := 14) o cf_X12 (sh77 j r) rfl (Nat.le_of_ble_eq_true rfl) fl_X12_192 (q_dm dm_X12_notes 12 rfl) ?_
  refine qr_iconst o (q_dm dm_X12_notes 13 rfl) ic_1 ?_
  refine qr_iadd o (q_dm dm_X12_notes 14 rfl) ?_
  refine qr_putf (kf := 14) o cf_X12 (sh77 j r) rfl (Nat.le_of_ble_eq_true rfl) fl_X12_192 rfl (by decide +kernel) (q_dm dm_X12_notes 15 rfl) ?_
  refine qr_letm (fun m2 => ?_)
  exact qr_vret o rfl (q_dm dm_X12_notes 16 rfl)

theorem a_X12_notes (g : qG) (l : Launch) (n : Nat) (j r : Nat) (hj : q_isLaw j) (hr : q_isLaw r) (a1 a2 : Int32) (M : qM) : qAM g l 0 zX12_notes (qL j r) [.inr (some 77), .inl a1, .inl a2] (qL j r, M) (f_X12_notes n a1 a2 M) :=
  qAM.of zv_X12_notes.1 (by show 3 ≤ 3; decide) (fun k hk o => w_X12_notes n j r hj hr o a1 a2 M)
def tb_X12_waitTop : List (Nat × Instr × Nat) := [(0, (.aload_n 0, 1)), (1, (.getfield 199, 3)), (4, (.ifCond .ne 7, 3)), (7, (.iconst (-1), 1)), (8, (.goto 17, 3)), (11, (.aload_n 0, 1)), (12, (.getfield 35, 3)), (15, (.aload_n 0, 1)), (16, (.getfield 199, 3)), (19, (.iconst 1, 1)), (20, (.isub, 1)), (21, (.iaload, 1)), (22, (.ldc 195, 2)), (24, (.idiv, 1)), (25, (.ireturn, 1))]
theorem dm_X12_waitTop : ∀ q ∈ tb_X12_waitTop, decode zX12_waitTop.2.1 q.1 = .ok q.2 := by decide +kernel
def f_X12_waitTop (n : Nat) (M : qM) : qR :=
  (if (M 77 15) = (0 : Int32) then some ((-1 : Int32), M) else qg ((M 77 15) - (1 : Int32)) 260 (some (((M 86 ((M 77 15) - (1 : Int32)).toNatClampNeg) / (1048576 : Int32)), M)))
set_option maxRecDepth 4000 in
theorem w_X12_waitTop {g : qG} {k : qK} (n : Nat) (j r : Nat) (hj : q_isLaw j) (hr : q_isLaw r) (o : qOk g 0 zX12_waitTop k) (M : qM) : qAE g k zX12_waitTop (qL j r) 0 [some (.inr (some 77))] [] (qL j r, M) (f_X12_waitTop n  M) := by
  unfold f_X12_waitTop
  refine qr_aload_n o (q_dm dm_X12_waitTop 0 rfl) rfl ?_
  refine qr_getf (kf := 15) o cf_X12 (sh77 j r) rfl (Nat.le_of_ble_eq_true rfl) fl_X12_199 (q_dm dm_X12_waitTop 1 rfl) ?_
  refine qr_if_ne (tgt := 11) o (q_dm dm_X12_waitTop 2 rfl) (by decide) ?_ ?_
  · refine qr_aload_n o (q_dm dm_X12_waitTop 5 rfl) rfl ?_
    refine qr_getr (kf := 19) o cf_X12 (sh77 j r) rfl (Nat.le_of_ble_eq_true rfl) fl_X12_35 (q_dm dm_X12_waitTop 6 rfl) ?_
    refine qr_aload_n o (q_dm dm_X12_waitTop 7 rfl) rfl ?_
    refine qr_getf (kf := 15) o cf_X12 (sh77 j r) rfl (Nat.le_of_ble_eq_true rfl) fl_X12_199 (q_dm dm_X12_waitTop 8 rfl) ?_
    refine qr_iconst o (q_dm dm_X12_waitTop 9 rfl) ic_1 ?_
    refine qr_isub o (q_dm dm_X12_waitTop 10 rfl) ?_
    refine qr_iald o (sh86 j r) (q_dm dm_X12_waitTop 11 rfl) ?_
    refine qr_ldc o (q_dm dm_X12_waitTop 12 rfl) kc_X12_195 ?_
    refine qr_idivc o (q_dm dm_X12_waitTop 13 rfl) (by decide) ?_
    exact qr_iret o rfl rfl (q_dm dm_X12_waitTop 14 rfl)
  · refine qr_iconst o (q_dm dm_X12_waitTop 3 rfl) ic_m1 ?_
    refine qr_goto (tgt := 25) o (q_dm dm_X12_waitTop 4 rfl) (by decide) ?_
    exact qr_iret o rfl rfl (q_dm dm_X12_waitTop 14 rfl)

theorem a_X12_waitTop (g : qG) (l : Launch) (n : Nat) (j r : Nat) (hj : q_isLaw j) (hr : q_isLaw r) (M : qM) : qAM g l 0 zX12_waitTop (qL j r) [.inr (some 77)] (qL j r, M) (f_X12_waitTop n  M) :=
  qAM.of zv_X12_waitTop.1 (by show 1 ≤ 1; decide) (fun k hk o => w_X12_waitTop n j r hj hr o  M)
def tb_X12_closesSums : List (Nat × Instr × Nat) := [(0, (.aload_n 0, 1)), (1, (.invokevirtual 202, 3)), (4, (.iconst 4, 1)), (5, (.if_icmp .lt 12, 3)), (8, (.aload_n 0, 1)), (9, (.invokevirtual 202, 3)), (12, (.bipush 6, 2)), (14, (.if_icmp .le 23, 3)), (17, (.iload_n 1, 1)), (18, (.ifCond .eq 41, 3)), (21, (.aload_n 0, 1)), (22, (.invokevirtual 202, 3)), (25, (.iconst 2, 1)), (26, (.if_icmp .eq 11, 3)), (29, (.aload_n 0, 1)), (30, (.invokevirtual 202, 3)), (33, (.iconst 3, 1)), (34, (.if_icmp .ne 25, 3)), (37, (.aload_n 0, 1)), (38, (.aload_n 0, 1)), (39, (.invokevirtual 202, 3)), (42, (.iconst 0, 1)), (43, (.invokevirtual 205, 3)), (46, (.aload_n 0, 1)), (47, (.aload_n 0, 1)), (48, (.getfield 199, 3)), (51, (.iconst 1, 1)), (52, (.isub, 1)), (53, (.putfield 199, 3)), (56, (.goto (-56), 3)), (59, (.return_, 1))]
theorem dm_X12_closesSums : ∀ q ∈ tb_X12_closesSums, decode zX12_closesSums.2.1 q.1 = .ok q.2 := by decide +kernel
def f_X12_closesSums_37 (n : Nat) (K0 : Int32 → qM → qR) (a1 : Int32) (M : qM) : qR :=
  qc (f_X12_waitTop n  M) (fun r1 m2 => qc (f_X12_notes n r1 (0 : Int32) m2) (fun _ m3 => qlm (mu m3 77 15 ((m3 77 15) - (1 : Int32))) (fun m4 => K0 a1 m4)))
set_option maxRecDepth 4000 in
theorem w_X12_closesSums_37 {g : qG} {k : qK} (n : Nat) (j r : Nat) (hj : q_isLaw j) (hr : q_isLaw r) (o : qOk g 1 zX12_closesSums k) (K0 : Int32 → qM → qR) (hK0 : ∀ (a1 : Int32) (M : qM), qAE g k zX12_closesSums (qL j r) 0 [some (.inr (some 77)), some (.inl a1)] [] (qL j r, M) (K0 a1 M)) (a1 : Int32) (M : qM) : qAE g k zX12_closesSums (qL j r) 37 [some (.inr (some 77)), some (.inl a1)] [] (qL j r, M) (f_X12_closesSums_37 n K0 a1 M) := by
  unfold f_X12_closesSums_37
  refine qr_aload_n o (q_dm dm_X12_closesSums 18 rfl) rfl ?_
  refine qr_aload_n o (q_dm dm_X12_closesSums 19 rfl) rfl ?_
  refine qr_callv_i (As := []) (S := [.inr (some 77)]) o (a_X12_waitTop g k.2.1 n j r hj hr  M) (Nat.le_of_ble_eq_true rfl) zv_X12_waitTop rfl cf_X12 (sh77 j r) ml_X12_202 (Nat.le_of_ble_eq_true rfl) (q_dm dm_X12_closesSums 20 rfl) (fun r1 m2 => ?_)
  refine qr_iconst o (q_dm dm_X12_closesSums 21 rfl) ic_0 ?_
  refine qr_callv_v (As := [.inl r1, .inl (0 : Int32)]) (S := []) o (a_X12_notes g k.2.1 n j r hj hr r1 (0 : Int32) m2) (Nat.le_of_ble_eq_true rfl) zv_X12_notes rfl cf_X12 (sh77 j r) ml_X12_205 (Nat.le_of_ble_eq_true rfl) (q_dm dm_X12_closesSums 22 rfl) (fun _ m3 => ?_)
  refine qr_aload_n o (q_dm dm_X12_closesSums 23 rfl) rfl ?_
  refine qr_aload_n o (q_dm dm_X12_closesSums 24 rfl) rfl ?_
  refine qr_getf (kf := 15) o cf_X12 (sh77 j r) rfl (Nat.le_of_ble_eq_true rfl) fl_X12_199 (q_dm dm_X12_closesSums 25 rfl) ?_
  refine qr_iconst o (q_dm dm_X12_closesSums 26 rfl) ic_1 ?_
  refine qr_isub o (q_dm dm_X12_closesSums 27 rfl) ?_
  refine qr_putf (kf := 15) o cf_X12 (sh77 j r) rfl (Nat.le_of_ble_eq_true rfl) fl_X12_199 rfl (by decide +kernel) (q_dm dm_X12_closesSums 28 rfl) ?_
  refine qr_letm (fun m4 => ?_)
  refine qr_goto (tgt := 0) o (q_dm dm_X12_closesSums 29 rfl) (by decide) ?_
  exact qr_loc (q_leS (q_leS q_le0)) (hK0 a1 m4)

def f_X12_closesSums_17 (n : Nat) (K0 : Int32 → qM → qR) (a1 : Int32) (M : qM) : qR :=
  (if a1 = (0 : Int32) then some (0, M) else qc (f_X12_waitTop n  M) (fun r1 m2 => (if r1 = (2 : Int32) then f_X12_closesSums_37 n K0 a1 m2 else qc (f_X12_waitTop n  m2) (fun r3 m4 => (if r3 = (3 : Int32) then f_X12_closesSums_37 n K0 a1 m4 else some (0, m4))))))
set_option maxRecDepth 4000 in
theorem w_X12_closesSums_17 {g : qG} {k : qK} (n : Nat) (j r : Nat) (hj : q_isLaw j) (hr : q_isLaw r) (o : qOk g 1 zX12_closesSums k) (K0 : Int32 → qM → qR) (hK0 : ∀ (a1 : Int32) (M : qM), qAE g k zX12_closesSums (qL j r) 0 [some (.inr (some 77)), some (.inl a1)] [] (qL j r, M) (K0 a1 M)) (a1 : Int32) (M : qM) : qAE g k zX12_closesSums (qL j r) 17 [some (.inr (some 77)), some (.inl a1)] [] (qL j r, M) (f_X12_closesSums_17 n K0 a1 M) := by
  unfold f_X12_closesSums_17
  refine qr_iload_n o (q_dm dm_X12_closesSums 8 rfl) rfl ?_
  refine qr_if_eq (tgt := 59) o (q_dm dm_X12_closesSums 9 rfl) (by decide) ?_ ?_
  · exact qr_vret o rfl (q_dm dm_X12_closesSums 30 rfl)
  · refine qr_aload_n o (q_dm dm_X12_closesSums 10 rfl) rfl ?_
    refine qr_callv_i (As := []) (S := []) o (a_X12_waitTop g k.2.1 n j r hj hr  M) (Nat.le_of_ble_eq_true rfl) zv_X12_waitTop rfl cf_X12 (sh77 j r) ml_X12_202 (Nat.le_of_ble_eq_true rfl) (q_dm dm_X12_closesSums 11 rfl) (fun r1 m2 => ?_)
    refine qr_iconst o (q_dm dm_X12_closesSums 12 rfl) ic_2 ?_
    refine qr_icmp_eq (tgt := 37) o (q_dm dm_X12_closesSums 13 rfl) (by decide) ?_ ?_
    · exact qr_loc (q_leS (q_leS q_le0)) (w_X12_closesSums_37 n j r hj hr o K0 hK0 a1 m2)
    · refine qr_aload_n o (q_dm dm_X12_closesSums 14 rfl) rfl ?_
      refine qr_callv_i (As := []) (S := []) o (a_X12_waitTop g k.2.1 n j r hj hr  m2) (Nat.le_of_ble_eq_true rfl) zv_X12_waitTop rfl cf_X12 (sh77 j r) ml_X12_202 (Nat.le_of_ble_eq_true rfl) (q_dm dm_X12_closesSums 15 rfl) (fun r3 m4 => ?_)
      refine qr_iconst o (q_dm dm_X12_closesSums 16 rfl) ic_3 ?_
      refine qr_icmp_ne (tgt := 59) o (q_dm dm_X12_closesSums 17 rfl) (by decide) ?_ ?_
      · exact qr_vret o rfl (q_dm dm_X12_closesSums 30 rfl)
      · exact qr_loc (q_leS (q_leS q_le0)) (w_X12_closesSums_37 n j r hj hr o K0 hK0 a1 m4)

def b_X12_closesSums_0 (n : Nat) (K0 : Int32 → qM → qR) (a1 : Int32) (M : qM) : qR :=
  qc (f_X12_waitTop n  M) (fun r1 m2 => (if r1 < (4 : Int32) then f_X12_closesSums_17 n K0 a1 m2 else qc (f_X12_waitTop n  m2) (fun r3 m4 => (if r3 ≤ (6 : Int32) then f_X12_closesSums_37 n K0 a1 m4 else f_X12_closesSums_17 n K0 a1 m4))))
set_option maxRecDepth 4000 in
theorem wb_X12_closesSums_0 {g : qG} {k : qK} (n : Nat) (j r : Nat) (hj : q_isLaw j) (hr : q_isLaw r) (o : qOk g 1 zX12_closesSums k) (K0 : Int32 → qM → qR) (hK0 : ∀ (a1 : Int32) (M : qM), qAE g k zX12_closesSums (qL j r) 0 [some (.inr (some 77)), some (.inl a1)] [] (qL j r, M) (K0 a1 M)) (a1 : Int32) (M : qM) : qAE g k zX12_closesSums (qL j r) 0 [some (.inr (some 77)), some (.inl a1)] [] (qL j r, M) (b_X12_closesSums_0 n K0 a1 M) := by
  unfold b_X12_closesSums_0
  refine qr_aload_n o (q_dm dm_X12_closesSums 0 rfl) rfl ?_
  refine qr_callv_i (As := []) (S := []) o (a_X12_waitTop g k.2.1 n j r hj hr  M) (Nat.le_of_ble_eq_true rfl) zv_X12_waitTop rfl cf_X12 (sh77 j r) ml_X12_202 (Nat.le_of_ble_eq_true rfl) (q_dm dm_X12_closesSums 1 rfl) (fun r1 m2 => ?_)
  refine qr_iconst o (q_dm dm_X12_closesSums 2 rfl) ic_4 ?_
  refine qr_icmp_lt (tgt := 17) o (q_dm dm_X12_closesSums 3 rfl) (by decide) ?_ ?_
  · exact qr_loc (q_leS (q_leS q_le0)) (w_X12_closesSums_17 n j r hj hr o K0 hK0 a1 m2)
  · refine qr_aload_n o (q_dm dm_X12_closesSums 4 rfl) rfl ?_
    refine qr_callv_i (As := []) (S := []) o (a_X12_waitTop g k.2.1 n j r hj hr  m2) (Nat.le_of_ble_eq_true rfl) zv_X12_waitTop rfl cf_X12 (sh77 j r) ml_X12_202 (Nat.le_of_ble_eq_true rfl) (q_dm dm_X12_closesSums 5 rfl) (fun r3 m4 => ?_)
    refine qr_bipush o (q_dm dm_X12_closesSums 6 rfl) bi_6 ?_
    refine qr_icmp_le (tgt := 37) o (q_dm dm_X12_closesSums 7 rfl) (by decide) ?_ ?_
    · exact qr_loc (q_leS (q_leS q_le0)) (w_X12_closesSums_37 n j r hj hr o K0 hK0 a1 m4)
    · exact qr_loc (q_leS (q_leS q_le0)) (w_X12_closesSums_17 n j r hj hr o K0 hK0 a1 m4)

def f_X12_closesSums_0 (n : Nat) : Nat → Int32 → qM → qR
  | 0, _, _ => none
  | m + 1, a1, M => b_X12_closesSums_0 n (f_X12_closesSums_0 n m) a1 M
theorem w_X12_closesSums_0 {g : qG} {k : qK} (n : Nat) (j r : Nat) (hj : q_isLaw j) (hr : q_isLaw r) (o : qOk g 1 zX12_closesSums k) : ∀ (m : Nat) (a1 : Int32) (M : qM), qAE g k zX12_closesSums (qL j r) 0 [some (.inr (some 77)), some (.inl a1)] [] (qL j r, M) (f_X12_closesSums_0 n m a1 M) := by
  intro m
  induction m with
  | zero =>
    intro a1 M
    exact qr_none
  | succ m ih =>
    intro a1 M
    exact wb_X12_closesSums_0 n j r hj hr o (f_X12_closesSums_0 n m) ih a1 M
def f_X12_closesSums (n : Nat) (a1 : Int32) (M : qM) : qR :=
  f_X12_closesSums_0 n n a1 M
set_option maxRecDepth 4000 in
theorem w_X12_closesSums {g : qG} {k : qK} (n : Nat) (j r : Nat) (hj : q_isLaw j) (hr : q_isLaw r) (o : qOk g 1 zX12_closesSums k) (a1 : Int32) (M : qM) : qAE g k zX12_closesSums (qL j r) 0 [some (.inr (some 77)), some (.inl a1)] [] (qL j r, M) (f_X12_closesSums n a1 M) := by
  unfold f_X12_closesSums
  exact qr_loc (q_leS (q_leS q_le0)) (w_X12_closesSums_0 n j r hj hr o n a1 M)

theorem a_X12_closesSums (g : qG) (l : Launch) (n : Nat) (j r : Nat) (hj : q_isLaw j) (hr : q_isLaw r) (a1 : Int32) (M : qM) : qAM g l 1 zX12_closesSums (qL j r) [.inr (some 77), .inl a1] (qL j r, M) (f_X12_closesSums n a1 M) :=
  qAM.of zv_X12_closesSums.1 (by show 2 ≤ 2; decide) (fun k hk o => w_X12_closesSums n j r hj hr o a1 M)
def tb_X12_copies : List (Nat × Instr × Nat) := [(0, (.iconst 0, 1)), (1, (.istore_n 2, 1)), (2, (.iload_n 2, 1)), (3, (.sipush 954, 3)), (6, (.if_icmp .ge 15, 3)), (9, (.aload_n 1, 1)), (10, (.iload_n 2, 1)), (11, (.aload_n 0, 1)), (12, (.iload_n 2, 1)), (13, (.iaload, 1)), (14, (.iastore, 1)), (15, (.iinc 2 1, 3)), (18, (.goto (-16), 3)), (21, (.return_, 1))]
theorem dm_X12_copies : ∀ q ∈ tb_X12_copies, decode zX12_copies.2.1 q.1 = .ok q.2 := by decide +kernel
def b_X12_copies_2 (n : Nat) (c1 c2 : Nat) (K2 : Int32 → qM → qR) (a2 : Int32) (M : qM) : qR :=
  (if (954 : Int32) ≤ a2 then some (0, M) else qg a2 954 (qg a2 954 (qlm (mu M c2 a2.toNatClampNeg (M c1 a2.toNatClampNeg)) (fun m1 => ql (a2 + (1 : Int32)) (fun x2 => K2 x2 m1)))))
set_option maxRecDepth 4000 in
theorem wb_X12_copies_2 {g : qG} {k : qK} (n : Nat) (j r : Nat) (hj : q_isLaw j) (hr : q_isLaw r) {c1 : Nat} {c2 : Nat} (hc1 : (qL j r)[c1]? = some (.inl (0, 954))) (hc2 : (qL j r)[c2]? = some (.inl (0, 954))) (o : qOk g 0 zX12_copies k) (K2 : Int32 → qM → qR) (hK2 : ∀ (a2 : Int32) (M : qM), qAE g k zX12_copies (qL j r) 2 [some (.inr (some c1)), some (.inr (some c2)), some (.inl a2)] [] (qL j r, M) (K2 a2 M)) (a2 : Int32) (M : qM) : qAE g k zX12_copies (qL j r) 2 [some (.inr (some c1)), some (.inr (some c2)), some (.inl a2)] [] (qL j r, M) (b_X12_copies_2 n c1 c2 K2 a2 M) := by
  unfold b_X12_copies_2
  refine qr_iload_n o (q_dm dm_X12_copies 2 rfl) rfl ?_
  refine qr_sipush o (q_dm dm_X12_copies 3 rfl) si_954 ?_
  refine qr_icmp_ge (tgt := 21) o (q_dm dm_X12_copies 4 rfl) (by decide) ?_ ?_
  · exact qr_vret o rfl (q_dm dm_X12_copies 13 rfl)
  · refine qr_aload_n o (q_dm dm_X12_copies 5 rfl) rfl ?_
    refine qr_iload_n o (q_dm dm_X12_copies 6 rfl) rfl ?_
    refine qr_aload_n o (q_dm dm_X12_copies 7 rfl) rfl ?_
    refine qr_iload_n o (q_dm dm_X12_copies 8 rfl) rfl ?_
    refine qr_iald o hc1 (q_dm dm_X12_copies 9 rfl) ?_
    refine qr_iast o hc2 (q_dm dm_X12_copies 10 rfl) ?_
    refine qr_letm (fun m1 => ?_)
    refine qs_iincl2 (L' := fun x2 => [some (.inr (some c1)), some (.inr (some c2)), some (.inl x2)]) o (q_dm dm_X12_copies 11 rfl) rfl ic_1 (Nat.le_of_ble_eq_true rfl) (fun _ => rfl) (fun x2 => ?_)
    refine qr_goto (tgt := 2) o (q_dm dm_X12_copies 12 rfl) (by decide) ?_
    exact qr_loc (q_leS (q_leS (q_leS q_le0))) (hK2 x2 m1)

def f_X12_copies_2 (n : Nat) (c1 c2 : Nat) : Nat → Int32 → qM → qR
  | 0, _, _ => none
  | m + 1, a2, M => b_X12_copies_2 n c1 c2 (f_X12_copies_2 n c1 c2 m) a2 M
theorem w_X12_copies_2 {g : qG} {k : qK} (n : Nat) (j r : Nat) (hj : q_isLaw j) (hr : q_isLaw r) {c1 : Nat} {c2 : Nat} (hc1 : (qL j r)[c1]? = some (.inl (0, 954))) (hc2 : (qL j r)[c2]? = some (.inl (0, 954))) (o : qOk g 0 zX12_copies k) : ∀ (m : Nat) (a2 : Int32) (M : qM), qAE g k zX12_copies (qL j r) 2 [some (.inr (some c1)), some (.inr (some c2)), some (.inl a2)] [] (qL j r, M) (f_X12_copies_2 n c1 c2 m a2 M) := by
  intro m
  induction m with
  | zero =>
    intro a2 M
    exact qr_none
  | succ m ih =>
    intro a2 M
    exact wb_X12_copies_2 n j r hj hr hc1 hc2 o (f_X12_copies_2 n c1 c2 m) ih a2 M
def f_X12_copies (n : Nat) (c1 c2 : Nat) (M : qM) : qR :=
  f_X12_copies_2 n c1 c2 n (0 : Int32) M
set_option maxRecDepth 4000 in
theorem w_X12_copies {g : qG} {k : qK} (n : Nat) (j r : Nat) (hj : q_isLaw j) (hr : q_isLaw r) {c1 : Nat} {c2 : Nat} (hc1 : (qL j r)[c1]? = some (.inl (0, 954))) (hc2 : (qL j r)[c2]? = some (.inl (0, 954))) (o : qOk g 0 zX12_copies k) (M : qM) : qAE g k zX12_copies (qL j r) 0 [some (.inr (some c1)), some (.inr (some c2)), none] [] (qL j r, M) (f_X12_copies n c1 c2  M) := by
  unfold f_X12_copies
  refine qr_iconst o (q_dm dm_X12_copies 0 rfl) ic_0 ?_
  refine qs_istore_n (L' := [some (.inr (some c1)), some (.inr (some c2)), some (.inl (0 : Int32))]) o (q_dm dm_X12_copies 1 rfl) (Nat.le_of_ble_eq_true rfl) rfl ?_
  exact qr_loc (q_leS (q_leS (q_leS q_le0))) (w_X12_copies_2 n j r hj hr hc1 hc2 o n (0 : Int32) M)

theorem a_X12_copies (g : qG) (l : Launch) (n : Nat) (j r : Nat) (hj : q_isLaw j) (hr : q_isLaw r) {c1 : Nat} {c2 : Nat} (hc1 : (qL j r)[c1]? = some (.inl (0, 954))) (hc2 : (qL j r)[c2]? = some (.inl (0, 954))) (M : qM) : qAM g l 0 zX12_copies (qL j r) [.inr (some c1), .inr (some c2)] (qL j r, M) (f_X12_copies n c1 c2  M) :=
  qAM.of zs_X12_copies.1 (by show 2 ≤ 3; decide) (fun k hk o => w_X12_copies n j r hj hr hc1 hc2 o  M)
def tb_X12_cost : List (Nat × Instr × Nat) := [(0, (.aload_n 0, 1)), (1, (.iload_n 1, 1)), (2, (.invokevirtual 310, 3)), (5, (.ifCond .eq 24, 3)), (8, (.aload_n 0, 1)), (9, (.iload_n 2, 1)), (10, (.invokevirtual 157, 3)), (13, (.ifCond .eq 16, 3)), (16, (.aload_n 0, 1)), (17, (.iload_n 3, 1)), (18, (.invokevirtual 310, 3)), (21, (.ifCond .eq 8, 3)), (24, (.iload_n 1, 1)), (25, (.iload_n 3, 1)), (26, (.if_icmp .ne 5, 3)), (29, (.iconst (-1), 1)), (30, (.ireturn, 1)), (31, (.aload_n 0, 1)), (32, (.iload_n 1, 1)), (33, (.iload_n 2, 1)), (34, (.iload_n 3, 1)), (35, (.invokevirtual 316, 3)), (38, (.ireturn, 1))]
theorem dm_X12_cost : ∀ q ∈ tb_X12_cost, decode zX12_cost.2.1 q.1 = .ok q.2 := by decide +kernel
def f_X12_cost (n : Nat) (a1 a2 a3 : Int32) (M : qM) : qR :=
  qc (f_X12_isPerson n a1 M) (fun r1 m2 => (if r1 = (0 : Int32) then some ((-1 : Int32), m2) else qc (f_X12_isKind n a2 m2) (fun r3 m4 => (if r3 = (0 : Int32) then some ((-1 : Int32), m4) else qc (f_X12_isPerson n a3 m4) (fun r5 m6 => (if r5 = (0 : Int32) then some ((-1 : Int32), m6) else (if a1 = a3 then some ((-1 : Int32), m6) else qc (f_X12_costOf n a1 a2 a3 m6) (fun r7 m8 => some (r7, m8)))))))))
set_option maxRecDepth 4000 in
theorem w_X12_cost {g : qG} {k : qK} (n : Nat) (j r : Nat) (hj : q_isLaw j) (hr : q_isLaw r) (o : qOk g 4 zX12_cost k) (a1 a2 a3 : Int32) (M : qM) : qAE g k zX12_cost (qL j r) 0 [some (.inr (some 77)), some (.inl a1), some (.inl a2), some (.inl a3)] [] (qL j r, M) (f_X12_cost n a1 a2 a3 M) := by
  unfold f_X12_cost
  refine qr_aload_n o (q_dm dm_X12_cost 0 rfl) rfl ?_
  refine qr_iload_n o (q_dm dm_X12_cost 1 rfl) rfl ?_
  refine qr_callv_i (As := [.inl a1]) (S := []) o (a_X12_isPerson g k.2.1 n j r hj hr a1 M) (Nat.le_of_ble_eq_true rfl) zv_X12_isPerson rfl cf_X12 (sh77 j r) ml_X12_310 (Nat.le_of_ble_eq_true rfl) (q_dm dm_X12_cost 2 rfl) (fun r1 m2 => ?_)
  refine qr_if_eq (tgt := 29) o (q_dm dm_X12_cost 3 rfl) (by decide) ?_ ?_
  · refine qr_iconst o (q_dm dm_X12_cost 15 rfl) ic_m1 ?_
    exact qr_iret o rfl rfl (q_dm dm_X12_cost 16 rfl)
  · refine qr_aload_n o (q_dm dm_X12_cost 4 rfl) rfl ?_
    refine qr_iload_n o (q_dm dm_X12_cost 5 rfl) rfl ?_
    refine qr_callv_i (As := [.inl a2]) (S := []) o (a_X12_isKind g k.2.1 n j r hj hr a2 m2) (Nat.le_of_ble_eq_true rfl) zv_X12_isKind rfl cf_X12 (sh77 j r) ml_X12_157 (Nat.le_of_ble_eq_true rfl) (q_dm dm_X12_cost 6 rfl) (fun r3 m4 => ?_)
    refine qr_if_eq (tgt := 29) o (q_dm dm_X12_cost 7 rfl) (by decide) ?_ ?_
    · refine qr_iconst o (q_dm dm_X12_cost 15 rfl) ic_m1 ?_
      exact qr_iret o rfl rfl (q_dm dm_X12_cost 16 rfl)
    · refine qr_aload_n o (q_dm dm_X12_cost 8 rfl) rfl ?_
      refine qr_iload_n o (q_dm dm_X12_cost 9 rfl) rfl ?_
      refine qr_callv_i (As := [.inl a3]) (S := []) o (a_X12_isPerson g k.2.1 n j r hj hr a3 m4) (Nat.le_of_ble_eq_true rfl) zv_X12_isPerson rfl cf_X12 (sh77 j r) ml_X12_310 (Nat.le_of_ble_eq_true rfl) (q_dm dm_X12_cost 10 rfl) (fun r5 m6 => ?_)
      refine qr_if_eq (tgt := 29) o (q_dm dm_X12_cost 11 rfl) (by decide) ?_ ?_
      · refine qr_iconst o (q_dm dm_X12_cost 15 rfl) ic_m1 ?_
        exact qr_iret o rfl rfl (q_dm dm_X12_cost 16 rfl)
      · refine qr_iload_n o (q_dm dm_X12_cost 12 rfl) rfl ?_
        refine qr_iload_n o (q_dm dm_X12_cost 13 rfl) rfl ?_
        refine qr_icmp_ne (tgt := 31) o (q_dm dm_X12_cost 14 rfl) (by decide) ?_ ?_
        · refine qr_aload_n o (q_dm dm_X12_cost 17 rfl) rfl ?_
          refine qr_iload_n o (q_dm dm_X12_cost 18 rfl) rfl ?_
          refine qr_iload_n o (q_dm dm_X12_cost 19 rfl) rfl ?_
          refine qr_iload_n o (q_dm dm_X12_cost 20 rfl) rfl ?_
          refine qr_callv_i (As := [.inl a1, .inl a2, .inl a3]) (S := []) o (a_X12_costOf g k.2.1 n j r hj hr a1 a2 a3 m6) (Nat.le_of_ble_eq_true rfl) zv_X12_costOf rfl cf_X12 (sh77 j r) ml_X12_316 (Nat.le_of_ble_eq_true rfl) (q_dm dm_X12_cost 21 rfl) (fun r7 m8 => ?_)
          exact qr_iret o rfl rfl (q_dm dm_X12_cost 22 rfl)
        · refine qr_iconst o (q_dm dm_X12_cost 15 rfl) ic_m1 ?_
          exact qr_iret o rfl rfl (q_dm dm_X12_cost 16 rfl)

theorem a_X12_cost (g : qG) (l : Launch) (n : Nat) (j r : Nat) (hj : q_isLaw j) (hr : q_isLaw r) (a1 a2 a3 : Int32) (M : qM) : qAM g l 4 zX12_cost (qL j r) [.inr (some 77), .inl a1, .inl a2, .inl a3] (qL j r, M) (f_X12_cost n a1 a2 a3 M) :=
  qAM.of zv_X12_cost.1 (by show 4 ≤ 4; decide) (fun k hk o => w_X12_cost n j r hj hr o a1 a2 a3 M)
def tb_X12_sumOf : List (Nat × Instr × Nat) := [(0, (.iconst 0, 1)), (1, (.istore_n 3, 1)), (2, (.iconst 0, 1)), (3, (.istore 4, 2)), (5, (.iload 4, 2)), (7, (.bipush 12, 2)), (9, (.if_icmp .ge 25, 3)), (12, (.iload_n 3, 1)), (13, (.aload_n 0, 1)), (14, (.getfield 7, 3)), (17, (.iload_n 1, 1)), (18, (.iload_n 2, 1)), (19, (.iload 4, 2)), (21, (.invokestatic 282, 3)), (24, (.iadd, 1)), (25, (.iaload, 1)), (26, (.iadd, 1)), (27, (.istore_n 3, 1)), (28, (.iinc 4 1, 3)), (31, (.goto (-26), 3)), (34, (.iload_n 3, 1)), (35, (.ireturn, 1))]
theorem dm_X12_sumOf : ∀ q ∈ tb_X12_sumOf, decode zX12_sumOf.2.1 q.1 = .ok q.2 := by decide +kernel
def b_X12_sumOf_5 (n : Nat) (K5 : Int32 → Int32 → Int32 → Int32 → qM → qR) (a1 a2 a3 a4 : Int32) (M : qM) : qR :=
  (if (12 : Int32) ≤ a4 then some (a3, M) else qc (f_X12_at n a2 a4 M) (fun r1 m2 => qg (a1 + r1) 954 (ql (a3 + (m2 78 (a1 + r1).toNatClampNeg)) (fun x3 => ql (a4 + (1 : Int32)) (fun x4 => K5 a1 a2 x3 x4 m2)))))
set_option maxRecDepth 4000 in
theorem wb_X12_sumOf_5 {g : qG} {k : qK} (n : Nat) (j r : Nat) (hj : q_isLaw j) (hr : q_isLaw r) (o : qOk g 1 zX12_sumOf k) (K5 : Int32 → Int32 → Int32 → Int32 → qM → qR) (hK5 : ∀ (a1 a2 a3 a4 : Int32) (M : qM), qAE g k zX12_sumOf (qL j r) 5 [some (.inr (some 77)), some (.inl a1), some (.inl a2), some (.inl a3), some (.inl a4)] [] (qL j r, M) (K5 a1 a2 a3 a4 M)) (a1 a2 a3 a4 : Int32) (M : qM) : qAE g k zX12_sumOf (qL j r) 5 [some (.inr (some 77)), some (.inl a1), some (.inl a2), some (.inl a3), some (.inl a4)] [] (qL j r, M) (b_X12_sumOf_5 n K5 a1 a2 a3 a4 M) := by
  unfold b_X12_sumOf_5
  refine qr_iload o (q_dm dm_X12_sumOf 4 rfl) rfl ?_
  refine qr_bipush o (q_dm dm_X12_sumOf 5 rfl) bi_12 ?_
  refine qr_icmp_ge (tgt := 34) o (q_dm dm_X12_sumOf 6 rfl) (by decide) ?_ ?_
  · refine qr_iload_n o (q_dm dm_X12_sumOf 20 rfl) rfl ?_
    exact qr_iret o rfl rfl (q_dm dm_X12_sumOf 21 rfl)
  · refine qr_iload_n o (q_dm dm_X12_sumOf 7 rfl) rfl ?_
    refine qr_aload_n o (q_dm dm_X12_sumOf 8 rfl) rfl ?_
    refine qr_getr (kf := 0) o cf_X12 (sh77 j r) rfl (Nat.le_of_ble_eq_true rfl) fl_X12_7 (q_dm dm_X12_sumOf 9 rfl) ?_
    refine qr_iload_n o (q_dm dm_X12_sumOf 10 rfl) rfl ?_
    refine qr_iload_n o (q_dm dm_X12_sumOf 11 rfl) rfl ?_
    refine qr_iload o (q_dm dm_X12_sumOf 12 rfl) rfl ?_
    refine qr_calls_i (As := [.inl a2, .inl a4]) (S := [.inl a1, .inr (some 78), .inl a3]) o (a_X12_at g k.2.1 n j r hj hr a2 a4 M) (Nat.le_of_ble_eq_true rfl) zs_X12_at rfl ml_X12_282 (Nat.le_of_ble_eq_true rfl) (q_dm dm_X12_sumOf 13 rfl) (fun r1 m2 => ?_)
    refine qr_iadd o (q_dm dm_X12_sumOf 14 rfl) ?_
    refine qr_iald o (sh78 j r) (q_dm dm_X12_sumOf 15 rfl) ?_
    refine qr_iadd o (q_dm dm_X12_sumOf 16 rfl) ?_
    refine qr_lt (fun x3 => ?_)
    refine qs_istore_n (L' := [some (.inr (some 77)), some (.inl a1), some (.inl a2), some (.inl x3), some (.inl a4)]) o (q_dm dm_X12_sumOf 17 rfl) (Nat.le_of_ble_eq_true rfl) rfl ?_
    refine qs_iincl2 (L' := fun x4 => [some (.inr (some 77)), some (.inl a1), some (.inl a2), some (.inl x3), some (.inl x4)]) o (q_dm dm_X12_sumOf 18 rfl) rfl ic_1 (Nat.le_of_ble_eq_true rfl) (fun _ => rfl) (fun x4 => ?_)
    refine qr_goto (tgt := 5) o (q_dm dm_X12_sumOf 19 rfl) (by decide) ?_
    exact qr_loc (q_leS (q_leS (q_leS (q_leS (q_leS q_le0))))) (hK5 a1 a2 x3 x4 m2)

def f_X12_sumOf_5 (n : Nat) : Nat → Int32 → Int32 → Int32 → Int32 → qM → qR
  | 0, _, _, _, _, _ => none
  | m + 1, a1, a2, a3, a4, M => b_X12_sumOf_5 n (f_X12_sumOf_5 n m) a1 a2 a3 a4 M
theorem w_X12_sumOf_5 {g : qG} {k : qK} (n : Nat) (j r : Nat) (hj : q_isLaw j) (hr : q_isLaw r) (o : qOk g 1 zX12_sumOf k) : ∀ (m : Nat) (a1 a2 a3 a4 : Int32) (M : qM), qAE g k zX12_sumOf (qL j r) 5 [some (.inr (some 77)), some (.inl a1), some (.inl a2), some (.inl a3), some (.inl a4)] [] (qL j r, M) (f_X12_sumOf_5 n m a1 a2 a3 a4 M) := by
  intro m
  induction m with
  | zero =>
    intro a1 a2 a3 a4 M
    exact qr_none
  | succ m ih =>
    intro a1 a2 a3 a4 M
    exact wb_X12_sumOf_5 n j r hj hr o (f_X12_sumOf_5 n m) ih a1 a2 a3 a4 M
def f_X12_sumOf (n : Nat) (a1 a2 : Int32) (M : qM) : qR :=
  f_X12_sumOf_5 n n a1 a2 (0 : Int32) (0 : Int32) M
set_option maxRecDepth 4000 in
theorem w_X12_sumOf {g : qG} {k : qK} (n : Nat) (j r : Nat) (hj : q_isLaw j) (hr : q_isLaw r) (o : qOk g 1 zX12_sumOf k) (a1 a2 : Int32) (M : qM) : qAE g k zX12_sumOf (qL j r) 0 [some (.inr (some 77)), some (.inl a1), some (.inl a2), none, none] [] (qL j r, M) (f_X12_sumOf n a1 a2 M) := by
  unfold f_X12_sumOf
  refine qr_iconst o (q_dm dm_X12_sumOf 0 rfl) ic_0 ?_
  refine qs_istore_n (L' := [some (.inr (some 77)), some (.inl a1), some (.inl a2), some (.inl (0 : Int32)), none]) o (q_dm dm_X12_sumOf 1 rfl) (Nat.le_of_ble_eq_true rfl) rfl ?_
  refine qr_iconst o (q_dm dm_X12_sumOf 2 rfl) ic_0 ?_
  refine qs_istore (L' := [some (.inr (some 77)), some (.inl a1), some (.inl a2), some (.inl (0 : Int32)), some (.inl (0 : Int32))]) o (q_dm dm_X12_sumOf 3 rfl) (Nat.le_of_ble_eq_true rfl) rfl ?_
  exact qr_loc (q_leS (q_leS (q_leS (q_leS (q_leS q_le0))))) (w_X12_sumOf_5 n j r hj hr o n a1 a2 (0 : Int32) (0 : Int32) M)

theorem a_X12_sumOf (g : qG) (l : Launch) (n : Nat) (j r : Nat) (hj : q_isLaw j) (hr : q_isLaw r) (a1 a2 : Int32) (M : qM) : qAM g l 1 zX12_sumOf (qL j r) [.inr (some 77), .inl a1, .inl a2] (qL j r, M) (f_X12_sumOf n a1 a2 M) :=
  qAM.of zv_X12_sumOf.1 (by show 3 ≤ 5; decide) (fun k hk o => w_X12_sumOf n j r hj hr o a1 a2 M)
def tb_X12_count : List (Nat × Instr × Nat) := [(0, (.iload_n 1, 1)), (1, (.tableswitch 68 0 4 #[35, 44, 49, 58, 63], 35)), (36, (.aload_n 0, 1)), (37, (.getfield 7, 3)), (40, (.sipush 313, 3)), (43, (.iaload, 1)), (44, (.ireturn, 1)), (45, (.aload_n 0, 1)), (46, (.getfield 145, 3)), (49, (.ireturn, 1)), (50, (.aload_n 0, 1)), (51, (.getfield 7, 3)), (54, (.sipush 312, 3)), (57, (.iaload, 1)), (58, (.ireturn, 1)), (59, (.aload_n 0, 1)), (60, (.getfield 262, 3)), (63, (.ireturn, 1)), (64, (.aload_n 0, 1)), (65, (.getfield 162, 3)), (68, (.ireturn, 1)), (69, (.iload_n 1, 1)), (70, (.bipush 10, 2)), (72, (.bipush 21, 2)), (74, (.invokestatic 153, 3)), (77, (.ifCond .eq 28, 3)), (80, (.aload_n 0, 1)), (81, (.iload_n 1, 1)), (82, (.bipush 10, 2)), (84, (.isub, 1)), (85, (.invokevirtual 157, 3)), (88, (.ifCond .eq 15, 3)), (91, (.aload_n 0, 1)), (92, (.getfield 19, 3)), (95, (.iload_n 1, 1)), (96, (.bipush 10, 2)), (98, (.isub, 1)), (99, (.iaload, 1)), (100, (.goto 4, 3)), (103, (.iconst (-1), 1)), (104, (.ireturn, 1)), (105, (.iload_n 1, 1)), (106, (.bipush 30, 2)), (108, (.bipush 41, 2)), (110, (.invokestatic 153, 3)), (113, (.ifCond .eq 28, 3)), (116, (.aload_n 0, 1)), (117, (.iload_n 1, 1)), (118, (.bipush 30, 2)), (120, (.isub, 1)), (121, (.invokevirtual 157, 3)), (124, (.ifCond .eq 15, 3)), (127, (.aload_n 0, 1)), (128, (.getfield 22, 3)), (131, (.iload_n 1, 1)), (132, (.bipush 30, 2)), (134, (.isub, 1)), (135, (.iaload, 1)), (136, (.goto 4, 3)), (139, (.iconst (-1), 1)), (140, (.ireturn, 1)), (141, (.iload_n 1, 1)), (142, (.bipush 50, 2)), (144, (.bipush 61, 2)), (146, (.invokestatic 153, 3)), (149, (.ifCond .eq 28, 3)), (152, (.aload_n 0, 1)), (153, (.iload_n 1, 1)), (154, (.bipush 50, 2)), (156, (.isub, 1)), (157, (.invokevirtual 157, 3)), (160, (.ifCond .eq 15, 3)), (163, (.aload_n 0, 1)), (164, (.getfield 25, 3)), (167, (.iload_n 1, 1)), (168, (.bipush 50, 2)), (170, (.isub, 1)), (171, (.iaload, 1)), (172, (.goto 4, 3)), (175, (.iconst (-1), 1)), (176, (.ireturn, 1)), (177, (.iload_n 1, 1)), (178, (.bipush 70, 2)), (180, (.bipush 109, 2)), (182, (.invokestatic 153, 3)), (185, (.ifCond .eq 14, 3)), (188, (.aload_n 0, 1)), (189, (.iload_n 1, 1)), (190, (.bipush 10, 2)), (192, (.irem, 1)), (193, (.invokevirtual 310, 3)), (196, (.ifCond .ne 5, 3)), (199, (.iconst (-1), 1)), (200, (.ireturn, 1)), (201, (.iload_n 1, 1)), (202, (.bipush 10, 2)), (204, (.idiv, 1)), (205, (.tableswitch 79 7 9 #[27, 41, 69], 27)), (232, (.aload_n 0, 1)), (233, (.getfield 7, 3)), (236, (.sipush 288, 3)), (239, (.iload_n 1, 1)), (240, (.iadd, 1)), (241, (.bipush 70, 2)), (243, (.isub, 1)), (244, (.iaload, 1)), (245, (.ireturn, 1)), (246, (.aload_n 0, 1)), (247, (.getfield 7, 3)), (250, (.sipush 296, 3)), (253, (.iload_n 1, 1)), (254, (.iadd, 1)), (255, (.bipush 80, 2)), (257, (.isub, 1)), (258, (.iaload, 1)), (259, (.aload_n 0, 1)), (260, (.getfield 7, 3)), (263, (.sipush 304, 3)), (266, (.iload_n 1, 1)), (267, (.iadd, 1)), (268, (.bipush 80, 2)), (270, (.isub, 1)), (271, (.iaload, 1)), (272, (.isub, 1)), (273, (.ireturn, 1)), (274, (.aload_n 0, 1)), (275, (.iconst 0, 1)), (276, (.iload_n 1, 1)), (277, (.bipush 90, 2)), (279, (.isub, 1)), (280, (.invokevirtual 496, 3)), (283, (.ireturn, 1)), (284, (.aload_n 0, 1)), (285, (.sipush 192, 3)), (288, (.iload_n 1, 1)), (289, (.bipush 100, 2)), (291, (.isub, 1)), (292, (.invokevirtual 496, 3)), (295, (.ireturn, 1))]
theorem dm_X12_count : ∀ q ∈ tb_X12_count, decode zX12_count.2.1 q.1 = .ok q.2 := by decide +kernel
def f_X12_count (n : Nat) (a1 : Int32) (M : qM) : qR :=
  qsw a1 [((0 : Int32), some ((M 78 313), M)), ((1 : Int32), some ((M 77 6), M)), ((2 : Int32), some ((M 78 312), M)), ((3 : Int32), some ((M 77 17), M)), ((4 : Int32), some ((M 77 8), M))] (qc (f_X12_in n a1 (10 : Int32) (21 : Int32) M) (fun r1 m2 => (if r1 = (0 : Int32) then qc (f_X12_in n a1 (30 : Int32) (41 : Int32) m2) (fun r3 m4 => (if r3 = (0 : Int32) then qc (f_X12_in n a1 (50 : Int32) (61 : Int32) m4) (fun r5 m6 => (if r5 = (0 : Int32) then qc (f_X12_in n a1 (70 : Int32) (109 : Int32) m6) (fun r7 m8 => (if r7 = (0 : Int32) then some ((-1 : Int32), m8) else qc (f_X12_isPerson n (a1 - a1 / (10 : Int32) * (10 : Int32)) m8) (fun r9 m10 => (if r9 = (0 : Int32) then some ((-1 : Int32), m10) else qsw (a1 / (10 : Int32)) [((7 : Int32), qg (((288 : Int32) + a1) - (70 : Int32)) 954 (some ((m10 78 (((288 : Int32) + a1) - (70 : Int32)).toNatClampNeg), m10))), ((8 : Int32), qg (((296 : Int32) + a1) - (80 : Int32)) 954 (qg (((304 : Int32) + a1) - (80 : Int32)) 954 (some (((m10 78 (((296 : Int32) + a1) - (80 : Int32)).toNatClampNeg) - (m10 78 (((304 : Int32) + a1) - (80 : Int32)).toNatClampNeg)), m10)))), ((9 : Int32), qc (f_X12_sumOf n (0 : Int32) (a1 - (90 : Int32)) m10) (fun r13 m14 => some (r13, m14)))] (qc (f_X12_sumOf n (192 : Int32) (a1 - (100 : Int32)) m10) (fun r11 m12 => some (r11, m12))))))) else qc (f_X12_isKind n (a1 - (50 : Int32)) m6) (fun r15 m16 => (if r15 = (0 : Int32) then some ((-1 : Int32), m16) else qg (a1 - (50 : Int32)) 13 (some ((m16 83 (a1 - (50 : Int32)).toNatClampNeg), m16)))))) else qc (f_X12_isKind n (a1 - (30 : Int32)) m4) (fun r17 m18 => (if r17 = (0 : Int32) then some ((-1 : Int32), m18) else qg (a1 - (30 : Int32)) 13 (some ((m18 82 (a1 - (30 : Int32)).toNatClampNeg), m18)))))) else qc (f_X12_isKind n (a1 - (10 : Int32)) m2) (fun r19 m20 => (if r19 = (0 : Int32) then some ((-1 : Int32), m20) else qg (a1 - (10 : Int32)) 13 (some ((m20 81 (a1 - (10 : Int32)).toNatClampNeg), m20)))))))
set_option maxRecDepth 4000 in
theorem w_X12_count {g : qG} {k : qK} (n : Nat) (j r : Nat) (hj : q_isLaw j) (hr : q_isLaw r) (o : qOk g 2 zX12_count k) (a1 : Int32) (M : qM) : qAE g k zX12_count (qL j r) 0 [some (.inr (some 77)), some (.inl a1)] [] (qL j r, M) (f_X12_count n a1 M) := by
  unfold f_X12_count
  refine qr_iload_n o (q_dm dm_X12_count 0 rfl) rfl ?_
  refine qr_tablep (tgt := 69) o (q_dm dm_X12_count 1 rfl) (by show (_ : Int) + (5 : Nat) = _; decide) (by decide) ?_ (q_tbc (35) 36 (by decide) rfl (by decide) ?_ (q_tbc (44) 45 (by decide) rfl (by decide) ?_ (q_tbc (49) 50 (by decide) rfl (by decide) ?_ (q_tbc (58) 59 (by decide) rfl (by decide) ?_ (q_tbc (63) 64 (by decide) rfl (by decide) ?_ q_tbn)))))
  · refine qr_iload_n o (q_dm dm_X12_count 21 rfl) rfl ?_
    refine qr_bipush o (q_dm dm_X12_count 22 rfl) bi_10 ?_
    refine qr_bipush o (q_dm dm_X12_count 23 rfl) bi_21 ?_
    refine qr_calls_i (As := [.inl a1, .inl (10 : Int32), .inl (21 : Int32)]) (S := []) o (a_X12_in g k.2.1 n j r hj hr a1 (10 : Int32) (21 : Int32) M) (Nat.le_of_ble_eq_true rfl) zs_X12_in rfl ml_X12_153 (Nat.le_of_ble_eq_true rfl) (q_dm dm_X12_count 24 rfl) (fun r1 m2 => ?_)
    refine qr_if_eq (tgt := 105) o (q_dm dm_X12_count 25 rfl) (by decide) ?_ ?_
    · refine qr_iload_n o (q_dm dm_X12_count 41 rfl) rfl ?_
      refine qr_bipush o (q_dm dm_X12_count 42 rfl) bi_30 ?_
      refine qr_bipush o (q_dm dm_X12_count 43 rfl) bi_41 ?_
      refine qr_calls_i (As := [.inl a1, .inl (30 : Int32), .inl (41 : Int32)]) (S := []) o (a_X12_in g k.2.1 n j r hj hr a1 (30 : Int32) (41 : Int32) m2) (Nat.le_of_ble_eq_true rfl) zs_X12_in rfl ml_X12_153 (Nat.le_of_ble_eq_true rfl) (q_dm dm_X12_count 44 rfl) (fun r3 m4 => ?_)
      refine qr_if_eq (tgt := 141) o (q_dm dm_X12_count 45 rfl) (by decide) ?_ ?_
      · refine qr_iload_n o (q_dm dm_X12_count 61 rfl) rfl ?_
        refine qr_bipush o (q_dm dm_X12_count 62 rfl) bi_50 ?_
        refine qr_bipush o (q_dm dm_X12_count 63 rfl) bi_61 ?_
        refine qr_calls_i (As := [.inl a1, .inl (50 : Int32), .inl (61 : Int32)]) (S := []) o (a_X12_in g k.2.1 n j r hj hr a1 (50 : Int32) (61 : Int32) m4) (Nat.le_of_ble_eq_true rfl) zs_X12_in rfl ml_X12_153 (Nat.le_of_ble_eq_true rfl) (q_dm dm_X12_count 64 rfl) (fun r5 m6 => ?_)
        refine qr_if_eq (tgt := 177) o (q_dm dm_X12_count 65 rfl) (by decide) ?_ ?_
        · refine qr_iload_n o (q_dm dm_X12_count 81 rfl) rfl ?_
          refine qr_bipush o (q_dm dm_X12_count 82 rfl) bi_70 ?_
          refine qr_bipush o (q_dm dm_X12_count 83 rfl) bi_109 ?_
          refine qr_calls_i (As := [.inl a1, .inl (70 : Int32), .inl (109 : Int32)]) (S := []) o (a_X12_in g k.2.1 n j r hj hr a1 (70 : Int32) (109 : Int32) m6) (Nat.le_of_ble_eq_true rfl) zs_X12_in rfl ml_X12_153 (Nat.le_of_ble_eq_true rfl) (q_dm dm_X12_count 84 rfl) (fun r7 m8 => ?_)
          refine qr_if_eq (tgt := 199) o (q_dm dm_X12_count 85 rfl) (by decide) ?_ ?_
          · refine qr_iconst o (q_dm dm_X12_count 92 rfl) ic_m1 ?_
            exact qr_iret o rfl rfl (q_dm dm_X12_count 93 rfl)
          · refine qr_aload_n o (q_dm dm_X12_count 86 rfl) rfl ?_
            refine qr_iload_n o (q_dm dm_X12_count 87 rfl) rfl ?_
            refine qr_bipush o (q_dm dm_X12_count 88 rfl) bi_10 ?_
            refine qr_iremc o (q_dm dm_X12_count 89 rfl) (by decide) ?_
            refine qr_callv_i (As := [.inl (a1 - a1 / (10 : Int32) * (10 : Int32))]) (S := []) o (a_X12_isPerson g k.2.1 n j r hj hr (a1 - a1 / (10 : Int32) * (10 : Int32)) m8) (Nat.le_of_ble_eq_true rfl) zv_X12_isPerson rfl cf_X12 (sh77 j r) ml_X12_310 (Nat.le_of_ble_eq_true rfl) (q_dm dm_X12_count 90 rfl) (fun r9 m10 => ?_)
            refine qr_if_ne (tgt := 201) o (q_dm dm_X12_count 91 rfl) (by decide) ?_ ?_
            · refine qr_iload_n o (q_dm dm_X12_count 94 rfl) rfl ?_
              refine qr_bipush o (q_dm dm_X12_count 95 rfl) bi_10 ?_
              refine qr_idivc o (q_dm dm_X12_count 96 rfl) (by decide) ?_
              refine qr_tablep (tgt := 284) o (q_dm dm_X12_count 97 rfl) (by show (_ : Int) + (3 : Nat) = _; decide) (by decide) ?_ (q_tbc (27) 232 (by decide) rfl (by decide) ?_ (q_tbc (41) 246 (by decide) rfl (by decide) ?_ (q_tbc (69) 274 (by decide) rfl (by decide) ?_ q_tbn)))
              · refine qr_aload_n o (q_dm dm_X12_count 132 rfl) rfl ?_
                refine qr_sipush o (q_dm dm_X12_count 133 rfl) si_192 ?_
                refine qr_iload_n o (q_dm dm_X12_count 134 rfl) rfl ?_
                refine qr_bipush o (q_dm dm_X12_count 135 rfl) bi_100 ?_
                refine qr_isub o (q_dm dm_X12_count 136 rfl) ?_
                refine qr_callv_i (As := [.inl (192 : Int32), .inl (a1 - (100 : Int32))]) (S := []) o (a_X12_sumOf g k.2.1 n j r hj hr (192 : Int32) (a1 - (100 : Int32)) m10) (Nat.le_of_ble_eq_true rfl) zv_X12_sumOf rfl cf_X12 (sh77 j r) ml_X12_496 (Nat.le_of_ble_eq_true rfl) (q_dm dm_X12_count 137 rfl) (fun r11 m12 => ?_)
                exact qr_iret o rfl rfl (q_dm dm_X12_count 138 rfl)
              · refine qr_aload_n o (q_dm dm_X12_count 98 rfl) rfl ?_
                refine qr_getr (kf := 0) o cf_X12 (sh77 j r) rfl (Nat.le_of_ble_eq_true rfl) fl_X12_7 (q_dm dm_X12_count 99 rfl) ?_
                refine qr_sipush o (q_dm dm_X12_count 100 rfl) si_288 ?_
                refine qr_iload_n o (q_dm dm_X12_count 101 rfl) rfl ?_
                refine qr_iadd o (q_dm dm_X12_count 102 rfl) ?_
                refine qr_bipush o (q_dm dm_X12_count 103 rfl) bi_70 ?_
                refine qr_isub o (q_dm dm_X12_count 104 rfl) ?_
                refine qr_iald o (sh78 j r) (q_dm dm_X12_count 105 rfl) ?_
                exact qr_iret o rfl rfl (q_dm dm_X12_count 106 rfl)
              · refine qr_aload_n o (q_dm dm_X12_count 107 rfl) rfl ?_
                refine qr_getr (kf := 0) o cf_X12 (sh77 j r) rfl (Nat.le_of_ble_eq_true rfl) fl_X12_7 (q_dm dm_X12_count 108 rfl) ?_
                refine qr_sipush o (q_dm dm_X12_count 109 rfl) si_296 ?_
                refine qr_iload_n o (q_dm dm_X12_count 110 rfl) rfl ?_
                refine qr_iadd o (q_dm dm_X12_count 111 rfl) ?_
                refine qr_bipush o (q_dm dm_X12_count 112 rfl) bi_80 ?_
                refine qr_isub o (q_dm dm_X12_count 113 rfl) ?_
                refine qr_iald o (sh78 j r) (q_dm dm_X12_count 114 rfl) ?_
                refine qr_aload_n o (q_dm dm_X12_count 115 rfl) rfl ?_
                refine qr_getr (kf := 0) o cf_X12 (sh77 j r) rfl (Nat.le_of_ble_eq_true rfl) fl_X12_7 (q_dm dm_X12_count 116 rfl) ?_
                refine qr_sipush o (q_dm dm_X12_count 117 rfl) si_304 ?_
                refine qr_iload_n o (q_dm dm_X12_count 118 rfl) rfl ?_
                refine qr_iadd o (q_dm dm_X12_count 119 rfl) ?_
                refine qr_bipush o (q_dm dm_X12_count 120 rfl) bi_80 ?_
                refine qr_isub o (q_dm dm_X12_count 121 rfl) ?_
                refine qr_iald o (sh78 j r) (q_dm dm_X12_count 122 rfl) ?_
                refine qr_isub o (q_dm dm_X12_count 123 rfl) ?_
                exact qr_iret o rfl rfl (q_dm dm_X12_count 124 rfl)
              · refine qr_aload_n o (q_dm dm_X12_count 125 rfl) rfl ?_
                refine qr_iconst o (q_dm dm_X12_count 126 rfl) ic_0 ?_
                refine qr_iload_n o (q_dm dm_X12_count 127 rfl) rfl ?_
                refine qr_bipush o (q_dm dm_X12_count 128 rfl) bi_90 ?_
                refine qr_isub o (q_dm dm_X12_count 129 rfl) ?_
                refine qr_callv_i (As := [.inl (0 : Int32), .inl (a1 - (90 : Int32))]) (S := []) o (a_X12_sumOf g k.2.1 n j r hj hr (0 : Int32) (a1 - (90 : Int32)) m10) (Nat.le_of_ble_eq_true rfl) zv_X12_sumOf rfl cf_X12 (sh77 j r) ml_X12_496 (Nat.le_of_ble_eq_true rfl) (q_dm dm_X12_count 130 rfl) (fun r13 m14 => ?_)
                exact qr_iret o rfl rfl (q_dm dm_X12_count 131 rfl)
            · refine qr_iconst o (q_dm dm_X12_count 92 rfl) ic_m1 ?_
              exact qr_iret o rfl rfl (q_dm dm_X12_count 93 rfl)
        · refine qr_aload_n o (q_dm dm_X12_count 66 rfl) rfl ?_
          refine qr_iload_n o (q_dm dm_X12_count 67 rfl) rfl ?_
          refine qr_bipush o (q_dm dm_X12_count 68 rfl) bi_50 ?_
          refine qr_isub o (q_dm dm_X12_count 69 rfl) ?_
          refine qr_callv_i (As := [.inl (a1 - (50 : Int32))]) (S := []) o (a_X12_isKind g k.2.1 n j r hj hr (a1 - (50 : Int32)) m6) (Nat.le_of_ble_eq_true rfl) zv_X12_isKind rfl cf_X12 (sh77 j r) ml_X12_157 (Nat.le_of_ble_eq_true rfl) (q_dm dm_X12_count 70 rfl) (fun r15 m16 => ?_)
          refine qr_if_eq (tgt := 175) o (q_dm dm_X12_count 71 rfl) (by decide) ?_ ?_
          · refine qr_iconst o (q_dm dm_X12_count 79 rfl) ic_m1 ?_
            exact qr_iret o rfl rfl (q_dm dm_X12_count 80 rfl)
          · refine qr_aload_n o (q_dm dm_X12_count 72 rfl) rfl ?_
            refine qr_getr (kf := 5) o cf_X12 (sh77 j r) rfl (Nat.le_of_ble_eq_true rfl) fl_X12_25 (q_dm dm_X12_count 73 rfl) ?_
            refine qr_iload_n o (q_dm dm_X12_count 74 rfl) rfl ?_
            refine qr_bipush o (q_dm dm_X12_count 75 rfl) bi_50 ?_
            refine qr_isub o (q_dm dm_X12_count 76 rfl) ?_
            refine qr_iald o (sh83 j r) (q_dm dm_X12_count 77 rfl) ?_
            refine qr_goto (tgt := 176) o (q_dm dm_X12_count 78 rfl) (by decide) ?_
            exact qr_iret o rfl rfl (q_dm dm_X12_count 80 rfl)
      · refine qr_aload_n o (q_dm dm_X12_count 46 rfl) rfl ?_
        refine qr_iload_n o (q_dm dm_X12_count 47 rfl) rfl ?_
        refine qr_bipush o (q_dm dm_X12_count 48 rfl) bi_30 ?_
        refine qr_isub o (q_dm dm_X12_count 49 rfl) ?_
        refine qr_callv_i (As := [.inl (a1 - (30 : Int32))]) (S := []) o (a_X12_isKind g k.2.1 n j r hj hr (a1 - (30 : Int32)) m4) (Nat.le_of_ble_eq_true rfl) zv_X12_isKind rfl cf_X12 (sh77 j r) ml_X12_157 (Nat.le_of_ble_eq_true rfl) (q_dm dm_X12_count 50 rfl) (fun r17 m18 => ?_)
        refine qr_if_eq (tgt := 139) o (q_dm dm_X12_count 51 rfl) (by decide) ?_ ?_
        · refine qr_iconst o (q_dm dm_X12_count 59 rfl) ic_m1 ?_
          exact qr_iret o rfl rfl (q_dm dm_X12_count 60 rfl)
        · refine qr_aload_n o (q_dm dm_X12_count 52 rfl) rfl ?_
          refine qr_getr (kf := 4) o cf_X12 (sh77 j r) rfl (Nat.le_of_ble_eq_true rfl) fl_X12_22 (q_dm dm_X12_count 53 rfl) ?_
          refine qr_iload_n o (q_dm dm_X12_count 54 rfl) rfl ?_
          refine qr_bipush o (q_dm dm_X12_count 55 rfl) bi_30 ?_
          refine qr_isub o (q_dm dm_X12_count 56 rfl) ?_
          refine qr_iald o (sh82 j r) (q_dm dm_X12_count 57 rfl) ?_
          refine qr_goto (tgt := 140) o (q_dm dm_X12_count 58 rfl) (by decide) ?_
          exact qr_iret o rfl rfl (q_dm dm_X12_count 60 rfl)
    · refine qr_aload_n o (q_dm dm_X12_count 26 rfl) rfl ?_
      refine qr_iload_n o (q_dm dm_X12_count 27 rfl) rfl ?_
      refine qr_bipush o (q_dm dm_X12_count 28 rfl) bi_10 ?_
      refine qr_isub o (q_dm dm_X12_count 29 rfl) ?_
      refine qr_callv_i (As := [.inl (a1 - (10 : Int32))]) (S := []) o (a_X12_isKind g k.2.1 n j r hj hr (a1 - (10 : Int32)) m2) (Nat.le_of_ble_eq_true rfl) zv_X12_isKind rfl cf_X12 (sh77 j r) ml_X12_157 (Nat.le_of_ble_eq_true rfl) (q_dm dm_X12_count 30 rfl) (fun r19 m20 => ?_)
      refine qr_if_eq (tgt := 103) o (q_dm dm_X12_count 31 rfl) (by decide) ?_ ?_
      · refine qr_iconst o (q_dm dm_X12_count 39 rfl) ic_m1 ?_
        exact qr_iret o rfl rfl (q_dm dm_X12_count 40 rfl)
      · refine qr_aload_n o (q_dm dm_X12_count 32 rfl) rfl ?_
        refine qr_getr (kf := 3) o cf_X12 (sh77 j r) rfl (Nat.le_of_ble_eq_true rfl) fl_X12_19 (q_dm dm_X12_count 33 rfl) ?_
        refine qr_iload_n o (q_dm dm_X12_count 34 rfl) rfl ?_
        refine qr_bipush o (q_dm dm_X12_count 35 rfl) bi_10 ?_
        refine qr_isub o (q_dm dm_X12_count 36 rfl) ?_
        refine qr_iald o (sh81 j r) (q_dm dm_X12_count 37 rfl) ?_
        refine qr_goto (tgt := 104) o (q_dm dm_X12_count 38 rfl) (by decide) ?_
        exact qr_iret o rfl rfl (q_dm dm_X12_count 40 rfl)
  · refine qr_aload_n o (q_dm dm_X12_count 2 rfl) rfl ?_
    refine qr_getr (kf := 0) o cf_X12 (sh77 j r) rfl (Nat.le_of_ble_eq_true rfl) fl_X12_7 (q_dm dm_X12_count 3 rfl) ?_
    refine qr_sipush o (q_dm dm_X12_count 4 rfl) si_313 ?_
    refine qr_iald0 (c := 313) o (sh78 j r) (by decide) (by decide) (q_dm dm_X12_count 5 rfl) ?_
    exact qr_iret o rfl rfl (q_dm dm_X12_count 6 rfl)
  · refine qr_aload_n o (q_dm dm_X12_count 7 rfl) rfl ?_
    refine qr_getf (kf := 6) o cf_X12 (sh77 j r) rfl (Nat.le_of_ble_eq_true rfl) fl_X12_145 (q_dm dm_X12_count 8 rfl) ?_
    exact qr_iret o rfl rfl (q_dm dm_X12_count 9 rfl)
  · refine qr_aload_n o (q_dm dm_X12_count 10 rfl) rfl ?_
    refine qr_getr (kf := 0) o cf_X12 (sh77 j r) rfl (Nat.le_of_ble_eq_true rfl) fl_X12_7 (q_dm dm_X12_count 11 rfl) ?_
    refine qr_sipush o (q_dm dm_X12_count 12 rfl) si_312 ?_
    refine qr_iald0 (c := 312) o (sh78 j r) (by decide) (by decide) (q_dm dm_X12_count 13 rfl) ?_
    exact qr_iret o rfl rfl (q_dm dm_X12_count 14 rfl)
  · refine qr_aload_n o (q_dm dm_X12_count 15 rfl) rfl ?_
    refine qr_getf (kf := 17) o cf_X12 (sh77 j r) rfl (Nat.le_of_ble_eq_true rfl) fl_X12_262 (q_dm dm_X12_count 16 rfl) ?_
    exact qr_iret o rfl rfl (q_dm dm_X12_count 17 rfl)
  · refine qr_aload_n o (q_dm dm_X12_count 18 rfl) rfl ?_
    refine qr_getf (kf := 8) o cf_X12 (sh77 j r) rfl (Nat.le_of_ble_eq_true rfl) fl_X12_162 (q_dm dm_X12_count 19 rfl) ?_
    exact qr_iret o rfl rfl (q_dm dm_X12_count 20 rfl)

theorem a_X12_count (g : qG) (l : Launch) (n : Nat) (j r : Nat) (hj : q_isLaw j) (hr : q_isLaw r) (a1 : Int32) (M : qM) : qAM g l 2 zX12_count (qL j r) [.inr (some 77), .inl a1] (qL j r, M) (f_X12_count n a1 M) :=
  qAM.of zv_X12_count.1 (by show 2 ≤ 2; decide) (fun k hk o => w_X12_count n j r hj hr o a1 M)
