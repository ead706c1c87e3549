def tb_X6_readTry : List (Nat × Instr × Nat) := [(0, (.aload_n 0, 1)), (1, (.getfield 18, 3)), (4, (.getfield 56, 3)), (7, (.istore_n 1, 1)), (8, (.aload_n 0, 1)), (9, (.getfield 18, 3)), (12, (.invokevirtual 66, 3)), (15, (.istore_n 2, 1)), (16, (.iload_n 2, 1)), (17, (.iconst (-1), 1)), (18, (.if_icmp .ne 13, 3)), (21, (.aload_n 0, 1)), (22, (.getfield 18, 3)), (25, (.iconst 1, 1)), (26, (.iload_n 1, 1)), (27, (.invokevirtual 59, 3)), (30, (.ireturn, 1)), (31, (.aload_n 0, 1)), (32, (.getfield 18, 3)), (35, (.dup, 1)), (36, (.getfield 56, 3)), (39, (.iconst 1, 1)), (40, (.iadd, 1)), (41, (.putfield 56, 3)), (44, (.aload_n 0, 1)), (45, (.getfield 18, 3)), (48, (.invokevirtual 66, 3)), (51, (.iconst (-1), 1)), (52, (.if_icmp .eq 29, 3)), (55, (.bipush 10, 2)), (57, (.iload_n 2, 1)), (58, (.imul, 1)), (59, (.aload_n 0, 1)), (60, (.getfield 18, 3)), (63, (.invokevirtual 66, 3)), (66, (.iadd, 1)), (67, (.istore_n 2, 1)), (68, (.aload_n 0, 1)), (69, (.getfield 18, 3)), (72, (.dup, 1)), (73, (.getfield 56, 3)), (76, (.iconst 1, 1)), (77, (.iadd, 1)), (78, (.putfield 56, 3)), (81, (.iload_n 2, 1)), (82, (.bipush 12, 2)), (84, (.if_icmp .lt 13, 3)), (87, (.aload_n 0, 1)), (88, (.getfield 18, 3)), (91, (.iconst 3, 1)), (92, (.iload_n 1, 1)), (93, (.invokevirtual 59, 3)), (96, (.ireturn, 1)), (97, (.bipush 8, 2)), (99, (.istore_n 3, 1)), (100, (.aload_n 0, 1)), (101, (.getfield 18, 3)), (104, (.bipush 38, 2)), (106, (.invokevirtual 46, 3)), (109, (.ifCond .eq 60, 3)), (112, (.aload_n 0, 1)), (113, (.getfield 18, 3)), (116, (.invokevirtual 66, 3)), (119, (.istore_n 3, 1)), (120, (.iload_n 3, 1)), (121, (.iconst (-1), 1)), (122, (.if_icmp .eq 9, 3)), (125, (.iload_n 3, 1)), (126, (.bipush 8, 2)), (128, (.if_icmp .lt 28, 3)), (131, (.aload_n 0, 1)), (132, (.getfield 18, 3)), (135, (.iload_n 3, 1)), (136, (.iconst (-1), 1)), (137, (.if_icmp .ne 7, 3)), (140, (.iconst 1, 1)), (141, (.goto 4, 3)), (144, (.iconst 3, 1)), (145, (.aload_n 0, 1)), (146, (.getfield 18, 3)), (149, (.getfield 56, 3)), (152, (.invokevirtual 59, 3)), (155, (.ireturn, 1)), (156, (.aload_n 0, 1)), (157, (.getfield 18, 3)), (160, (.dup, 1)), (161, (.getfield 56, 3)), (164, (.iconst 1, 1)), (165, (.iadd, 1)), (166, (.putfield 56, 3)), (169, (.aload_n 0, 1)), (170, (.iload_n 2, 1)), (171, (.iload_n 3, 1)), (172, (.invokevirtual 72, 3)), (175, (.ifCond .ne 16, 3)), (178, (.aload_n 0, 1)), (179, (.getfield 18, 3)), (182, (.bipush 6, 2)), (184, (.iload_n 1, 1)), (185, (.invokevirtual 59, 3)), (188, (.ifCond .eq 7, 3)), (191, (.iconst 1, 1)), (192, (.goto 4, 3)), (195, (.iconst 0, 1)), (196, (.ireturn, 1))]
theorem dm_X6_readTry : ∀ q ∈ tb_X6_readTry, decode zX6_readTry.2.1 q.1 = .ok q.2 := by decide +kernel
def f_X6_readTry_169 (n : Nat) (a1 a2 a3 : Int32) (M : qM) : qR :=
  qc (f_X6_addStep n a2 a3 M) (fun r1 m2 => (if r1 = (0 : Int32) then qc (f_X9_fails n (6 : Int32) a1 m2) (fun r3 m4 => (if r3 = (0 : Int32) then some ((0 : Int32), m4) else some ((1 : Int32), m4))) else some ((1 : Int32), m2)))
set_option maxRecDepth 4000 in
theorem w_X6_readTry_169 {g : qG} {k : qK} (n : Nat) (j r : Nat) (hj : q_isLaw j) (hr : q_isLaw r) (o : qOk g 2 zX6_readTry k) (a1 a2 a3 : Int32) (M : qM) : qAE g k zX6_readTry (qL j r) 169 [some (.inr (some 53)), some (.inl a1), some (.inl a2), some (.inl a3)] [] (qL j r, M) (f_X6_readTry_169 n a1 a2 a3 M) := by
  unfold f_X6_readTry_169
  refine qr_aload_n o (q_dm dm_X6_readTry 90 rfl) rfl ?_
  refine qr_iload_n o (q_dm dm_X6_readTry 91 rfl) rfl ?_
  refine qr_iload_n o (q_dm dm_X6_readTry 92 rfl) rfl ?_
  refine qr_callv_i (As := [.inl a2, .inl a3]) (S := []) o (a_X6_addStep g k.2.1 n j r hj hr a2 a3 M) (Nat.le_of_ble_eq_true rfl) zv_X6_addStep rfl cf_X6 (sh53 j r) ml_X6_72 (Nat.le_of_ble_eq_true rfl) (q_dm dm_X6_readTry 93 rfl) (fun r1 m2 => ?_)
  refine qr_if_ne (tgt := 191) o (q_dm dm_X6_readTry 94 rfl) (by decide) ?_ ?_
  · refine qr_iconst o (q_dm dm_X6_readTry 101 rfl) ic_1 ?_
    refine qr_goto (tgt := 196) o (q_dm dm_X6_readTry 102 rfl) (by decide) ?_
    exact qr_iret o rfl (by decide) (q_dm dm_X6_readTry 104 rfl)
  · refine qr_aload_n o (q_dm dm_X6_readTry 95 rfl) rfl ?_
    refine qr_getr (kf := 0) o cf_X6 (sh53 j r) rfl (Nat.le_of_ble_eq_true rfl) fl_X6_18 (q_dm dm_X6_readTry 96 rfl) ?_
    refine qr_bipush o (q_dm dm_X6_readTry 97 rfl) bi_6 ?_
    refine qr_iload_n o (q_dm dm_X6_readTry 98 rfl) rfl ?_
    refine qr_callv_i (As := [.inl (6 : Int32), .inl a1]) (S := []) o (a_X9_fails g k.2.1 n j r hj hr (6 : Int32) a1 m2) (Nat.le_of_ble_eq_true rfl) zv_X9_fails rfl cf_X9 (sh1 j r) ml_X6_59 (Nat.le_of_ble_eq_true rfl) (q_dm dm_X6_readTry 99 rfl) (fun r3 m4 => ?_)
    refine qr_if_eq (tgt := 195) o (q_dm dm_X6_readTry 100 rfl) (by decide) ?_ ?_
    · refine qr_iconst o (q_dm dm_X6_readTry 103 rfl) ic_0 ?_
      exact qr_iret o rfl (by decide) (q_dm dm_X6_readTry 104 rfl)
    · refine qr_iconst o (q_dm dm_X6_readTry 101 rfl) ic_1 ?_
      refine qr_goto (tgt := 196) o (q_dm dm_X6_readTry 102 rfl) (by decide) ?_
      exact qr_iret o rfl (by decide) (q_dm dm_X6_readTry 104 rfl)

def f_X6_readTry_145 (n : Nat) (s1 : Int32) (M : qM) : qR :=
  qc (f_X9_fails n s1 (M 1 3) M) (fun r1 m2 => qb r1 (some (r1, m2)))
set_option maxRecDepth 4000 in
theorem w_X6_readTry_145 {g : qG} {k : qK} (n : Nat) (j r : Nat) (hj : q_isLaw j) (hr : q_isLaw r) (o : qOk g 2 zX6_readTry k) (s1 : Int32) (M : qM) : qAE g k zX6_readTry (qL j r) 145 [some (.inr (some 53)), none, none, none] [.inl s1, .inr (some 1)] (qL j r, M) (f_X6_readTry_145 n s1 M) := by
  unfold f_X6_readTry_145
  refine qr_aload_n o (q_dm dm_X6_readTry 78 rfl) rfl ?_
  refine qr_getr (kf := 0) o cf_X6 (sh53 j r) rfl (Nat.le_of_ble_eq_true rfl) fl_X6_18 (q_dm dm_X6_readTry 79 rfl) ?_
  refine qr_getf (kf := 3) o cf_X9 (sh1 j r) rfl (Nat.le_of_ble_eq_true rfl) fl_X6_56 (q_dm dm_X6_readTry 80 rfl) ?_
  refine qr_callv_i (As := [.inl s1, .inl (M 1 3)]) (S := []) o (a_X9_fails g k.2.1 n j r hj hr s1 (M 1 3) M) (Nat.le_of_ble_eq_true rfl) zv_X9_fails rfl cf_X9 (sh1 j r) ml_X6_59 (Nat.le_of_ble_eq_true rfl) (q_dm dm_X6_readTry 81 rfl) (fun r1 m2 => ?_)
  exact qr_zret o rfl (q_dm dm_X6_readTry 82 rfl)

def f_X6_readTry_131 (n : Nat) (a3 : Int32) (M : qM) : qR :=
  (if a3 = (-1 : Int32) then f_X6_readTry_145 n (1 : Int32) M else f_X6_readTry_145 n (3 : Int32) M)
set_option maxRecDepth 4000 in
theorem w_X6_readTry_131 {g : qG} {k : qK} (n : Nat) (j r : Nat) (hj : q_isLaw j) (hr : q_isLaw r) (o : qOk g 2 zX6_readTry k) (a3 : Int32) (M : qM) : qAE g k zX6_readTry (qL j r) 131 [some (.inr (some 53)), none, none, some (.inl a3)] [] (qL j r, M) (f_X6_readTry_131 n a3 M) := by
  unfold f_X6_readTry_131
  refine qr_aload_n o (q_dm dm_X6_readTry 70 rfl) rfl ?_
  refine qr_getr (kf := 0) o cf_X6 (sh53 j r) rfl (Nat.le_of_ble_eq_true rfl) fl_X6_18 (q_dm dm_X6_readTry 71 rfl) ?_
  refine qr_iload_n o (q_dm dm_X6_readTry 72 rfl) rfl ?_
  refine qr_iconst o (q_dm dm_X6_readTry 73 rfl) ic_m1 ?_
  refine qr_icmp_ne (tgt := 144) o (q_dm dm_X6_readTry 74 rfl) (by decide) ?_ ?_
  · refine qr_iconst o (q_dm dm_X6_readTry 77 rfl) ic_3 ?_
    exact qr_loc (q_leS (q_leN (q_leN (q_leN q_le0)))) (w_X6_readTry_145 n j r hj hr o (3 : Int32) M)
  · refine qr_iconst o (q_dm dm_X6_readTry 75 rfl) ic_1 ?_
    refine qr_goto (tgt := 145) o (q_dm dm_X6_readTry 76 rfl) (by decide) ?_
    exact qr_loc (q_leS (q_leN (q_leN (q_leN q_le0)))) (w_X6_readTry_145 n j r hj hr o (1 : Int32) M)

def f_X6_readTry_81 (n : Nat) (a1 a2 : Int32) (M : qM) : qR :=
  (if a2 < (12 : Int32) then qc (f_X9_takes n (38 : Int32) M) (fun r1 m2 => (if r1 = (0 : Int32) then f_X6_readTry_169 n a1 a2 (8 : Int32) m2 else qc (f_X9_digit n  m2) (fun r3 m4 => (if r3 = (-1 : Int32) then f_X6_readTry_131 n r3 m4 else (if r3 < (8 : Int32) then qlm (mu m4 1 3 ((m4 1 3) + (1 : Int32))) (fun m5 => f_X6_readTry_169 n a1 a2 r3 m5) else f_X6_readTry_131 n r3 m4))))) else qc (f_X9_fails n (3 : Int32) a1 M) (fun r6 m7 => qb r6 (some (r6, m7))))
set_option maxRecDepth 4000 in
theorem w_X6_readTry_81 {g : qG} {k : qK} (n : Nat) (j r : Nat) (hj : q_isLaw j) (hr : q_isLaw r) (o : qOk g 2 zX6_readTry k) (a1 a2 : Int32) (M : qM) : qAE g k zX6_readTry (qL j r) 81 [some (.inr (some 53)), some (.inl a1), some (.inl a2), none] [] (qL j r, M) (f_X6_readTry_81 n a1 a2 M) := by
  unfold f_X6_readTry_81
  refine qr_iload_n o (q_dm dm_X6_readTry 44 rfl) rfl ?_
  refine qr_bipush o (q_dm dm_X6_readTry 45 rfl) bi_12 ?_
  refine qr_icmp_lt (tgt := 97) o (q_dm dm_X6_readTry 46 rfl) (by decide) ?_ ?_
  · refine qr_bipush o (q_dm dm_X6_readTry 53 rfl) bi_8 ?_
    refine qs_istore_n (L' := [some (.inr (some 53)), some (.inl a1), some (.inl a2), some (.inl (8 : Int32))]) o (q_dm dm_X6_readTry 54 rfl) (Nat.le_of_ble_eq_true rfl) rfl ?_
    refine qr_aload_n o (q_dm dm_X6_readTry 55 rfl) rfl ?_
    refine qr_getr (kf := 0) o cf_X6 (sh53 j r) rfl (Nat.le_of_ble_eq_true rfl) fl_X6_18 (q_dm dm_X6_readTry 56 rfl) ?_
    refine qr_bipush o (q_dm dm_X6_readTry 57 rfl) bi_38 ?_
    refine qr_callv_i (As := [.inl (38 : Int32)]) (S := []) o (a_X9_takes g k.2.1 n j r hj hr (38 : Int32) M) (Nat.le_of_ble_eq_true rfl) zv_X9_takes rfl cf_X9 (sh1 j r) ml_X6_46 (Nat.le_of_ble_eq_true rfl) (q_dm dm_X6_readTry 58 rfl) (fun r1 m2 => ?_)
    refine qr_if_eq (tgt := 169) o (q_dm dm_X6_readTry 59 rfl) (by decide) ?_ ?_
    · exact qr_loc (q_leS (q_leS (q_leS (q_leS q_le0)))) (w_X6_readTry_169 n j r hj hr o a1 a2 (8 : Int32) m2)
    · refine qr_aload_n o (q_dm dm_X6_readTry 60 rfl) rfl ?_
      refine qr_getr (kf := 0) o cf_X6 (sh53 j r) rfl (Nat.le_of_ble_eq_true rfl) fl_X6_18 (q_dm dm_X6_readTry 61 rfl) ?_
      refine qr_callv_i (As := []) (S := []) o (a_X9_digit g k.2.1 n j r hj hr  m2) (Nat.le_of_ble_eq_true rfl) zv_X9_digit rfl cf_X9 (sh1 j r) ml_X6_66 (Nat.le_of_ble_eq_true rfl) (q_dm dm_X6_readTry 62 rfl) (fun r3 m4 => ?_)
      refine qs_istore_n (L' := [some (.inr (some 53)), some (.inl a1), some (.inl a2), some (.inl r3)]) o (q_dm dm_X6_readTry 63 rfl) (Nat.le_of_ble_eq_true rfl) rfl ?_
      refine qr_iload_n o (q_dm dm_X6_readTry 64 rfl) rfl ?_
      refine qr_iconst o (q_dm dm_X6_readTry 65 rfl) ic_m1 ?_
      refine qr_icmp_eq (tgt := 131) o (q_dm dm_X6_readTry 66 rfl) (by decide) ?_ ?_
      · exact qr_loc (q_leS (q_leN (q_leN (q_leS q_le0)))) (w_X6_readTry_131 n j r hj hr o r3 m4)
      · refine qr_iload_n o (q_dm dm_X6_readTry 67 rfl) rfl ?_
        refine qr_bipush o (q_dm dm_X6_readTry 68 rfl) bi_8 ?_
        refine qr_icmp_lt (tgt := 156) o (q_dm dm_X6_readTry 69 rfl) (by decide) ?_ ?_
        · refine qr_aload_n o (q_dm dm_X6_readTry 83 rfl) rfl ?_
          refine qr_getr (kf := 0) o cf_X6 (sh53 j r) rfl (Nat.le_of_ble_eq_true rfl) fl_X6_18 (q_dm dm_X6_readTry 84 rfl) ?_
          refine qr_dup o (q_dm dm_X6_readTry 85 rfl) ?_
          refine qr_getf (kf := 3) o cf_X9 (sh1 j r) rfl (Nat.le_of_ble_eq_true rfl) fl_X6_56 (q_dm dm_X6_readTry 86 rfl) ?_
          refine qr_iconst o (q_dm dm_X6_readTry 87 rfl) ic_1 ?_
          refine qr_iadd o (q_dm dm_X6_readTry 88 rfl) ?_
          refine qr_putf (kf := 3) o cf_X9 (sh1 j r) rfl (Nat.le_of_ble_eq_true rfl) fl_X6_56 rfl (by decide +kernel) (q_dm dm_X6_readTry 89 rfl) ?_
          refine qr_letm (fun m5 => ?_)
          exact qr_loc (q_leS (q_leS (q_leS (q_leS q_le0)))) (w_X6_readTry_169 n j r hj hr o a1 a2 r3 m5)
        · exact qr_loc (q_leS (q_leN (q_leN (q_leS q_le0)))) (w_X6_readTry_131 n j r hj hr o r3 m4)
  · refine qr_aload_n o (q_dm dm_X6_readTry 47 rfl) rfl ?_
    refine qr_getr (kf := 0) o cf_X6 (sh53 j r) rfl (Nat.le_of_ble_eq_true rfl) fl_X6_18 (q_dm dm_X6_readTry 48 rfl) ?_
    refine qr_iconst o (q_dm dm_X6_readTry 49 rfl) ic_3 ?_
    refine qr_iload_n o (q_dm dm_X6_readTry 50 rfl) rfl ?_
    refine qr_callv_i (As := [.inl (3 : Int32), .inl a1]) (S := []) o (a_X9_fails g k.2.1 n j r hj hr (3 : Int32) a1 M) (Nat.le_of_ble_eq_true rfl) zv_X9_fails rfl cf_X9 (sh1 j r) ml_X6_59 (Nat.le_of_ble_eq_true rfl) (q_dm dm_X6_readTry 51 rfl) (fun r6 m7 => ?_)
    exact qr_zret o rfl (q_dm dm_X6_readTry 52 rfl)

def f_X6_readTry (n : Nat) (M : qM) : qR :=
  ql (M 1 3) (fun x1 => qc (f_X9_digit n  M) (fun r2 m3 => (if r2 = (-1 : Int32) then qc (f_X9_fails n (1 : Int32) x1 m3) (fun r11 m12 => qb r11 (some (r11, m12))) else qlm (mu m3 1 3 ((m3 1 3) + (1 : Int32))) (fun m4 => qc (f_X9_digit n  m4) (fun r5 m6 => (if r5 = (-1 : Int32) then f_X6_readTry_81 n x1 r2 m6 else qc (f_X9_digit n  m6) (fun r7 m8 => ql (((10 : Int32) * r2) + r7) (fun x9 => qlm (mu m8 1 3 ((m8 1 3) + (1 : Int32))) (fun m10 => f_X6_readTry_81 n x1 x9 m10)))))))))
set_option maxRecDepth 4000 in
theorem w_X6_readTry {g : qG} {k : qK} (n : Nat) (j r : Nat) (hj : q_isLaw j) (hr : q_isLaw r) (o : qOk g 2 zX6_readTry k) (M : qM) : qAE g k zX6_readTry (qL j r) 0 [some (.inr (some 53)), none, none, none] [] (qL j r, M) (f_X6_readTry n  M) := by
  unfold f_X6_readTry
  refine qr_aload_n o (q_dm dm_X6_readTry 0 rfl) rfl ?_
  refine qr_getr (kf := 0) o cf_X6 (sh53 j r) rfl (Nat.le_of_ble_eq_true rfl) fl_X6_18 (q_dm dm_X6_readTry 1 rfl) ?_
  refine qr_getf (kf := 3) o cf_X9 (sh1 j r) rfl (Nat.le_of_ble_eq_true rfl) fl_X6_56 (q_dm dm_X6_readTry 2 rfl) ?_
  refine qr_lt (fun x1 => ?_)
  refine qs_istore_n (L' := [some (.inr (some 53)), some (.inl x1), none, none]) o (q_dm dm_X6_readTry 3 rfl) (Nat.le_of_ble_eq_true rfl) rfl ?_
  refine qr_aload_n o (q_dm dm_X6_readTry 4 rfl) rfl ?_
  refine qr_getr (kf := 0) o cf_X6 (sh53 j r) rfl (Nat.le_of_ble_eq_true rfl) fl_X6_18 (q_dm dm_X6_readTry 5 rfl) ?_
  refine qr_callv_i (As := []) (S := []) o (a_X9_digit g k.2.1 n j r hj hr  M) (Nat.le_of_ble_eq_true rfl) zv_X9_digit rfl cf_X9 (sh1 j r) ml_X6_66 (Nat.le_of_ble_eq_true rfl) (q_dm dm_X6_readTry 6 rfl) (fun r2 m3 => ?_)
  refine qs_istore_n (L' := [some (.inr (some 53)), some (.inl x1), some (.inl r2), none]) o (q_dm dm_X6_readTry 7 rfl) (Nat.le_of_ble_eq_true rfl) rfl ?_
  refine qr_iload_n o (q_dm dm_X6_readTry 8 rfl) rfl ?_
  refine qr_iconst o (q_dm dm_X6_readTry 9 rfl) ic_m1 ?_
  refine qr_icmp_ne (tgt := 31) o (q_dm dm_X6_readTry 10 rfl) (by decide) ?_ ?_
  · refine qr_aload_n o (q_dm dm_X6_readTry 17 rfl) rfl ?_
    refine qr_getr (kf := 0) o cf_X6 (sh53 j r) rfl (Nat.le_of_ble_eq_true rfl) fl_X6_18 (q_dm dm_X6_readTry 18 rfl) ?_
    refine qr_dup o (q_dm dm_X6_readTry 19 rfl) ?_
    refine qr_getf (kf := 3) o cf_X9 (sh1 j r) rfl (Nat.le_of_ble_eq_true rfl) fl_X6_56 (q_dm dm_X6_readTry 20 rfl) ?_
    refine qr_iconst o (q_dm dm_X6_readTry 21 rfl) ic_1 ?_
    refine qr_iadd o (q_dm dm_X6_readTry 22 rfl) ?_
    refine qr_putf (kf := 3) o cf_X9 (sh1 j r) rfl (Nat.le_of_ble_eq_true rfl) fl_X6_56 rfl (by decide +kernel) (q_dm dm_X6_readTry 23 rfl) ?_
    refine qr_letm (fun m4 => ?_)
    refine qr_aload_n o (q_dm dm_X6_readTry 24 rfl) rfl ?_
    refine qr_getr (kf := 0) o cf_X6 (sh53 j r) rfl (Nat.le_of_ble_eq_true rfl) fl_X6_18 (q_dm dm_X6_readTry 25 rfl) ?_
    refine qr_callv_i (As := []) (S := []) o (a_X9_digit g k.2.1 n j r hj hr  m4) (Nat.le_of_ble_eq_true rfl) zv_X9_digit rfl cf_X9 (sh1 j r) ml_X6_66 (Nat.le_of_ble_eq_true rfl) (q_dm dm_X6_readTry 26 rfl) (fun r5 m6 => ?_)
    refine qr_iconst o (q_dm dm_X6_readTry 27 rfl) ic_m1 ?_
    refine qr_icmp_eq (tgt := 81) o (q_dm dm_X6_readTry 28 rfl) (by decide) ?_ ?_
    · exact qr_loc (q_leS (q_leS (q_leS (q_leN q_le0)))) (w_X6_readTry_81 n j r hj hr o x1 r2 m6)
    · refine qr_bipush o (q_dm dm_X6_readTry 29 rfl) bi_10 ?_
      refine qr_iload_n o (q_dm dm_X6_readTry 30 rfl) rfl ?_
      refine qr_imul o (q_dm dm_X6_readTry 31 rfl) ?_
      refine qr_aload_n o (q_dm dm_X6_readTry 32 rfl) rfl ?_
      refine qr_getr (kf := 0) o cf_X6 (sh53 j r) rfl (Nat.le_of_ble_eq_true rfl) fl_X6_18 (q_dm dm_X6_readTry 33 rfl) ?_
      refine qr_callv_i (As := []) (S := [.inl ((10 : Int32) * r2)]) o (a_X9_digit g k.2.1 n j r hj hr  m6) (Nat.le_of_ble_eq_true rfl) zv_X9_digit rfl cf_X9 (sh1 j r) ml_X6_66 (Nat.le_of_ble_eq_true rfl) (q_dm dm_X6_readTry 34 rfl) (fun r7 m8 => ?_)
      refine qr_iadd o (q_dm dm_X6_readTry 35 rfl) ?_
      refine qr_lt (fun x9 => ?_)
      refine qs_istore_n (L' := [some (.inr (some 53)), some (.inl x1), some (.inl x9), none]) o (q_dm dm_X6_readTry 36 rfl) (Nat.le_of_ble_eq_true rfl) rfl ?_
      refine qr_aload_n o (q_dm dm_X6_readTry 37 rfl) rfl ?_
      refine qr_getr (kf := 0) o cf_X6 (sh53 j r) rfl (Nat.le_of_ble_eq_true rfl) fl_X6_18 (q_dm dm_X6_readTry 38 rfl) ?_
      refine qr_dup o (q_dm dm_X6_readTry 39 rfl) ?_
      refine qr_getf (kf := 3) o cf_X9 (sh1 j r) rfl (Nat.le_of_ble_eq_true rfl) fl_X6_56 (q_dm dm_X6_readTry 40 rfl) ?_
      refine qr_iconst o (q_dm dm_X6_readTry 41 rfl) ic_1 ?_
      refine qr_iadd o (q_dm dm_X6_readTry 42 rfl) ?_
      refine qr_putf (kf := 3) o cf_X9 (sh1 j r) rfl (Nat.le_of_ble_eq_true rfl) fl_X6_56 rfl (by decide +kernel) (q_dm dm_X6_readTry 43 rfl) ?_
      refine qr_letm (fun m10 => ?_)
      exact qr_loc (q_leS (q_leS (q_leS (q_leN q_le0)))) (w_X6_readTry_81 n j r hj hr o x1 x9 m10)
  · refine qr_aload_n o (q_dm dm_X6_readTry 11 rfl) rfl ?_
    refine qr_getr (kf := 0) o cf_X6 (sh53 j r) rfl (Nat.le_of_ble_eq_true rfl) fl_X6_18 (q_dm dm_X6_readTry 12 rfl) ?_
    refine qr_iconst o (q_dm dm_X6_readTry 13 rfl) ic_1 ?_
    refine qr_iload_n o (q_dm dm_X6_readTry 14 rfl) rfl ?_
    refine qr_callv_i (As := [.inl (1 : Int32), .inl x1]) (S := []) o (a_X9_fails g k.2.1 n j r hj hr (1 : Int32) x1 m3) (Nat.le_of_ble_eq_true rfl) zv_X9_fails rfl cf_X9 (sh1 j r) ml_X6_59 (Nat.le_of_ble_eq_true rfl) (q_dm dm_X6_readTry 15 rfl) (fun r11 m12 => ?_)
    exact qr_zret o rfl (q_dm dm_X6_readTry 16 rfl)

theorem a_X6_readTry (g : qG) (l : Launch) (n : Nat) (j r : Nat) (hj : q_isLaw j) (hr : q_isLaw r) (M : qM) : qAM g l 2 zX6_readTry (qL j r) [.inr (some 53)] (qL j r, M) (f_X6_readTry n  M) :=
  qAM.of zv_X6_readTry.1 (by show 1 ≤ 4; decide) (fun k hk o => w_X6_readTry n j r hj hr o  M)
def tb_X6_repeatSteps : List (Nat × Instr × Nat) := [(0, (.aload_n 0, 1)), (1, (.getfield 28, 3)), (4, (.istore_n 3, 1)), (5, (.iconst 1, 1)), (6, (.istore 4, 2)), (8, (.iload 4, 2)), (10, (.iload_n 2, 1)), (11, (.if_icmp .ge 47, 3)), (14, (.iload_n 1, 1)), (15, (.istore 5, 2)), (17, (.iload 5, 2)), (19, (.iload_n 3, 1)), (20, (.if_icmp .ge 32, 3)), (23, (.aload_n 0, 1)), (24, (.aload_n 0, 1)), (25, (.getfield 9, 3)), (28, (.iload 5, 2)), (30, (.iaload, 1)), (31, (.aload_n 0, 1)), (32, (.getfield 15, 3)), (35, (.iload 5, 2)), (37, (.iaload, 1)), (38, (.invokevirtual 72, 3)), (41, (.ifCond .ne 5, 3)), (44, (.iconst 0, 1)), (45, (.ireturn, 1)), (46, (.iinc 5 1, 3)), (49, (.goto (-32), 3)), (52, (.iinc 4 1, 3)), (55, (.goto (-47), 3)), (58, (.iconst 1, 1)), (59, (.ireturn, 1))]
theorem dm_X6_repeatSteps : ∀ q ∈ tb_X6_repeatSteps, decode zX6_repeatSteps.2.1 q.1 = .ok q.2 := by decide +kernel
def b_X6_repeatSteps_17 (n : Nat) (K8 : Int32 → Int32 → Int32 → Int32 → qM → qR) (K17 : Int32 → Int32 → Int32 → Int32 → Int32 → qM → qR) (a1 a2 a3 a4 a5 : Int32) (M : qM) : qR :=
  (if a3 ≤ a5 then ql (a4 + (1 : Int32)) (fun x1 => K8 a1 a2 a3 x1 M) else qg a5 40 (qg a5 40 (qc (f_X6_addStep n (M 54 a5.toNatClampNeg) (M 55 a5.toNatClampNeg) M) (fun r2 m3 => (if r2 = (0 : Int32) then some ((0 : Int32), m3) else ql (a5 + (1 : Int32)) (fun x4 => K17 a1 a2 a3 a4 x4 m3))))))
set_option maxRecDepth 4000 in
theorem wb_X6_repeatSteps_17 {g : qG} {k : qK} (n : Nat) (j r : Nat) (hj : q_isLaw j) (hr : q_isLaw r) (o : qOk g 1 zX6_repeatSteps k) (K8 : Int32 → Int32 → Int32 → Int32 → qM → qR) (hK8 : ∀ (a1 a2 a3 a4 : Int32) (M : qM), qAE g k zX6_repeatSteps (qL j r) 8 [some (.inr (some 53)), some (.inl a1), some (.inl a2), some (.inl a3), some (.inl a4), none] [] (qL j r, M) (K8 a1 a2 a3 a4 M)) (K17 : Int32 → Int32 → Int32 → Int32 → Int32 → qM → qR) (hK17 : ∀ (a1 a2 a3 a4 a5 : Int32) (M : qM), qAE g k zX6_repeatSteps (qL j r) 17 [some (.inr (some 53)), some (.inl a1), some (.inl a2), some (.inl a3), some (.inl a4), some (.inl a5)] [] (qL j r, M) (K17 a1 a2 a3 a4 a5 M)) (a1 a2 a3 a4 a5 : Int32) (M : qM) : qAE g k zX6_repeatSteps (qL j r) 17 [some (.inr (some 53)), some (.inl a1), some (.inl a2), some (.inl a3), some (.inl a4), some (.inl a5)] [] (qL j r, M) (b_X6_repeatSteps_17 n K8 K17 a1 a2 a3 a4 a5 M) := by
  unfold b_X6_repeatSteps_17
  refine qr_iload o (q_dm dm_X6_repeatSteps 10 rfl) rfl ?_
  refine qr_iload_n o (q_dm dm_X6_repeatSteps 11 rfl) rfl ?_
  refine qr_icmp_ge (tgt := 52) o (q_dm dm_X6_repeatSteps 12 rfl) (by decide) ?_ ?_
  · refine qs_iincl2 (L' := fun x1 => [some (.inr (some 53)), some (.inl a1), some (.inl a2), some (.inl a3), some (.inl x1), some (.inl a5)]) o (q_dm dm_X6_repeatSteps 28 rfl) rfl ic_1 (Nat.le_of_ble_eq_true rfl) (fun _ => rfl) (fun x1 => ?_)
    refine qr_goto (tgt := 8) o (q_dm dm_X6_repeatSteps 29 rfl) (by decide) ?_
    exact qr_loc (q_leS (q_leS (q_leS (q_leS (q_leS (q_leN q_le0)))))) (hK8 a1 a2 a3 x1 M)
  · refine qr_aload_n o (q_dm dm_X6_repeatSteps 13 rfl) rfl ?_
    refine qr_aload_n o (q_dm dm_X6_repeatSteps 14 rfl) rfl ?_
    refine qr_getr (kf := 1) o cf_X6 (sh53 j r) rfl (Nat.le_of_ble_eq_true rfl) fl_X6_9 (q_dm dm_X6_repeatSteps 15 rfl) ?_
    refine qr_iload o (q_dm dm_X6_repeatSteps 16 rfl) rfl ?_
    refine qr_iald o (sh54 j r) (q_dm dm_X6_repeatSteps 17 rfl) ?_
    refine qr_aload_n o (q_dm dm_X6_repeatSteps 18 rfl) rfl ?_
    refine qr_getr (kf := 2) o cf_X6 (sh53 j r) rfl (Nat.le_of_ble_eq_true rfl) fl_X6_15 (q_dm dm_X6_repeatSteps 19 rfl) ?_
    refine qr_iload o (q_dm dm_X6_repeatSteps 20 rfl) rfl ?_
    refine qr_iald o (sh55 j r) (q_dm dm_X6_repeatSteps 21 rfl) ?_
    refine qr_callv_i (As := [.inl (M 54 a5.toNatClampNeg), .inl (M 55 a5.toNatClampNeg)]) (S := []) o (a_X6_addStep g k.2.1 n j r hj hr (M 54 a5.toNatClampNeg) (M 55 a5.toNatClampNeg) M) (Nat.le_of_ble_eq_true rfl) zv_X6_addStep rfl cf_X6 (sh53 j r) ml_X6_72 (Nat.le_of_ble_eq_true rfl) (q_dm dm_X6_repeatSteps 22 rfl) (fun r2 m3 => ?_)
    refine qr_if_ne (tgt := 46) o (q_dm dm_X6_repeatSteps 23 rfl) (by decide) ?_ ?_
    · refine qs_iincl2 (L' := fun x4 => [some (.inr (some 53)), some (.inl a1), some (.inl a2), some (.inl a3), some (.inl a4), some (.inl x4)]) o (q_dm dm_X6_repeatSteps 26 rfl) rfl ic_1 (Nat.le_of_ble_eq_true rfl) (fun _ => rfl) (fun x4 => ?_)
      refine qr_goto (tgt := 17) o (q_dm dm_X6_repeatSteps 27 rfl) (by decide) ?_
      exact qr_loc (q_leS (q_leS (q_leS (q_leS (q_leS (q_leS q_le0)))))) (hK17 a1 a2 a3 a4 x4 m3)
    · refine qr_iconst o (q_dm dm_X6_repeatSteps 24 rfl) ic_0 ?_
      exact qr_iret o rfl (by decide) (q_dm dm_X6_repeatSteps 25 rfl)

def f_X6_repeatSteps_17 (n : Nat) (K8 : Int32 → Int32 → Int32 → Int32 → qM → qR) : Nat → Int32 → Int32 → Int32 → Int32 → Int32 → qM → qR
  | 0, _, _, _, _, _, _ => none
  | m + 1, a1, a2, a3, a4, a5, M => b_X6_repeatSteps_17 n K8 (f_X6_repeatSteps_17 n K8 m) a1 a2 a3 a4 a5 M
theorem w_X6_repeatSteps_17 {g : qG} {k : qK} (n : Nat) (j r : Nat) (hj : q_isLaw j) (hr : q_isLaw r) (o : qOk g 1 zX6_repeatSteps k) (K8 : Int32 → Int32 → Int32 → Int32 → qM → qR) (hK8 : ∀ (a1 a2 a3 a4 : Int32) (M : qM), qAE g k zX6_repeatSteps (qL j r) 8 [some (.inr (some 53)), some (.inl a1), some (.inl a2), some (.inl a3), some (.inl a4), none] [] (qL j r, M) (K8 a1 a2 a3 a4 M)) : ∀ (m : Nat) (a1 a2 a3 a4 a5 : Int32) (M : qM), qAE g k zX6_repeatSteps (qL j r) 17 [some (.inr (some 53)), some (.inl a1), some (.inl a2), some (.inl a3), some (.inl a4), some (.inl a5)] [] (qL j r, M) (f_X6_repeatSteps_17 n K8 m a1 a2 a3 a4 a5 M) := by
  intro m
  induction m with
  | zero =>
    intro a1 a2 a3 a4 a5 M
    exact qr_none
  | succ m ih =>
    intro a1 a2 a3 a4 a5 M
    exact wb_X6_repeatSteps_17 n j r hj hr o K8 hK8 (f_X6_repeatSteps_17 n K8 m) ih a1 a2 a3 a4 a5 M
def b_X6_repeatSteps_8 (n : Nat) (K8 : Int32 → Int32 → Int32 → Int32 → qM → qR) (a1 a2 a3 a4 : Int32) (M : qM) : qR :=
  (if a2 ≤ a4 then some ((1 : Int32), M) else f_X6_repeatSteps_17 n K8 n a1 a2 a3 a4 a1 M)
set_option maxRecDepth 4000 in
theorem wb_X6_repeatSteps_8 {g : qG} {k : qK} (n : Nat) (j r : Nat) (hj : q_isLaw j) (hr : q_isLaw r) (o : qOk g 1 zX6_repeatSteps k) (K8 : Int32 → Int32 → Int32 → Int32 → qM → qR) (hK8 : ∀ (a1 a2 a3 a4 : Int32) (M : qM), qAE g k zX6_repeatSteps (qL j r) 8 [some (.inr (some 53)), some (.inl a1), some (.inl a2), some (.inl a3), some (.inl a4), none] [] (qL j r, M) (K8 a1 a2 a3 a4 M)) (a1 a2 a3 a4 : Int32) (M : qM) : qAE g k zX6_repeatSteps (qL j r) 8 [some (.inr (some 53)), some (.inl a1), some (.inl a2), some (.inl a3), some (.inl a4), none] [] (qL j r, M) (b_X6_repeatSteps_8 n K8 a1 a2 a3 a4 M) := by
  unfold b_X6_repeatSteps_8
  refine qr_iload o (q_dm dm_X6_repeatSteps 5 rfl) rfl ?_
  refine qr_iload_n o (q_dm dm_X6_repeatSteps 6 rfl) rfl ?_
  refine qr_icmp_ge (tgt := 58) o (q_dm dm_X6_repeatSteps 7 rfl) (by decide) ?_ ?_
  · refine qr_iconst o (q_dm dm_X6_repeatSteps 30 rfl) ic_1 ?_
    exact qr_iret o rfl (by decide) (q_dm dm_X6_repeatSteps 31 rfl)
  · refine qr_iload_n o (q_dm dm_X6_repeatSteps 8 rfl) rfl ?_
    refine qs_istore (L' := [some (.inr (some 53)), some (.inl a1), some (.inl a2), some (.inl a3), some (.inl a4), some (.inl a1)]) o (q_dm dm_X6_repeatSteps 9 rfl) (Nat.le_of_ble_eq_true rfl) rfl ?_
    exact qr_loc (q_leS (q_leS (q_leS (q_leS (q_leS (q_leS q_le0)))))) (w_X6_repeatSteps_17 n j r hj hr o K8 hK8 n a1 a2 a3 a4 a1 M)

def f_X6_repeatSteps_8 (n : Nat) : Nat → Int32 → Int32 → Int32 → Int32 → qM → qR
  | 0, _, _, _, _, _ => none
  | m + 1, a1, a2, a3, a4, M => b_X6_repeatSteps_8 n (f_X6_repeatSteps_8 n m) a1 a2 a3 a4 M
theorem w_X6_repeatSteps_8 {g : qG} {k : qK} (n : Nat) (j r : Nat) (hj : q_isLaw j) (hr : q_isLaw r) (o : qOk g 1 zX6_repeatSteps k) : ∀ (m : Nat) (a1 a2 a3 a4 : Int32) (M : qM), qAE g k zX6_repeatSteps (qL j r) 8 [some (.inr (some 53)), some (.inl a1), some (.inl a2), some (.inl a3), some (.inl a4), none] [] (qL j r, M) (f_X6_repeatSteps_8 n m a1 a2 a3 a4 M) := by
  intro m
  induction m with
  | zero =>
    intro a1 a2 a3 a4 M
    exact qr_none
  | succ m ih =>
    intro a1 a2 a3 a4 M
    exact wb_X6_repeatSteps_8 n j r hj hr o (f_X6_repeatSteps_8 n m) ih a1 a2 a3 a4 M
def f_X6_repeatSteps (n : Nat) (a1 a2 : Int32) (M : qM) : qR :=
  ql (M 53 3) (fun x1 => f_X6_repeatSteps_8 n n a1 a2 x1 (1 : Int32) M)
set_option maxRecDepth 4000 in
theorem w_X6_repeatSteps {g : qG} {k : qK} (n : Nat) (j r : Nat) (hj : q_isLaw j) (hr : q_isLaw r) (o : qOk g 1 zX6_repeatSteps k) (a1 a2 : Int32) (M : qM) : qAE g k zX6_repeatSteps (qL j r) 0 [some (.inr (some 53)), some (.inl a1), some (.inl a2), none, none, none] [] (qL j r, M) (f_X6_repeatSteps n a1 a2 M) := by
  unfold f_X6_repeatSteps
  refine qr_aload_n o (q_dm dm_X6_repeatSteps 0 rfl) rfl ?_
  refine qr_getf (kf := 3) o cf_X6 (sh53 j r) rfl (Nat.le_of_ble_eq_true rfl) fl_X6_28 (q_dm dm_X6_repeatSteps 1 rfl) ?_
  refine qr_lt (fun x1 => ?_)
  refine qs_istore_n (L' := [some (.inr (some 53)), some (.inl a1), some (.inl a2), some (.inl x1), none, none]) o (q_dm dm_X6_repeatSteps 2 rfl) (Nat.le_of_ble_eq_true rfl) rfl ?_
  refine qr_iconst o (q_dm dm_X6_repeatSteps 3 rfl) ic_1 ?_
  refine qs_istore (L' := [some (.inr (some 53)), some (.inl a1), some (.inl a2), some (.inl x1), some (.inl (1 : Int32)), none]) o (q_dm dm_X6_repeatSteps 4 rfl) (Nat.le_of_ble_eq_true rfl) rfl ?_
  exact qr_loc (q_leS (q_leS (q_leS (q_leS (q_leS (q_leN q_le0)))))) (w_X6_repeatSteps_8 n j r hj hr o n a1 a2 x1 (1 : Int32) M)

theorem a_X6_repeatSteps (g : qG) (l : Launch) (n : Nat) (j r : Nat) (hj : q_isLaw j) (hr : q_isLaw r) (a1 a2 : Int32) (M : qM) : qAM g l 1 zX6_repeatSteps (qL j r) [.inr (some 53), .inl a1, .inl a2] (qL j r, M) (f_X6_repeatSteps n a1 a2 M) :=
  qAM.of zv_X6_repeatSteps.1 (by show 3 ≤ 6; decide) (fun k hk o => w_X6_repeatSteps n j r hj hr o a1 a2 M)
def tb_X6_readStep : List (Nat × Instr × Nat) := [(0, (.aload_n 0, 1)), (1, (.getfield 18, 3)), (4, (.invokevirtual 49, 3)), (7, (.bipush 40, 2)), (9, (.if_icmp .eq 8, 3)), (12, (.aload_n 0, 1)), (13, (.invokevirtual 53, 3)), (16, (.ireturn, 1)), (17, (.aload_n 0, 1)), (18, (.getfield 18, 3)), (21, (.getfield 56, 3)), (24, (.istore_n 2, 1)), (25, (.aload_n 0, 1)), (26, (.getfield 28, 3)), (29, (.istore_n 3, 1)), (30, (.iload_n 1, 1)), (31, (.iconst 3, 1)), (32, (.if_icmp .lt 13, 3)), (35, (.aload_n 0, 1)), (36, (.getfield 18, 3)), (39, (.iconst 5, 1)), (40, (.iload_n 2, 1)), (41, (.invokevirtual 59, 3)), (44, (.ireturn, 1)), (45, (.aload_n 0, 1)), (46, (.getfield 18, 3)), (49, (.dup, 1)), (50, (.getfield 56, 3)), (53, (.iconst 1, 1)), (54, (.iadd, 1)), (55, (.putfield 56, 3)), (58, (.aload_n 0, 1)), (59, (.iload_n 1, 1)), (60, (.iconst 1, 1)), (61, (.iadd, 1)), (62, (.invokevirtual 32, 3)), (65, (.ifCond .eq 15, 3)), (68, (.aload_n 0, 1)), (69, (.getfield 18, 3)), (72, (.bipush 41, 2)), (74, (.invokevirtual 63, 3)), (77, (.ifCond .ne 5, 3)), (80, (.iconst 0, 1)), (81, (.ireturn, 1)), (82, (.aload_n 0, 1)), (83, (.getfield 18, 3)), (86, (.invokevirtual 66, 3)), (89, (.istore 4, 2)), (91, (.iload 4, 2)), (93, (.iconst 2, 1)), (94, (.if_icmp .ge 19, 3)), (97, (.aload_n 0, 1)), (98, (.getfield 18, 3)), (101, (.iconst 1, 1)), (102, (.aload_n 0, 1)), (103, (.getfield 18, 3)), (106, (.getfield 56, 3)), (109, (.invokevirtual 59, 3)), (112, (.ireturn, 1)), (113, (.aload_n 0, 1)), (114, (.getfield 18, 3)), (117, (.dup, 1)), (118, (.getfield 56, 3)), (121, (.iconst 1, 1)), (122, (.iadd, 1)), (123, (.putfield 56, 3)), (126, (.aload_n 0, 1)), (127, (.iload_n 3, 1)), (128, (.iload 4, 2)), (130, (.invokevirtual 69, 3)), (133, (.ifCond .ne 16, 3)), (136, (.aload_n 0, 1)), (137, (.getfield 18, 3)), (140, (.bipush 6, 2)), (142, (.iload_n 2, 1)), (143, (.invokevirtual 59, 3)), (146, (.ifCond .eq 7, 3)), (149, (.iconst 1, 1)), (150, (.goto 4, 3)), (153, (.iconst 0, 1)), (154, (.ireturn, 1))]
theorem dm_X6_readStep : ∀ q ∈ tb_X6_readStep, decode zX6_readStep.2.1 q.1 = .ok q.2 := by decide +kernel
def fo_X6_readStep (n : Nat) (F_X6_readSteps : Int32 → qM → qR) (a1 : Int32) (M : qM) : qR :=
  qc (f_X9_sign n  M) (fun r1 m2 => (if r1 = (40 : Int32) then ql (m2 1 3) (fun x3 => ql (m2 53 3) (fun x4 => (if a1 < (3 : Int32) then qlm (mu m2 1 3 ((m2 1 3) + (1 : Int32))) (fun m5 => qc (F_X6_readSteps (a1 + (1 : Int32)) m5) (fun r6 m7 => (if r6 = (0 : Int32) then some ((0 : Int32), m7) else qc (f_X9_mustTake n (41 : Int32) m7) (fun r8 m9 => (if r8 = (0 : Int32) then some ((0 : Int32), m9) else qc (f_X9_digit n  m9) (fun r10 m11 => (if (2 : Int32) ≤ r10 then qlm (mu m11 1 3 ((m11 1 3) + (1 : Int32))) (fun m12 => qc (f_X6_repeatSteps n x4 r10 m12) (fun r13 m14 => (if r13 = (0 : Int32) then qc (f_X9_fails n (6 : Int32) x3 m14) (fun r15 m16 => (if r15 = (0 : Int32) then some ((0 : Int32), m16) else some ((1 : Int32), m16))) else some ((1 : Int32), m14)))) else qc (f_X9_fails n (1 : Int32) (m11 1 3) m11) (fun r17 m18 => qb r17 (some (r17, m18)))))))))) else qc (f_X9_fails n (5 : Int32) x3 m2) (fun r19 m20 => qb r19 (some (r19, m20)))))) else qc (f_X6_readTry n  m2) (fun r21 m22 => qb r21 (some (r21, m22)))))
set_option maxRecDepth 4000 in
theorem w_X6_readStep {g : qG} {k : qK} (n : Nat) (j r : Nat) (hj : q_isLaw j) (hr : q_isLaw r) {d1 d : Nat} (hd1 : d1 + 1 ≤ d) (hdn : 3 ≤ d) (F_X6_readSteps : Int32 → qM → qR) (hF_X6_readSteps : ∀ (b1 : Int32) (M : qM), qAM g k.2.1 d1 zX6_readSteps (qL j r) [.inr (some 53), .inl b1] (qL j r, M) (F_X6_readSteps b1 M)) (o : qOk g d zX6_readStep k) (a1 : Int32) (M : qM) : qAE g k zX6_readStep (qL j r) 0 [some (.inr (some 53)), some (.inl a1), none, none, none] [] (qL j r, M) (fo_X6_readStep n F_X6_readSteps a1 M) := by
  unfold fo_X6_readStep
  refine qr_aload_n o (q_dm dm_X6_readStep 0 rfl) rfl ?_
  refine qr_getr (kf := 0) o cf_X6 (sh53 j r) rfl (Nat.le_of_ble_eq_true rfl) fl_X6_18 (q_dm dm_X6_readStep 1 rfl) ?_
  refine qr_callv_i (As := []) (S := []) o (a_X9_sign g k.2.1 n j r hj hr  M) (by omega) zv_X9_sign rfl cf_X9 (sh1 j r) ml_X6_49 (Nat.le_of_ble_eq_true rfl) (q_dm dm_X6_readStep 2 rfl) (fun r1 m2 => ?_)
  refine qr_bipush o (q_dm dm_X6_readStep 3 rfl) bi_40 ?_
  refine qr_icmp_eq (tgt := 17) o (q_dm dm_X6_readStep 4 rfl) (by decide) ?_ ?_
  · refine qr_aload_n o (q_dm dm_X6_readStep 8 rfl) rfl ?_
    refine qr_getr (kf := 0) o cf_X6 (sh53 j r) rfl (Nat.le_of_ble_eq_true rfl) fl_X6_18 (q_dm dm_X6_readStep 9 rfl) ?_
    refine qr_getf (kf := 3) o cf_X9 (sh1 j r) rfl (Nat.le_of_ble_eq_true rfl) fl_X6_56 (q_dm dm_X6_readStep 10 rfl) ?_
    refine qr_lt (fun x3 => ?_)
    refine qs_istore_n (L' := [some (.inr (some 53)), some (.inl a1), some (.inl x3), none, none]) o (q_dm dm_X6_readStep 11 rfl) (Nat.le_of_ble_eq_true rfl) rfl ?_
    refine qr_aload_n o (q_dm dm_X6_readStep 12 rfl) rfl ?_
    refine qr_getf (kf := 3) o cf_X6 (sh53 j r) rfl (Nat.le_of_ble_eq_true rfl) fl_X6_28 (q_dm dm_X6_readStep 13 rfl) ?_
    refine qr_lt (fun x4 => ?_)
    refine qs_istore_n (L' := [some (.inr (some 53)), some (.inl a1), some (.inl x3), some (.inl x4), none]) o (q_dm dm_X6_readStep 14 rfl) (Nat.le_of_ble_eq_true rfl) rfl ?_
    refine qr_iload_n o (q_dm dm_X6_readStep 15 rfl) rfl ?_
    refine qr_iconst o (q_dm dm_X6_readStep 16 rfl) ic_3 ?_
    refine qr_icmp_lt (tgt := 45) o (q_dm dm_X6_readStep 17 rfl) (by decide) ?_ ?_
    · refine qr_aload_n o (q_dm dm_X6_readStep 24 rfl) rfl ?_
      refine qr_getr (kf := 0) o cf_X6 (sh53 j r) rfl (Nat.le_of_ble_eq_true rfl) fl_X6_18 (q_dm dm_X6_readStep 25 rfl) ?_
      refine qr_dup o (q_dm dm_X6_readStep 26 rfl) ?_
      refine qr_getf (kf := 3) o cf_X9 (sh1 j r) rfl (Nat.le_of_ble_eq_true rfl) fl_X6_56 (q_dm dm_X6_readStep 27 rfl) ?_
      refine qr_iconst o (q_dm dm_X6_readStep 28 rfl) ic_1 ?_
      refine qr_iadd o (q_dm dm_X6_readStep 29 rfl) ?_
      refine qr_putf (kf := 3) o cf_X9 (sh1 j r) rfl (Nat.le_of_ble_eq_true rfl) fl_X6_56 rfl (by decide +kernel) (q_dm dm_X6_readStep 30 rfl) ?_
      refine qr_letm (fun m5 => ?_)
      refine qr_aload_n o (q_dm dm_X6_readStep 31 rfl) rfl ?_
      refine qr_iload_n o (q_dm dm_X6_readStep 32 rfl) rfl ?_
      refine qr_iconst o (q_dm dm_X6_readStep 33 rfl) ic_1 ?_
      refine qr_iadd o (q_dm dm_X6_readStep 34 rfl) ?_
      refine qr_callv_i (As := [.inl (a1 + (1 : Int32))]) (S := []) o (hF_X6_readSteps (a1 + (1 : Int32)) m5) (by omega) zv_X6_readSteps rfl cf_X6 (sh53 j r) ml_X6_32 (Nat.le_of_ble_eq_true rfl) (q_dm dm_X6_readStep 35 rfl) (fun r6 m7 => ?_)
      refine qr_if_eq (tgt := 80) o (q_dm dm_X6_readStep 36 rfl) (by decide) ?_ ?_
      · refine qr_iconst o (q_dm dm_X6_readStep 42 rfl) ic_0 ?_
        exact qr_iret o rfl (by decide) (q_dm dm_X6_readStep 43 rfl)
      · refine qr_aload_n o (q_dm dm_X6_readStep 37 rfl) rfl ?_
        refine qr_getr (kf := 0) o cf_X6 (sh53 j r) rfl (Nat.le_of_ble_eq_true rfl) fl_X6_18 (q_dm dm_X6_readStep 38 rfl) ?_
        refine qr_bipush o (q_dm dm_X6_readStep 39 rfl) bi_41 ?_
        refine qr_callv_i (As := [.inl (41 : Int32)]) (S := []) o (a_X9_mustTake g k.2.1 n j r hj hr (41 : Int32) m7) (by omega) zv_X9_mustTake rfl cf_X9 (sh1 j r) ml_X6_63 (Nat.le_of_ble_eq_true rfl) (q_dm dm_X6_readStep 40 rfl) (fun r8 m9 => ?_)
        refine qr_if_ne (tgt := 82) o (q_dm dm_X6_readStep 41 rfl) (by decide) ?_ ?_
        · refine qr_aload_n o (q_dm dm_X6_readStep 44 rfl) rfl ?_
          refine qr_getr (kf := 0) o cf_X6 (sh53 j r) rfl (Nat.le_of_ble_eq_true rfl) fl_X6_18 (q_dm dm_X6_readStep 45 rfl) ?_
          refine qr_callv_i (As := []) (S := []) o (a_X9_digit g k.2.1 n j r hj hr  m9) (by omega) zv_X9_digit rfl cf_X9 (sh1 j r) ml_X6_66 (Nat.le_of_ble_eq_true rfl) (q_dm dm_X6_readStep 46 rfl) (fun r10 m11 => ?_)
          refine qs_istore (L' := [some (.inr (some 53)), some (.inl a1), some (.inl x3), some (.inl x4), some (.inl r10)]) o (q_dm dm_X6_readStep 47 rfl) (Nat.le_of_ble_eq_true rfl) rfl ?_
          refine qr_iload o (q_dm dm_X6_readStep 48 rfl) rfl ?_
          refine qr_iconst o (q_dm dm_X6_readStep 49 rfl) ic_2 ?_
          refine qr_icmp_ge (tgt := 113) o (q_dm dm_X6_readStep 50 rfl) (by decide) ?_ ?_
          · refine qr_aload_n o (q_dm dm_X6_readStep 59 rfl) rfl ?_
            refine qr_getr (kf := 0) o cf_X6 (sh53 j r) rfl (Nat.le_of_ble_eq_true rfl) fl_X6_18 (q_dm dm_X6_readStep 60 rfl) ?_
            refine qr_dup o (q_dm dm_X6_readStep 61 rfl) ?_
            refine qr_getf (kf := 3) o cf_X9 (sh1 j r) rfl (Nat.le_of_ble_eq_true rfl) fl_X6_56 (q_dm dm_X6_readStep 62 rfl) ?_
            refine qr_iconst o (q_dm dm_X6_readStep 63 rfl) ic_1 ?_
            refine qr_iadd o (q_dm dm_X6_readStep 64 rfl) ?_
            refine qr_putf (kf := 3) o cf_X9 (sh1 j r) rfl (Nat.le_of_ble_eq_true rfl) fl_X6_56 rfl (by decide +kernel) (q_dm dm_X6_readStep 65 rfl) ?_
            refine qr_letm (fun m12 => ?_)
            refine qr_aload_n o (q_dm dm_X6_readStep 66 rfl) rfl ?_
            refine qr_iload_n o (q_dm dm_X6_readStep 67 rfl) rfl ?_
            refine qr_iload o (q_dm dm_X6_readStep 68 rfl) rfl ?_
            refine qr_callv_i (As := [.inl x4, .inl r10]) (S := []) o (a_X6_repeatSteps g k.2.1 n j r hj hr x4 r10 m12) (by omega) zv_X6_repeatSteps rfl cf_X6 (sh53 j r) ml_X6_69 (Nat.le_of_ble_eq_true rfl) (q_dm dm_X6_readStep 69 rfl) (fun r13 m14 => ?_)
            refine qr_if_ne (tgt := 149) o (q_dm dm_X6_readStep 70 rfl) (by decide) ?_ ?_
            · refine qr_iconst o (q_dm dm_X6_readStep 77 rfl) ic_1 ?_
              refine qr_goto (tgt := 154) o (q_dm dm_X6_readStep 78 rfl) (by decide) ?_
              exact qr_iret o rfl (by decide) (q_dm dm_X6_readStep 80 rfl)
            · refine qr_aload_n o (q_dm dm_X6_readStep 71 rfl) rfl ?_
              refine qr_getr (kf := 0) o cf_X6 (sh53 j r) rfl (Nat.le_of_ble_eq_true rfl) fl_X6_18 (q_dm dm_X6_readStep 72 rfl) ?_
              refine qr_bipush o (q_dm dm_X6_readStep 73 rfl) bi_6 ?_
              refine qr_iload_n o (q_dm dm_X6_readStep 74 rfl) rfl ?_
              refine qr_callv_i (As := [.inl (6 : Int32), .inl x3]) (S := []) o (a_X9_fails g k.2.1 n j r hj hr (6 : Int32) x3 m14) (by omega) zv_X9_fails rfl cf_X9 (sh1 j r) ml_X6_59 (Nat.le_of_ble_eq_true rfl) (q_dm dm_X6_readStep 75 rfl) (fun r15 m16 => ?_)
              refine qr_if_eq (tgt := 153) o (q_dm dm_X6_readStep 76 rfl) (by decide) ?_ ?_
              · refine qr_iconst o (q_dm dm_X6_readStep 79 rfl) ic_0 ?_
                exact qr_iret o rfl (by decide) (q_dm dm_X6_readStep 80 rfl)
              · refine qr_iconst o (q_dm dm_X6_readStep 77 rfl) ic_1 ?_
                refine qr_goto (tgt := 154) o (q_dm dm_X6_readStep 78 rfl) (by decide) ?_
                exact qr_iret o rfl (by decide) (q_dm dm_X6_readStep 80 rfl)
          · refine qr_aload_n o (q_dm dm_X6_readStep 51 rfl) rfl ?_
            refine qr_getr (kf := 0) o cf_X6 (sh53 j r) rfl (Nat.le_of_ble_eq_true rfl) fl_X6_18 (q_dm dm_X6_readStep 52 rfl) ?_
            refine qr_iconst o (q_dm dm_X6_readStep 53 rfl) ic_1 ?_
            refine qr_aload_n o (q_dm dm_X6_readStep 54 rfl) rfl ?_
            refine qr_getr (kf := 0) o cf_X6 (sh53 j r) rfl (Nat.le_of_ble_eq_true rfl) fl_X6_18 (q_dm dm_X6_readStep 55 rfl) ?_
            refine qr_getf (kf := 3) o cf_X9 (sh1 j r) rfl (Nat.le_of_ble_eq_true rfl) fl_X6_56 (q_dm dm_X6_readStep 56 rfl) ?_
            refine qr_callv_i (As := [.inl (1 : Int32), .inl (m11 1 3)]) (S := []) o (a_X9_fails g k.2.1 n j r hj hr (1 : Int32) (m11 1 3) m11) (by omega) zv_X9_fails rfl cf_X9 (sh1 j r) ml_X6_59 (Nat.le_of_ble_eq_true rfl) (q_dm dm_X6_readStep 57 rfl) (fun r17 m18 => ?_)
            exact qr_zret o rfl (q_dm dm_X6_readStep 58 rfl)
        · refine qr_iconst o (q_dm dm_X6_readStep 42 rfl) ic_0 ?_
          exact qr_iret o rfl (by decide) (q_dm dm_X6_readStep 43 rfl)
    · refine qr_aload_n o (q_dm dm_X6_readStep 18 rfl) rfl ?_
      refine qr_getr (kf := 0) o cf_X6 (sh53 j r) rfl (Nat.le_of_ble_eq_true rfl) fl_X6_18 (q_dm dm_X6_readStep 19 rfl) ?_
      refine qr_iconst o (q_dm dm_X6_readStep 20 rfl) ic_5 ?_
      refine qr_iload_n o (q_dm dm_X6_readStep 21 rfl) rfl ?_
      refine qr_callv_i (As := [.inl (5 : Int32), .inl x3]) (S := []) o (a_X9_fails g k.2.1 n j r hj hr (5 : Int32) x3 m2) (by omega) zv_X9_fails rfl cf_X9 (sh1 j r) ml_X6_59 (Nat.le_of_ble_eq_true rfl) (q_dm dm_X6_readStep 22 rfl) (fun r19 m20 => ?_)
      exact qr_zret o rfl (q_dm dm_X6_readStep 23 rfl)
  · refine qr_aload_n o (q_dm dm_X6_readStep 5 rfl) rfl ?_
    refine qr_callv_i (As := []) (S := []) o (a_X6_readTry g k.2.1 n j r hj hr  m2) (by omega) zv_X6_readTry rfl cf_X6 (sh53 j r) ml_X6_53 (Nat.le_of_ble_eq_true rfl) (q_dm dm_X6_readStep 6 rfl) (fun r21 m22 => ?_)
    exact qr_zret o rfl (q_dm dm_X6_readStep 7 rfl)

theorem ao_X6_readStep (g : qG) (l : Launch) (n : Nat) (j r : Nat) (hj : q_isLaw j) (hr : q_isLaw r) {d1 d : Nat} (hd1 : d1 + 1 ≤ d) (hdn : 3 ≤ d) (F_X6_readSteps : Int32 → qM → qR) (hF_X6_readSteps : ∀ (b1 : Int32) (M : qM), qAM g l d1 zX6_readSteps (qL j r) [.inr (some 53), .inl b1] (qL j r, M) (F_X6_readSteps b1 M)) (a1 : Int32) (M : qM) : qAM g l d zX6_readStep (qL j r) [.inr (some 53), .inl a1] (qL j r, M) (fo_X6_readStep n F_X6_readSteps a1 M) :=
  qAM.of zv_X6_readStep.1 (by show 2 ≤ 5; decide) (fun k hk o => by subst hk; exact w_X6_readStep n j r hj hr hd1 hdn F_X6_readSteps hF_X6_readSteps o a1 M)
def tb_X6_readSteps : List (Nat × Instr × Nat) := [(0, (.aload_n 0, 1)), (1, (.iload_n 1, 1)), (2, (.invokevirtual 43, 3)), (5, (.istore_n 2, 1)), (6, (.iconst 0, 1)), (7, (.istore_n 3, 1)), (8, (.iload_n 3, 1)), (9, (.bipush 80, 2)), (11, (.if_icmp .ge 33, 3)), (14, (.iload_n 2, 1)), (15, (.ifCond .eq 29, 3)), (18, (.aload_n 0, 1)), (19, (.getfield 18, 3)), (22, (.bipush 44, 2)), (24, (.invokevirtual 46, 3)), (27, (.ifCond .ne 5, 3)), (30, (.iconst 1, 1)), (31, (.ireturn, 1)), (32, (.aload_n 0, 1)), (33, (.iload_n 1, 1)), (34, (.invokevirtual 43, 3)), (37, (.istore_n 2, 1)), (38, (.iinc 3 1, 3)), (41, (.goto (-33), 3)), (44, (.iload_n 2, 1)), (45, (.ireturn, 1))]
theorem dm_X6_readSteps : ∀ q ∈ tb_X6_readSteps, decode zX6_readSteps.2.1 q.1 = .ok q.2 := by decide +kernel
def b_X6_readSteps_8 (n : Nat) (F_X6_readStep : Int32 → qM → qR) (K8 : Int32 → Int32 → Int32 → qM → qR) (a1 a2 a3 : Int32) (M : qM) : qR :=
  (if (80 : Int32) ≤ a3 then qb a2 (some (a2, M)) else (if a2 = (0 : Int32) then qb a2 (some (a2, M)) else qc (f_X9_takes n (44 : Int32) M) (fun r1 m2 => (if r1 = (0 : Int32) then some ((1 : Int32), m2) else qc (F_X6_readStep a1 m2) (fun r3 m4 => ql (a3 + (1 : Int32)) (fun x5 => K8 a1 r3 x5 m4))))))
set_option maxRecDepth 4000 in
theorem wb_X6_readSteps_8 {g : qG} {k : qK} (n : Nat) (j r : Nat) (hj : q_isLaw j) (hr : q_isLaw r) {d1 d : Nat} (hd1 : d1 + 1 ≤ d) (hdn : 3 ≤ d) (F_X6_readStep : Int32 → qM → qR) (hF_X6_readStep : ∀ (b1 : Int32) (M : qM), qAM g k.2.1 d1 zX6_readStep (qL j r) [.inr (some 53), .inl b1] (qL j r, M) (F_X6_readStep b1 M)) (o : qOk g d zX6_readSteps k) (K8 : Int32 → Int32 → Int32 → qM → qR) (hK8 : ∀ (a1 a2 a3 : Int32) (M : qM), qAE g k zX6_readSteps (qL j r) 8 [some (.inr (some 53)), some (.inl a1), some (.inl a2), some (.inl a3)] [] (qL j r, M) (K8 a1 a2 a3 M)) (a1 a2 a3 : Int32) (M : qM) : qAE g k zX6_readSteps (qL j r) 8 [some (.inr (some 53)), some (.inl a1), some (.inl a2), some (.inl a3)] [] (qL j r, M) (b_X6_readSteps_8 n F_X6_readStep K8 a1 a2 a3 M) := by
  unfold b_X6_readSteps_8
  refine qr_iload_n o (q_dm dm_X6_readSteps 6 rfl) rfl ?_
  refine qr_bipush o (q_dm dm_X6_readSteps 7 rfl) bi_80 ?_
  refine qr_icmp_ge (tgt := 44) o (q_dm dm_X6_readSteps 8 rfl) (by decide) ?_ ?_
  · refine qr_iload_n o (q_dm dm_X6_readSteps 24 rfl) rfl ?_
    exact qr_zret o rfl (q_dm dm_X6_readSteps 25 rfl)
  · refine qr_iload_n o (q_dm dm_X6_readSteps 9 rfl) rfl ?_
    refine qr_if_eq (tgt := 44) o (q_dm dm_X6_readSteps 10 rfl) (by decide) ?_ ?_
    · refine qr_iload_n o (q_dm dm_X6_readSteps 24 rfl) rfl ?_
      exact qr_zret o rfl (q_dm dm_X6_readSteps 25 rfl)
    · refine qr_aload_n o (q_dm dm_X6_readSteps 11 rfl) rfl ?_
      refine qr_getr (kf := 0) o cf_X6 (sh53 j r) rfl (Nat.le_of_ble_eq_true rfl) fl_X6_18 (q_dm dm_X6_readSteps 12 rfl) ?_
      refine qr_bipush o (q_dm dm_X6_readSteps 13 rfl) bi_44 ?_
      refine qr_callv_i (As := [.inl (44 : Int32)]) (S := []) o (a_X9_takes g k.2.1 n j r hj hr (44 : Int32) M) (by omega) zv_X9_takes rfl cf_X9 (sh1 j r) ml_X6_46 (Nat.le_of_ble_eq_true rfl) (q_dm dm_X6_readSteps 14 rfl) (fun r1 m2 => ?_)
      refine qr_if_ne (tgt := 32) o (q_dm dm_X6_readSteps 15 rfl) (by decide) ?_ ?_
      · refine qr_aload_n o (q_dm dm_X6_readSteps 18 rfl) rfl ?_
        refine qr_iload_n o (q_dm dm_X6_readSteps 19 rfl) rfl ?_
        refine qr_callv_i (As := [.inl a1]) (S := []) o (hF_X6_readStep a1 m2) (by omega) zv_X6_readStep rfl cf_X6 (sh53 j r) ml_X6_43 (Nat.le_of_ble_eq_true rfl) (q_dm dm_X6_readSteps 20 rfl) (fun r3 m4 => ?_)
        refine qs_istore_n (L' := [some (.inr (some 53)), some (.inl a1), some (.inl r3), some (.inl a3)]) o (q_dm dm_X6_readSteps 21 rfl) (Nat.le_of_ble_eq_true rfl) rfl ?_
        refine qs_iincl2 (L' := fun x5 => [some (.inr (some 53)), some (.inl a1), some (.inl r3), some (.inl x5)]) o (q_dm dm_X6_readSteps 22 rfl) rfl ic_1 (Nat.le_of_ble_eq_true rfl) (fun _ => rfl) (fun x5 => ?_)
        refine qr_goto (tgt := 8) o (q_dm dm_X6_readSteps 23 rfl) (by decide) ?_
        exact qr_loc (q_leS (q_leS (q_leS (q_leS q_le0)))) (hK8 a1 r3 x5 m4)
      · refine qr_iconst o (q_dm dm_X6_readSteps 16 rfl) ic_1 ?_
        exact qr_iret o rfl (by decide) (q_dm dm_X6_readSteps 17 rfl)

def f_X6_readSteps_8 (n : Nat) (F_X6_readStep : Int32 → qM → qR) : Nat → Int32 → Int32 → Int32 → qM → qR
  | 0, _, _, _, _ => none
  | m + 1, a1, a2, a3, M => b_X6_readSteps_8 n F_X6_readStep (f_X6_readSteps_8 n F_X6_readStep m) a1 a2 a3 M
theorem w_X6_readSteps_8 {g : qG} {k : qK} (n : Nat) (j r : Nat) (hj : q_isLaw j) (hr : q_isLaw r) {d1 d : Nat} (hd1 : d1 + 1 ≤ d) (hdn : 3 ≤ d) (F_X6_readStep : Int32 → qM → qR) (hF_X6_readStep : ∀ (b1 : Int32) (M : qM), qAM g k.2.1 d1 zX6_readStep (qL j r) [.inr (some 53), .inl b1] (qL j r, M) (F_X6_readStep b1 M)) (o : qOk g d zX6_readSteps k) : ∀ (m : Nat) (a1 a2 a3 : Int32) (M : qM), qAE g k zX6_readSteps (qL j r) 8 [some (.inr (some 53)), some (.inl a1), some (.inl a2), some (.inl a3)] [] (qL j r, M) (f_X6_readSteps_8 n F_X6_readStep m a1 a2 a3 M) := by
  intro m
  induction m with
  | zero =>
    intro a1 a2 a3 M
    exact qr_none
  | succ m ih =>
    intro a1 a2 a3 M
    exact wb_X6_readSteps_8 n j r hj hr hd1 hdn F_X6_readStep hF_X6_readStep o (f_X6_readSteps_8 n F_X6_readStep m) ih a1 a2 a3 M
def fo_X6_readSteps (n : Nat) (F_X6_readStep : Int32 → qM → qR) (a1 : Int32) (M : qM) : qR :=
  qc (F_X6_readStep a1 M) (fun r1 m2 => f_X6_readSteps_8 n F_X6_readStep n a1 r1 (0 : Int32) m2)
set_option maxRecDepth 4000 in
theorem w_X6_readSteps {g : qG} {k : qK} (n : Nat) (j r : Nat) (hj : q_isLaw j) (hr : q_isLaw r) {d1 d : Nat} (hd1 : d1 + 1 ≤ d) (hdn : 3 ≤ d) (F_X6_readStep : Int32 → qM → qR) (hF_X6_readStep : ∀ (b1 : Int32) (M : qM), qAM g k.2.1 d1 zX6_readStep (qL j r) [.inr (some 53), .inl b1] (qL j r, M) (F_X6_readStep b1 M)) (o : qOk g d zX6_readSteps k) (a1 : Int32) (M : qM) : qAE g k zX6_readSteps (qL j r) 0 [some (.inr (some 53)), some (.inl a1), none, none] [] (qL j r, M) (fo_X6_readSteps n F_X6_readStep a1 M) := by
  unfold fo_X6_readSteps
  refine qr_aload_n o (q_dm dm_X6_readSteps 0 rfl) rfl ?_
  refine qr_iload_n o (q_dm dm_X6_readSteps 1 rfl) rfl ?_
  refine qr_callv_i (As := [.inl a1]) (S := []) o (hF_X6_readStep a1 M) (by omega) zv_X6_readStep rfl cf_X6 (sh53 j r) ml_X6_43 (Nat.le_of_ble_eq_true rfl) (q_dm dm_X6_readSteps 2 rfl) (fun r1 m2 => ?_)
  refine qs_istore_n (L' := [some (.inr (some 53)), some (.inl a1), some (.inl r1), none]) o (q_dm dm_X6_readSteps 3 rfl) (Nat.le_of_ble_eq_true rfl) rfl ?_
  refine qr_iconst o (q_dm dm_X6_readSteps 4 rfl) ic_0 ?_
  refine qs_istore_n (L' := [some (.inr (some 53)), some (.inl a1), some (.inl r1), some (.inl (0 : Int32))]) o (q_dm dm_X6_readSteps 5 rfl) (Nat.le_of_ble_eq_true rfl) rfl ?_
  exact qr_loc (q_leS (q_leS (q_leS (q_leS q_le0)))) (w_X6_readSteps_8 n j r hj hr hd1 hdn F_X6_readStep hF_X6_readStep o n a1 r1 (0 : Int32) m2)

theorem ao_X6_readSteps (g : qG) (l : Launch) (n : Nat) (j r : Nat) (hj : q_isLaw j) (hr : q_isLaw r) {d1 d : Nat} (hd1 : d1 + 1 ≤ d) (hdn : 3 ≤ d) (F_X6_readStep : Int32 → qM → qR) (hF_X6_readStep : ∀ (b1 : Int32) (M : qM), qAM g l d1 zX6_readStep (qL j r) [.inr (some 53), .inl b1] (qL j r, M) (F_X6_readStep b1 M)) (a1 : Int32) (M : qM) : qAM g l d zX6_readSteps (qL j r) [.inr (some 53), .inl a1] (qL j r, M) (fo_X6_readSteps n F_X6_readStep a1 M) :=
  qAM.of zv_X6_readSteps.1 (by show 2 ≤ 4; decide) (fun k hk o => by subst hk; exact w_X6_readSteps n j r hj hr hd1 hdn F_X6_readStep hF_X6_readStep o a1 M)
def rc_X6_readStep (n : Nat) : Nat → Nat → Int32 → qM → qR
  | 0, _, _, _ => none
  | m + 1, 0, a1, M => fo_X6_readStep n (rc_X6_readStep n m 1) a1 M
  | m + 1, _, a1, M => fo_X6_readSteps n (rc_X6_readStep n m 0) a1 M

theorem rc_X6_readStep_ok (g : qG) (l : Launch) (n : Nat) (j r : Nat) (hj : q_isLaw j) (hr : q_isLaw r) : ∀ m : Nat, (∀ (a1 : Int32) (M : qM), qAM g l (3 + m) zX6_readStep (qL j r) [.inr (some 53), .inl a1] (qL j r, M) (rc_X6_readStep n m 0 a1 M)) ∧ (∀ (a1 : Int32) (M : qM), qAM g l (3 + m) zX6_readSteps (qL j r) [.inr (some 53), .inl a1] (qL j r, M) (rc_X6_readStep n m 1 a1 M)) := by
  intro m
  induction m with
  | zero => exact ⟨(fun _ _ _ _ h => by cases h), (fun _ _ _ _ h => by cases h)⟩
  | succ m ih =>
    exact ⟨(fun a1 M => ao_X6_readStep g l n j r hj hr (d1 := 3 + m) (d := 3 + (m + 1)) (Nat.le_refl _) (Nat.le_add_right _ _) (rc_X6_readStep n m 1) ih.2 a1 M),
      (fun a1 M => ao_X6_readSteps g l n j r hj hr (d1 := 3 + m) (d := 3 + (m + 1)) (Nat.le_refl _) (Nat.le_add_right _ _) (rc_X6_readStep n m 0) ih.1 a1 M)⟩

def f_X6_readStep (n : Nat) (a1 : Int32) (M : qM) : qR := rc_X6_readStep n 14 0 a1 M
theorem a_X6_readStep (g : qG) (l : Launch) (n : Nat) (j r : Nat) (hj : q_isLaw j) (hr : q_isLaw r) (a1 : Int32) (M : qM) : qAM g l 17 zX6_readStep (qL j r) [.inr (some 53), .inl a1] (qL j r, M) (f_X6_readStep n a1 M) := (rc_X6_readStep_ok g l n j r hj hr 14).1 a1 M
def f_X6_readSteps (n : Nat) (a1 : Int32) (M : qM) : qR := rc_X6_readStep n 14 1 a1 M
theorem a_X6_readSteps (g : qG) (l : Launch) (n : Nat) (j r : Nat) (hj : q_isLaw j) (hr : q_isLaw r) (a1 : Int32) (M : qM) : qAM g l 17 zX6_readSteps (qL j r) [.inr (some 53), .inl a1] (qL j r, M) (f_X6_readSteps n a1 M) := (rc_X6_readStep_ok g l n j r hj hr 14).2 a1 M
def tb_X6_read : List (Nat × Instr × Nat) := [(0, (.aload_n 0, 1)), (1, (.getfield 18, 3)), (4, (.iload_n 1, 1)), (5, (.invokevirtual 22, 3)), (8, (.aload_n 0, 1)), (9, (.iconst 0, 1)), (10, (.putfield 28, 3)), (13, (.aload_n 0, 1)), (14, (.iconst 0, 1)), (15, (.invokevirtual 32, 3)), (18, (.ifCond .eq 20, 3)), (21, (.aload_n 0, 1)), (22, (.getfield 18, 3)), (25, (.invokevirtual 36, 3)), (28, (.ifCond .eq 10, 3)), (31, (.aload_n 0, 1)), (32, (.getfield 28, 3)), (35, (.goto 10, 3)), (38, (.aload_n 0, 1)), (39, (.getfield 18, 3)), (42, (.getfield 40, 3)), (45, (.ireturn, 1))]
theorem dm_X6_read : ∀ q ∈ tb_X6_read, decode zX6_read.2.1 q.1 = .ok q.2 := by decide +kernel
def f_X6_read (n : Nat) (a1 : Int32) (M : qM) : qR :=
  qc (f_X9_openText n a1 M) (fun _ m1 => qlm (mu m1 53 3 (0 : Int32)) (fun m2 => qc (f_X6_readSteps n (0 : Int32) m2) (fun r3 m4 => (if r3 = (0 : Int32) then some ((m4 1 4), m4) else qc (f_X9_mustEnd n  m4) (fun r5 m6 => (if r5 = (0 : Int32) then some ((m6 1 4), m6) else some ((m6 53 3), m6)))))))
set_option maxRecDepth 4000 in
theorem w_X6_read {g : qG} {k : qK} (n : Nat) (j r : Nat) (hj : q_isLaw j) (hr : q_isLaw r) (o : qOk g 18 zX6_read k) (a1 : Int32) (M : qM) : qAE g k zX6_read (qL j r) 0 [some (.inr (some 53)), some (.inl a1)] [] (qL j r, M) (f_X6_read n a1 M) := by
  unfold f_X6_read
  refine qr_aload_n o (q_dm dm_X6_read 0 rfl) rfl ?_
  refine qr_getr (kf := 0) o cf_X6 (sh53 j r) rfl (Nat.le_of_ble_eq_true rfl) fl_X6_18 (q_dm dm_X6_read 1 rfl) ?_
  refine qr_iload_n o (q_dm dm_X6_read 2 rfl) rfl ?_
  refine qr_callv_v (As := [.inl a1]) (S := []) o (a_X9_openText g k.2.1 n j r hj hr a1 M) (Nat.le_of_ble_eq_true rfl) zv_X9_openText rfl cf_X9 (sh1 j r) ml_X6_22 (Nat.le_of_ble_eq_true rfl) (q_dm dm_X6_read 3 rfl) (fun _ m1 => ?_)
  refine qr_aload_n o (q_dm dm_X6_read 4 rfl) rfl ?_
  refine qr_iconst o (q_dm dm_X6_read 5 rfl) ic_0 ?_
  refine qr_putf (kf := 3) o cf_X6 (sh53 j r) rfl (Nat.le_of_ble_eq_true rfl) fl_X6_28 rfl (by decide +kernel) (q_dm dm_X6_read 6 rfl) ?_
  refine qr_letm (fun m2 => ?_)
  refine qr_aload_n o (q_dm dm_X6_read 7 rfl) rfl ?_
  refine qr_iconst o (q_dm dm_X6_read 8 rfl) ic_0 ?_
  refine qr_callv_i (As := [.inl (0 : Int32)]) (S := []) o (a_X6_readSteps g k.2.1 n j r hj hr (0 : Int32) m2) (Nat.le_of_ble_eq_true rfl) zv_X6_readSteps rfl cf_X6 (sh53 j r) ml_X6_32 (Nat.le_of_ble_eq_true rfl) (q_dm dm_X6_read 9 rfl) (fun r3 m4 => ?_)
  refine qr_if_eq (tgt := 38) o (q_dm dm_X6_read 10 rfl) (by decide) ?_ ?_
  · refine qr_aload_n o (q_dm dm_X6_read 18 rfl) rfl ?_
    refine qr_getr (kf := 0) o cf_X6 (sh53 j r) rfl (Nat.le_of_ble_eq_true rfl) fl_X6_18 (q_dm dm_X6_read 19 rfl) ?_
    refine qr_getf (kf := 4) o cf_X9 (sh1 j r) rfl (Nat.le_of_ble_eq_true rfl) fl_X6_40 (q_dm dm_X6_read 20 rfl) ?_
    exact qr_iret o rfl rfl (q_dm dm_X6_read 21 rfl)
  · refine qr_aload_n o (q_dm dm_X6_read 11 rfl) rfl ?_
    refine qr_getr (kf := 0) o cf_X6 (sh53 j r) rfl (Nat.le_of_ble_eq_true rfl) fl_X6_18 (q_dm dm_X6_read 12 rfl) ?_
    refine qr_callv_i (As := []) (S := []) o (a_X9_mustEnd g k.2.1 n j r hj hr  m4) (Nat.le_of_ble_eq_true rfl) zv_X9_mustEnd rfl cf_X9 (sh1 j r) ml_X6_36 (Nat.le_of_ble_eq_true rfl) (q_dm dm_X6_read 13 rfl) (fun r5 m6 => ?_)
    refine qr_if_eq (tgt := 38) o (q_dm dm_X6_read 14 rfl) (by decide) ?_ ?_
    · refine qr_aload_n o (q_dm dm_X6_read 18 rfl) rfl ?_
      refine qr_getr (kf := 0) o cf_X6 (sh53 j r) rfl (Nat.le_of_ble_eq_true rfl) fl_X6_18 (q_dm dm_X6_read 19 rfl) ?_
      refine qr_getf (kf := 4) o cf_X9 (sh1 j r) rfl (Nat.le_of_ble_eq_true rfl) fl_X6_40 (q_dm dm_X6_read 20 rfl) ?_
      exact qr_iret o rfl rfl (q_dm dm_X6_read 21 rfl)
    · refine qr_aload_n o (q_dm dm_X6_read 15 rfl) rfl ?_
      refine qr_getf (kf := 3) o cf_X6 (sh53 j r) rfl (Nat.le_of_ble_eq_true rfl) fl_X6_28 (q_dm dm_X6_read 16 rfl) ?_
      refine qr_goto (tgt := 45) o (q_dm dm_X6_read 17 rfl) (by decide) ?_
      exact qr_iret o rfl rfl (q_dm dm_X6_read 21 rfl)

theorem a_X6_read (g : qG) (l : Launch) (n : Nat) (j r : Nat) (hj : q_isLaw j) (hr : q_isLaw r) (a1 : Int32) (M : qM) : qAM g l 18 zX6_read (qL j r) [.inr (some 53), .inl a1] (qL j r, M) (f_X6_read n a1 M) :=
  qAM.of zv_X6_read.1 (by show 2 ≤ 2; decide) (fun k hk o => w_X6_read n j r hj hr o a1 M)
def tb_X11_plan : List (Nat × Instr × Nat) := [(0, (.aload_n 0, 1)), (1, (.getfield 26, 3)), (4, (.iload_n 1, 1)), (5, (.invokevirtual 131, 3)), (8, (.ifCond .eq 25, 3)), (11, (.iload_n 2, 1)), (12, (.iconst 1, 1)), (13, (.if_icmp .lt 20, 3)), (16, (.iload_n 2, 1)), (17, (.bipush 80, 2)), (19, (.if_icmp .gt 14, 3)), (22, (.iload_n 2, 1)), (23, (.aload_n 0, 1)), (24, (.getfield 10, 3)), (27, (.getfield 112, 3)), (30, (.if_icmp .le 5, 3)), (33, (.iconst (-1), 1)), (34, (.ireturn, 1)), (35, (.aload_n 0, 1)), (36, (.getfield 66, 3)), (39, (.iload_n 2, 1)), (40, (.invokevirtual 135, 3)), (43, (.istore_n 3, 1)), (44, (.aload_n 0, 1)), (45, (.getfield 10, 3)), (48, (.invokevirtual 123, 3)), (51, (.iload_n 3, 1)), (52, (.ifCond .le 15, 3)), (55, (.aload_n 0, 1)), (56, (.getfield 26, 3)), (59, (.iload_n 1, 1)), (60, (.aload_n 0, 1)), (61, (.getfield 66, 3)), (64, (.invokevirtual 136, 3)), (67, (.iload_n 3, 1)), (68, (.ireturn, 1))]
theorem dm_X11_plan : ∀ q ∈ tb_X11_plan, decode zX11_plan.2.1 q.1 = .ok q.2 := by decide +kernel
def f_X11_plan (n : Nat) (a1 a2 : Int32) (M : qM) : qR :=
  qc (f_X10_knows n 7 a1 M) (fun r1 m2 => (if r1 = (0 : Int32) then some ((-1 : Int32), m2) else (if a2 < (1 : Int32) then some ((-1 : Int32), m2) else (if (80 : Int32) < a2 then some ((-1 : Int32), m2) else (if a2 ≤ (m2 1 1) then qc (f_X6_read n a2 m2) (fun r3 m4 => qc (f_X9_clear n  m4) (fun _ m5 => (if r3 ≤ (0 : Int32) then some (r3, m5) else qc (f_X10_takePlan n 7 a1 m5) (fun _ m6 => some (r3, m6))))) else some ((-1 : Int32), m2))))))
set_option maxRecDepth 4000 in
theorem w_X11_plan {g : qG} {k : qK} (n : Nat) (j r : Nat) (hj : q_isLaw j) (hr : q_isLaw r) (o : qOk g 19 zX11_plan k) (a1 a2 : Int32) (M : qM) : qAE g k zX11_plan (qL j r) 0 [some (.inr (some 0)), some (.inl a1), some (.inl a2), none] [] (qL j r, M) (f_X11_plan n a1 a2 M) := by
  unfold f_X11_plan
  refine qr_aload_n o (q_dm dm_X11_plan 0 rfl) rfl ?_
  refine qr_getr (kf := 2) o cf_X11 (sh0 j r) rfl (Nat.le_of_ble_eq_true rfl) fl_X11_26 (q_dm dm_X11_plan 1 rfl) ?_
  refine qr_iload_n o (q_dm dm_X11_plan 2 rfl) rfl ?_
  refine qr_callv_i (As := [.inl a1]) (S := []) o (a_X10_knows g k.2.1 n j r hj hr (Or.inl rfl) a1 M) (Nat.le_of_ble_eq_true rfl) zv_X10_knows rfl cf_X10 (sh7 j r) ml_X11_131 (Nat.le_of_ble_eq_true rfl) (q_dm dm_X11_plan 3 rfl) (fun r1 m2 => ?_)
  refine qr_if_eq (tgt := 33) o (q_dm dm_X11_plan 4 rfl) (by decide) ?_ ?_
  · refine qr_iconst o (q_dm dm_X11_plan 16 rfl) ic_m1 ?_
    exact qr_iret o rfl rfl (q_dm dm_X11_plan 17 rfl)
  · refine qr_iload_n o (q_dm dm_X11_plan 5 rfl) rfl ?_
    refine qr_iconst o (q_dm dm_X11_plan 6 rfl) ic_1 ?_
    refine qr_icmp_lt (tgt := 33) o (q_dm dm_X11_plan 7 rfl) (by decide) ?_ ?_
    · refine qr_iconst o (q_dm dm_X11_plan 16 rfl) ic_m1 ?_
      exact qr_iret o rfl rfl (q_dm dm_X11_plan 17 rfl)
    · refine qr_iload_n o (q_dm dm_X11_plan 8 rfl) rfl ?_
      refine qr_bipush o (q_dm dm_X11_plan 9 rfl) bi_80 ?_
      refine qr_icmp_gt (tgt := 33) o (q_dm dm_X11_plan 10 rfl) (by decide) ?_ ?_
      · refine qr_iconst o (q_dm dm_X11_plan 16 rfl) ic_m1 ?_
        exact qr_iret o rfl rfl (q_dm dm_X11_plan 17 rfl)
      · refine qr_iload_n o (q_dm dm_X11_plan 11 rfl) rfl ?_
        refine qr_aload_n o (q_dm dm_X11_plan 12 rfl) rfl ?_
        refine qr_getr (kf := 0) o cf_X11 (sh0 j r) rfl (Nat.le_of_ble_eq_true rfl) fl_X11_10 (q_dm dm_X11_plan 13 rfl) ?_
        refine qr_getf (kf := 1) o cf_X9 (sh1 j r) rfl (Nat.le_of_ble_eq_true rfl) fl_X11_112 (q_dm dm_X11_plan 14 rfl) ?_
        refine qr_icmp_le (tgt := 35) o (q_dm dm_X11_plan 15 rfl) (by decide) ?_ ?_
        · refine qr_aload_n o (q_dm dm_X11_plan 18 rfl) rfl ?_
          refine qr_getr (kf := 8) o cf_X11 (sh0 j r) rfl (Nat.le_of_ble_eq_true rfl) fl_X11_66 (q_dm dm_X11_plan 19 rfl) ?_
          refine qr_iload_n o (q_dm dm_X11_plan 20 rfl) rfl ?_
          refine qr_callv_i (As := [.inl a2]) (S := []) o (a_X6_read g k.2.1 n j r hj hr a2 m2) (Nat.le_of_ble_eq_true rfl) zv_X6_read rfl cf_X6 (sh53 j r) ml_X11_135 (Nat.le_of_ble_eq_true rfl) (q_dm dm_X11_plan 21 rfl) (fun r3 m4 => ?_)
          refine qs_istore_n (L' := [some (.inr (some 0)), some (.inl a1), some (.inl a2), some (.inl r3)]) o (q_dm dm_X11_plan 22 rfl) (Nat.le_of_ble_eq_true rfl) rfl ?_
          refine qr_aload_n o (q_dm dm_X11_plan 23 rfl) rfl ?_
          refine qr_getr (kf := 0) o cf_X11 (sh0 j r) rfl (Nat.le_of_ble_eq_true rfl) fl_X11_10 (q_dm dm_X11_plan 24 rfl) ?_
          refine qr_callv_v (As := []) (S := []) o (a_X9_clear g k.2.1 n j r hj hr  m4) (Nat.le_of_ble_eq_true rfl) zv_X9_clear rfl cf_X9 (sh1 j r) ml_X11_123 (Nat.le_of_ble_eq_true rfl) (q_dm dm_X11_plan 25 rfl) (fun _ m5 => ?_)
          refine qr_iload_n o (q_dm dm_X11_plan 26 rfl) rfl ?_
          refine qr_if_le (tgt := 67) o (q_dm dm_X11_plan 27 rfl) (by decide) ?_ ?_
          · refine qr_iload_n o (q_dm dm_X11_plan 34 rfl) rfl ?_
            exact qr_iret o rfl rfl (q_dm dm_X11_plan 35 rfl)
          · refine qr_aload_n o (q_dm dm_X11_plan 28 rfl) rfl ?_
            refine qr_getr (kf := 2) o cf_X11 (sh0 j r) rfl (Nat.le_of_ble_eq_true rfl) fl_X11_26 (q_dm dm_X11_plan 29 rfl) ?_
            refine qr_iload_n o (q_dm dm_X11_plan 30 rfl) rfl ?_
            refine qr_aload_n o (q_dm dm_X11_plan 31 rfl) rfl ?_
            refine qr_getr (kf := 8) o cf_X11 (sh0 j r) rfl (Nat.le_of_ble_eq_true rfl) fl_X11_66 (q_dm dm_X11_plan 32 rfl) ?_
            refine qr_callv_v (As := [.inl a1, .inr (some 53)]) (S := []) o (a_X10_takePlan g k.2.1 n j r hj hr (Or.inl rfl) a1 m5) (Nat.le_of_ble_eq_true rfl) zv_X10_takePlan rfl cf_X10 (sh7 j r) ml_X11_136 (Nat.le_of_ble_eq_true rfl) (q_dm dm_X11_plan 33 rfl) (fun _ m6 => ?_)
            refine qr_iload_n o (q_dm dm_X11_plan 34 rfl) rfl ?_
            exact qr_iret o rfl rfl (q_dm dm_X11_plan 35 rfl)
        · refine qr_iconst o (q_dm dm_X11_plan 16 rfl) ic_m1 ?_
          exact qr_iret o rfl rfl (q_dm dm_X11_plan 17 rfl)

theorem a_X11_plan (g : qG) (l : Launch) (n : Nat) (j r : Nat) (hj : q_isLaw j) (hr : q_isLaw r) (a1 a2 : Int32) (M : qM) : qAM g l 19 zX11_plan (qL j r) [.inr (some 0), .inl a1, .inl a2] (qL j r, M) (f_X11_plan n a1 a2 M) :=
  qAM.of zv_X11_plan.1 (by show 3 ≤ 4; decide) (fun k hk o => w_X11_plan n j r hj hr o a1 a2 M)
def tb_X11_rivals : List (Nat × Instr × Nat) := [(0, (.iload_n 1, 1)), (1, (.ifCond .lt 30, 3)), (4, (.iload_n 1, 1)), (5, (.sipush 999, 3)), (8, (.if_icmp .gt 23, 3)), (11, (.iload_n 2, 1)), (12, (.ifCond .lt 19, 3)), (15, (.iload_n 2, 1)), (16, (.sipush 999, 3)), (19, (.if_icmp .gt 12, 3)), (22, (.iload_n 3, 1)), (23, (.ifCond .lt 8, 3)), (26, (.iload_n 3, 1)), (27, (.iconst 1, 1)), (28, (.if_icmp .le 5, 3)), (31, (.iconst (-1), 1)), (32, (.ireturn, 1)), (33, (.iconst 0, 1)), (34, (.istore 4, 2)), (36, (.bipush (-2), 2)), (38, (.istore 5, 2)), (40, (.iconst 3, 1)), (41, (.istore 6, 2)), (43, (.iload 6, 2)), (45, (.ifCond .lt 26, 3)), (48, (.iload 6, 2)), (50, (.iload_n 1, 1)), (51, (.iload_n 2, 1)), (52, (.invokestatic 239, 3)), (55, (.ifCond .eq 10, 3)), (58, (.iinc 4 1, 3)), (61, (.iload 6, 2)), (63, (.istore 5, 2)), (65, (.iinc 6 (-1), 3)), (68, (.goto (-25), 3)), (71, (.iload_n 3, 1)), (72, (.ifCond .ne 8, 3)), (75, (.iload 4, 2)), (77, (.goto 5, 3)), (80, (.iload 5, 2)), (82, (.ireturn, 1))]
theorem dm_X11_rivals : ∀ q ∈ tb_X11_rivals, decode zX11_rivals.2.1 q.1 = .ok q.2 := by decide +kernel
def b_X11_rivals_43 (n : Nat) (K43 : Int32 → Int32 → Int32 → Int32 → Int32 → Int32 → qM → qR) (a1 a2 a3 a4 a5 a6 : Int32) (M : qM) : qR :=
  (if a6 < (0 : Int32) then (if a3 = (0 : Int32) then some (a4, M) else some (a5, M)) else qc (f_X11_isSettled n a6 a1 a2 M) (fun r1 m2 => (if r1 = (0 : Int32) then ql (a6 + (-1 : Int32)) (fun x3 => K43 a1 a2 a3 a4 a5 x3 m2) else ql (a4 + (1 : Int32)) (fun x4 => ql (a6 + (-1 : Int32)) (fun x5 => K43 a1 a2 a3 x4 a6 x5 m2)))))
set_option maxRecDepth 4000 in
theorem wb_X11_rivals_43 {g : qG} {k : qK} (n : Nat) (j r : Nat) (hj : q_isLaw j) (hr : q_isLaw r) (o : qOk g 2 zX11_rivals k) (K43 : Int32 → Int32 → Int32 → Int32 → Int32 → Int32 → qM → qR) (hK43 : ∀ (a1 a2 a3 a4 a5 a6 : Int32) (M : qM), qAE g k zX11_rivals (qL j r) 43 [none, some (.inl a1), some (.inl a2), some (.inl a3), some (.inl a4), some (.inl a5), some (.inl a6)] [] (qL j r, M) (K43 a1 a2 a3 a4 a5 a6 M)) (a1 a2 a3 a4 a5 a6 : Int32) (M : qM) : qAE g k zX11_rivals (qL j r) 43 [none, some (.inl a1), some (.inl a2), some (.inl a3), some (.inl a4), some (.inl a5), some (.inl a6)] [] (qL j r, M) (b_X11_rivals_43 n K43 a1 a2 a3 a4 a5 a6 M) := by
  unfold b_X11_rivals_43
  refine qr_iload o (q_dm dm_X11_rivals 23 rfl) rfl ?_
  refine qr_if_lt (tgt := 71) o (q_dm dm_X11_rivals 24 rfl) (by decide) ?_ ?_
  · refine qr_iload_n o (q_dm dm_X11_rivals 35 rfl) rfl ?_
    refine qr_if_ne (tgt := 80) o (q_dm dm_X11_rivals 36 rfl) (by decide) ?_ ?_
    · refine qr_iload o (q_dm dm_X11_rivals 39 rfl) rfl ?_
      exact qr_iret o rfl rfl (q_dm dm_X11_rivals 40 rfl)
    · refine qr_iload o (q_dm dm_X11_rivals 37 rfl) rfl ?_
      refine qr_goto (tgt := 82) o (q_dm dm_X11_rivals 38 rfl) (by decide) ?_
      exact qr_iret o rfl rfl (q_dm dm_X11_rivals 40 rfl)
  · refine qr_iload o (q_dm dm_X11_rivals 25 rfl) rfl ?_
    refine qr_iload_n o (q_dm dm_X11_rivals 26 rfl) rfl ?_
    refine qr_iload_n o (q_dm dm_X11_rivals 27 rfl) rfl ?_
    refine qr_calls_i (As := [.inl a6, .inl a1, .inl a2]) (S := []) o (a_X11_isSettled g k.2.1 n j r hj hr a6 a1 a2 M) (Nat.le_of_ble_eq_true rfl) zs_X11_isSettled rfl ml_X11_239 (Nat.le_of_ble_eq_true rfl) (q_dm dm_X11_rivals 28 rfl) (fun r1 m2 => ?_)
    refine qr_if_eq (tgt := 65) o (q_dm dm_X11_rivals 29 rfl) (by decide) ?_ ?_
    · refine qs_iincl2 (L' := fun x3 => [none, some (.inl a1), some (.inl a2), some (.inl a3), some (.inl a4), some (.inl a5), some (.inl x3)]) o (q_dm dm_X11_rivals 33 rfl) rfl ic_m1 (Nat.le_of_ble_eq_true rfl) (fun _ => rfl) (fun x3 => ?_)
      refine qr_goto (tgt := 43) o (q_dm dm_X11_rivals 34 rfl) (by decide) ?_
      exact qr_loc (q_leN (q_leS (q_leS (q_leS (q_leS (q_leS (q_leS q_le0))))))) (hK43 a1 a2 a3 a4 a5 x3 m2)
    · refine qs_iincl2 (L' := fun x4 => [none, some (.inl a1), some (.inl a2), some (.inl a3), some (.inl x4), some (.inl a5), some (.inl a6)]) o (q_dm dm_X11_rivals 30 rfl) rfl ic_1 (Nat.le_of_ble_eq_true rfl) (fun _ => rfl) (fun x4 => ?_)
      refine qr_iload o (q_dm dm_X11_rivals 31 rfl) rfl ?_
      refine qs_istore (L' := [none, some (.inl a1), some (.inl a2), some (.inl a3), some (.inl x4), some (.inl a6), some (.inl a6)]) o (q_dm dm_X11_rivals 32 rfl) (Nat.le_of_ble_eq_true rfl) rfl ?_
      refine qs_iincl2 (L' := fun x5 => [none, some (.inl a1), some (.inl a2), some (.inl a3), some (.inl x4), some (.inl a6), some (.inl x5)]) o (q_dm dm_X11_rivals 33 rfl) rfl ic_m1 (Nat.le_of_ble_eq_true rfl) (fun _ => rfl) (fun x5 => ?_)
      refine qr_goto (tgt := 43) o (q_dm dm_X11_rivals 34 rfl) (by decide) ?_
      exact qr_loc (q_leN (q_leS (q_leS (q_leS (q_leS (q_leS (q_leS q_le0))))))) (hK43 a1 a2 a3 x4 a6 x5 m2)

def f_X11_rivals_43 (n : Nat) : Nat → Int32 → Int32 → Int32 → Int32 → Int32 → Int32 → qM → qR
  | 0, _, _, _, _, _, _, _ => none
  | m + 1, a1, a2, a3, a4, a5, a6, M => b_X11_rivals_43 n (f_X11_rivals_43 n m) a1 a2 a3 a4 a5 a6 M
theorem w_X11_rivals_43 {g : qG} {k : qK} (n : Nat) (j r : Nat) (hj : q_isLaw j) (hr : q_isLaw r) (o : qOk g 2 zX11_rivals k) : ∀ (m : Nat) (a1 a2 a3 a4 a5 a6 : Int32) (M : qM), qAE g k zX11_rivals (qL j r) 43 [none, some (.inl a1), some (.inl a2), some (.inl a3), some (.inl a4), some (.inl a5), some (.inl a6)] [] (qL j r, M) (f_X11_rivals_43 n m a1 a2 a3 a4 a5 a6 M) := by
  intro m
  induction m with
  | zero =>
    intro a1 a2 a3 a4 a5 a6 M
    exact qr_none
  | succ m ih =>
    intro a1 a2 a3 a4 a5 a6 M
    exact wb_X11_rivals_43 n j r hj hr o (f_X11_rivals_43 n m) ih a1 a2 a3 a4 a5 a6 M
def f_X11_rivals (n : Nat) (a1 a2 a3 : Int32) (M : qM) : qR :=
  (if a1 < (0 : Int32) then some ((-1 : Int32), M) else (if (999 : Int32) < a1 then some ((-1 : Int32), M) else (if a2 < (0 : Int32) then some ((-1 : Int32), M) else (if (999 : Int32) < a2 then some ((-1 : Int32), M) else (if a3 < (0 : Int32) then some ((-1 : Int32), M) else (if a3 ≤ (1 : Int32) then f_X11_rivals_43 n n a1 a2 a3 (0 : Int32) (-2 : Int32) (3 : Int32) M else some ((-1 : Int32), M)))))))
set_option maxRecDepth 4000 in
theorem w_X11_rivals {g : qG} {k : qK} (n : Nat) (j r : Nat) (hj : q_isLaw j) (hr : q_isLaw r) (o : qOk g 2 zX11_rivals k) (a1 a2 a3 : Int32) (M : qM) : qAE g k zX11_rivals (qL j r) 0 [some (.inr (some 0)), some (.inl a1), some (.inl a2), some (.inl a3), none, none, none] [] (qL j r, M) (f_X11_rivals n a1 a2 a3 M) := by
  unfold f_X11_rivals
  refine qr_iload_n o (q_dm dm_X11_rivals 0 rfl) rfl ?_
  refine qr_if_lt (tgt := 31) o (q_dm dm_X11_rivals 1 rfl) (by decide) ?_ ?_
  · refine qr_iconst o (q_dm dm_X11_rivals 15 rfl) ic_m1 ?_
    exact qr_iret o rfl rfl (q_dm dm_X11_rivals 16 rfl)
  · refine qr_iload_n o (q_dm dm_X11_rivals 2 rfl) rfl ?_
    refine qr_sipush o (q_dm dm_X11_rivals 3 rfl) si_999 ?_
    refine qr_icmp_gt (tgt := 31) o (q_dm dm_X11_rivals 4 rfl) (by decide) ?_ ?_
    · refine qr_iconst o (q_dm dm_X11_rivals 15 rfl) ic_m1 ?_
      exact qr_iret o rfl rfl (q_dm dm_X11_rivals 16 rfl)
    · refine qr_iload_n o (q_dm dm_X11_rivals 5 rfl) rfl ?_
      refine qr_if_lt (tgt := 31) o (q_dm dm_X11_rivals 6 rfl) (by decide) ?_ ?_
      · refine qr_iconst o (q_dm dm_X11_rivals 15 rfl) ic_m1 ?_
        exact qr_iret o rfl rfl (q_dm dm_X11_rivals 16 rfl)
      · refine qr_iload_n o (q_dm dm_X11_rivals 7 rfl) rfl ?_
        refine qr_sipush o (q_dm dm_X11_rivals 8 rfl) si_999 ?_
        refine qr_icmp_gt (tgt := 31) o (q_dm dm_X11_rivals 9 rfl) (by decide) ?_ ?_
        · refine qr_iconst o (q_dm dm_X11_rivals 15 rfl) ic_m1 ?_
          exact qr_iret o rfl rfl (q_dm dm_X11_rivals 16 rfl)
        · refine qr_iload_n o (q_dm dm_X11_rivals 10 rfl) rfl ?_
          refine qr_if_lt (tgt := 31) o (q_dm dm_X11_rivals 11 rfl) (by decide) ?_ ?_
          · refine qr_iconst o (q_dm dm_X11_rivals 15 rfl) ic_m1 ?_
            exact qr_iret o rfl rfl (q_dm dm_X11_rivals 16 rfl)
          · refine qr_iload_n o (q_dm dm_X11_rivals 12 rfl) rfl ?_
            refine qr_iconst o (q_dm dm_X11_rivals 13 rfl) ic_1 ?_
            refine qr_icmp_le (tgt := 33) o (q_dm dm_X11_rivals 14 rfl) (by decide) ?_ ?_
            · refine qr_iconst o (q_dm dm_X11_rivals 17 rfl) ic_0 ?_
              refine qs_istore (L' := [some (.inr (some 0)), some (.inl a1), some (.inl a2), some (.inl a3), some (.inl (0 : Int32)), none, none]) o (q_dm dm_X11_rivals 18 rfl) (Nat.le_of_ble_eq_true rfl) rfl ?_
              refine qr_bipush o (q_dm dm_X11_rivals 19 rfl) bi_m2 ?_
              refine qs_istore (L' := [some (.inr (some 0)), some (.inl a1), some (.inl a2), some (.inl a3), some (.inl (0 : Int32)), some (.inl (-2 : Int32)), none]) o (q_dm dm_X11_rivals 20 rfl) (Nat.le_of_ble_eq_true rfl) rfl ?_
              refine qr_iconst o (q_dm dm_X11_rivals 21 rfl) ic_3 ?_
              refine qs_istore (L' := [some (.inr (some 0)), some (.inl a1), some (.inl a2), some (.inl a3), some (.inl (0 : Int32)), some (.inl (-2 : Int32)), some (.inl (3 : Int32))]) o (q_dm dm_X11_rivals 22 rfl) (Nat.le_of_ble_eq_true rfl) rfl ?_
              exact qr_loc (q_leN (q_leS (q_leS (q_leS (q_leS (q_leS (q_leS q_le0))))))) (w_X11_rivals_43 n j r hj hr o n a1 a2 a3 (0 : Int32) (-2 : Int32) (3 : Int32) M)
            · refine qr_iconst o (q_dm dm_X11_rivals 15 rfl) ic_m1 ?_
              exact qr_iret o rfl rfl (q_dm dm_X11_rivals 16 rfl)

theorem a_X11_rivals (g : qG) (l : Launch) (n : Nat) (j r : Nat) (hj : q_isLaw j) (hr : q_isLaw r) (a1 a2 a3 : Int32) (M : qM) : qAM g l 2 zX11_rivals (qL j r) [.inr (some 0), .inl a1, .inl a2, .inl a3] (qL j r, M) (f_X11_rivals n a1 a2 a3 M) :=
  qAM.of zv_X11_rivals.1 (by show 4 ≤ 7; decide) (fun k hk o => w_X11_rivals n j r hj hr o a1 a2 a3 M)
def tb_X7_soonestWay : List (Nat × Instr × Nat) := [(0, (.aload_n 0, 1)), (1, (.iconst 0, 1)), (2, (.iload_n 1, 1)), (3, (.iconst 0, 1)), (4, (.invokevirtual 88, 3)), (7, (.ireturn, 1))]
theorem dm_X7_soonestWay : ∀ q ∈ tb_X7_soonestWay, decode zX7_soonestWay.2.1 q.1 = .ok q.2 := by decide +kernel
def f_X7_soonestWay (n : Nat) (a1 : Int32) (M : qM) : qR :=
  qc (f_X7_bestWay n (0 : Int32) a1 (0 : Int32) M) (fun r1 m2 => some (r1, m2))
set_option maxRecDepth 4000 in
theorem w_X7_soonestWay {g : qG} {k : qK} (n : Nat) (j r : Nat) (hj : q_isLaw j) (hr : q_isLaw r) (o : qOk g 19 zX7_soonestWay k) (a1 : Int32) (M : qM) : qAE g k zX7_soonestWay (qL j r) 0 [some (.inr (some 56)), some (.inl a1)] [] (qL j r, M) (f_X7_soonestWay n a1 M) := by
  unfold f_X7_soonestWay
  refine qr_aload_n o (q_dm dm_X7_soonestWay 0 rfl) rfl ?_
  refine qr_iconst o (q_dm dm_X7_soonestWay 1 rfl) ic_0 ?_
  refine qr_iload_n o (q_dm dm_X7_soonestWay 2 rfl) rfl ?_
  refine qr_iconst o (q_dm dm_X7_soonestWay 3 rfl) ic_0 ?_
  refine qr_callv_i (As := [.inl (0 : Int32), .inl a1, .inl (0 : Int32)]) (S := []) o (a_X7_bestWay g k.2.1 n j r hj hr (0 : Int32) a1 (0 : Int32) M) (Nat.le_of_ble_eq_true rfl) zv_X7_bestWay rfl cf_X7 (sh56 j r) ml_X7_88 (Nat.le_of_ble_eq_true rfl) (q_dm dm_X7_soonestWay 4 rfl) (fun r1 m2 => ?_)
  exact qr_iret o rfl rfl (q_dm dm_X7_soonestWay 5 rfl)

theorem a_X7_soonestWay (g : qG) (l : Launch) (n : Nat) (j r : Nat) (hj : q_isLaw j) (hr : q_isLaw r) (a1 : Int32) (M : qM) : qAM g l 19 zX7_soonestWay (qL j r) [.inr (some 56), .inl a1] (qL j r, M) (f_X7_soonestWay n a1 M) :=
  qAM.of zv_X7_soonestWay.1 (by show 2 ≤ 2; decide) (fun k hk o => w_X7_soonestWay n j r hj hr o a1 M)
def tb_X11_soonest : List (Nat × Instr × Nat) := [(0, (.aload_n 0, 1)), (1, (.iload_n 1, 1)), (2, (.iload_n 2, 1)), (3, (.iload_n 3, 1)), (4, (.invokevirtual 193, 3)), (7, (.ifCond .eq 25, 3)), (10, (.iload 4, 2)), (12, (.ifCond .lt 20, 3)), (15, (.iload 4, 2)), (17, (.iconst 3, 1)), (18, (.if_icmp .gt 14, 3)), (21, (.iload 5, 2)), (23, (.ifCond .lt 9, 3)), (26, (.iload 5, 2)), (28, (.iconst 1, 1)), (29, (.if_icmp .le 5, 3)), (32, (.iconst (-1), 1)), (33, (.ireturn, 1)), (34, (.aload_n 0, 1)), (35, (.getfield 75, 3)), (38, (.aload_n 0, 1)), (39, (.getfield 26, 3)), (42, (.iload_n 1, 1)), (43, (.iload_n 2, 1)), (44, (.iload_n 3, 1)), (45, (.invokevirtual 196, 3)), (48, (.aload_n 0, 1)), (49, (.getfield 75, 3)), (52, (.iload 4, 2)), (54, (.invokevirtual 200, 3)), (57, (.istore 6, 2)), (59, (.iload 6, 2)), (61, (.ldc 203, 2)), (63, (.if_icmp .lt 6, 3)), (66, (.bipush (-2), 2)), (68, (.ireturn, 1)), (69, (.iload 5, 2)), (71, (.ifCond .ne 11, 3)), (74, (.iload 6, 2)), (76, (.bipush 16, 2)), (78, (.idiv, 1)), (79, (.goto 8, 3)), (82, (.iload 6, 2)), (84, (.bipush 16, 2)), (86, (.irem, 1)), (87, (.ireturn, 1))]
theorem dm_X11_soonest : ∀ q ∈ tb_X11_soonest, decode zX11_soonest.2.1 q.1 = .ok q.2 := by decide +kernel
def f_X11_soonest (n : Nat) (j : Nat) (a1 a2 a3 a4 a5 : Int32) (M : qM) : qR :=
  qc (f_X11_canChoose n a1 a2 a3 M) (fun r1 m2 => (if r1 = (0 : Int32) then some ((-1 : Int32), m2) else (if a4 < (0 : Int32) then some ((-1 : Int32), m2) else (if (3 : Int32) < a4 then some ((-1 : Int32), m2) else (if a5 < (0 : Int32) then some ((-1 : Int32), m2) else (if a5 ≤ (1 : Int32) then qc (f_X7_prepare n 7 j a1 a2 a3 m2) (fun _ m3 => qc (f_X7_soonestWay n a4 m3) (fun r4 m5 => (if r4 < (1048576 : Int32) then (if a5 = (0 : Int32) then some ((r4 / (16 : Int32)), m5) else some ((r4 - r4 / (16 : Int32) * (16 : Int32)), m5)) else some ((-2 : Int32), m5)))) else some ((-1 : Int32), m2)))))))
set_option maxRecDepth 4000 in
theorem w_X11_soonest {g : qG} {k : qK} (n : Nat) (j r : Nat) (hj : q_isLaw j) (hr : q_isLaw r) (o : qOk g 20 zX11_soonest k) (a1 a2 a3 a4 a5 : Int32) (M : qM) : qAE g k zX11_soonest (qL j r) 0 [some (.inr (some 0)), some (.inl a1), some (.inl a2), some (.inl a3), some (.inl a4), some (.inl a5), none] [] (qL j r, M) (f_X11_soonest n j a1 a2 a3 a4 a5 M) := by
  unfold f_X11_soonest
  refine qr_aload_n o (q_dm dm_X11_soonest 0 rfl) rfl ?_
  refine qr_iload_n o (q_dm dm_X11_soonest 1 rfl) rfl ?_
  refine qr_iload_n o (q_dm dm_X11_soonest 2 rfl) rfl ?_
  refine qr_iload_n o (q_dm dm_X11_soonest 3 rfl) rfl ?_
  refine qr_callv_i (As := [.inl a1, .inl a2, .inl a3]) (S := []) o (a_X11_canChoose g k.2.1 n j r hj hr a1 a2 a3 M) (Nat.le_of_ble_eq_true rfl) zv_X11_canChoose rfl cf_X11 (sh0 j r) ml_X11_193 (Nat.le_of_ble_eq_true rfl) (q_dm dm_X11_soonest 4 rfl) (fun r1 m2 => ?_)
  refine qr_if_eq (tgt := 32) o (q_dm dm_X11_soonest 5 rfl) (by decide) ?_ ?_
  · refine qr_iconst o (q_dm dm_X11_soonest 16 rfl) ic_m1 ?_
    exact qr_iret o rfl rfl (q_dm dm_X11_soonest 17 rfl)
  · refine qr_iload o (q_dm dm_X11_soonest 6 rfl) rfl ?_
    refine qr_if_lt (tgt := 32) o (q_dm dm_X11_soonest 7 rfl) (by decide) ?_ ?_
    · refine qr_iconst o (q_dm dm_X11_soonest 16 rfl) ic_m1 ?_
      exact qr_iret o rfl rfl (q_dm dm_X11_soonest 17 rfl)
    · refine qr_iload o (q_dm dm_X11_soonest 8 rfl) rfl ?_
      refine qr_iconst o (q_dm dm_X11_soonest 9 rfl) ic_3 ?_
      refine qr_icmp_gt (tgt := 32) o (q_dm dm_X11_soonest 10 rfl) (by decide) ?_ ?_
      · refine qr_iconst o (q_dm dm_X11_soonest 16 rfl) ic_m1 ?_
        exact qr_iret o rfl rfl (q_dm dm_X11_soonest 17 rfl)
      · refine qr_iload o (q_dm dm_X11_soonest 11 rfl) rfl ?_
        refine qr_if_lt (tgt := 32) o (q_dm dm_X11_soonest 12 rfl) (by decide) ?_ ?_
        · refine qr_iconst o (q_dm dm_X11_soonest 16 rfl) ic_m1 ?_
          exact qr_iret o rfl rfl (q_dm dm_X11_soonest 17 rfl)
        · refine qr_iload o (q_dm dm_X11_soonest 13 rfl) rfl ?_
          refine qr_iconst o (q_dm dm_X11_soonest 14 rfl) ic_1 ?_
          refine qr_icmp_le (tgt := 34) o (q_dm dm_X11_soonest 15 rfl) (by decide) ?_ ?_
          · refine qr_aload_n o (q_dm dm_X11_soonest 18 rfl) rfl ?_
            refine qr_getr (kf := 9) o cf_X11 (sh0 j r) rfl (Nat.le_of_ble_eq_true rfl) fl_X11_75 (q_dm dm_X11_soonest 19 rfl) ?_
            refine qr_aload_n o (q_dm dm_X11_soonest 20 rfl) rfl ?_
            refine qr_getr (kf := 2) o cf_X11 (sh0 j r) rfl (Nat.le_of_ble_eq_true rfl) fl_X11_26 (q_dm dm_X11_soonest 21 rfl) ?_
            refine qr_iload_n o (q_dm dm_X11_soonest 22 rfl) rfl ?_
            refine qr_iload_n o (q_dm dm_X11_soonest 23 rfl) rfl ?_
            refine qr_iload_n o (q_dm dm_X11_soonest 24 rfl) rfl ?_
            refine qr_callv_v (As := [.inr (some 7), .inl a1, .inl a2, .inl a3]) (S := []) o (a_X7_prepare g k.2.1 n j r hj hr (Or.inl rfl) a1 a2 a3 m2) (Nat.le_of_ble_eq_true rfl) zv_X7_prepare rfl cf_X7 (sh56 j r) ml_X11_196 (Nat.le_of_ble_eq_true rfl) (q_dm dm_X11_soonest 25 rfl) (fun _ m3 => ?_)
            refine qr_aload_n o (q_dm dm_X11_soonest 26 rfl) rfl ?_
            refine qr_getr (kf := 9) o cf_X11 (sh0 j r) rfl (Nat.le_of_ble_eq_true rfl) fl_X11_75 (q_dm dm_X11_soonest 27 rfl) ?_
            refine qr_iload o (q_dm dm_X11_soonest 28 rfl) rfl ?_
            refine qr_callv_i (As := [.inl a4]) (S := []) o (a_X7_soonestWay g k.2.1 n j r hj hr a4 m3) (Nat.le_of_ble_eq_true rfl) zv_X7_soonestWay rfl cf_X7 (sh56 j r) ml_X11_200 (Nat.le_of_ble_eq_true rfl) (q_dm dm_X11_soonest 29 rfl) (fun r4 m5 => ?_)
            refine qs_istore (L' := [some (.inr (some 0)), some (.inl a1), some (.inl a2), some (.inl a3), some (.inl a4), some (.inl a5), some (.inl r4)]) o (q_dm dm_X11_soonest 30 rfl) (Nat.le_of_ble_eq_true rfl) rfl ?_
            refine qr_iload o (q_dm dm_X11_soonest 31 rfl) rfl ?_
            refine qr_ldc o (q_dm dm_X11_soonest 32 rfl) kc_X11_203 ?_
            refine qr_icmp_lt (tgt := 69) o (q_dm dm_X11_soonest 33 rfl) (by decide) ?_ ?_
            · refine qr_iload o (q_dm dm_X11_soonest 36 rfl) rfl ?_
              refine qr_if_ne (tgt := 82) o (q_dm dm_X11_soonest 37 rfl) (by decide) ?_ ?_
              · refine qr_iload o (q_dm dm_X11_soonest 42 rfl) rfl ?_
                refine qr_bipush o (q_dm dm_X11_soonest 43 rfl) bi_16 ?_
                refine qr_iremc o (q_dm dm_X11_soonest 44 rfl) (by decide) ?_
                exact qr_iret o rfl rfl (q_dm dm_X11_soonest 45 rfl)
              · refine qr_iload o (q_dm dm_X11_soonest 38 rfl) rfl ?_
                refine qr_bipush o (q_dm dm_X11_soonest 39 rfl) bi_16 ?_
                refine qr_idivc o (q_dm dm_X11_soonest 40 rfl) (by decide) ?_
                refine qr_goto (tgt := 87) o (q_dm dm_X11_soonest 41 rfl) (by decide) ?_
                exact qr_iret o rfl rfl (q_dm dm_X11_soonest 45 rfl)
            · refine qr_bipush o (q_dm dm_X11_soonest 34 rfl) bi_m2 ?_
              exact qr_iret o rfl rfl (q_dm dm_X11_soonest 35 rfl)
          · refine qr_iconst o (q_dm dm_X11_soonest 16 rfl) ic_m1 ?_
            exact qr_iret o rfl rfl (q_dm dm_X11_soonest 17 rfl)

theorem a_X11_soonest (g : qG) (l : Launch) (n : Nat) (j r : Nat) (hj : q_isLaw j) (hr : q_isLaw r) (a1 a2 a3 a4 a5 : Int32) (M : qM) : qAM g l 20 zX11_soonest (qL j r) [.inr (some 0), .inl a1, .inl a2, .inl a3, .inl a4, .inl a5] (qL j r, M) (f_X11_soonest n j a1 a2 a3 a4 a5 M) :=
  qAM.of zv_X11_soonest.1 (by show 6 ≤ 7; decide) (fun k hk o => w_X11_soonest n j r hj hr o a1 a2 a3 a4 a5 M)
def tb_X11_tried : List (Nat × Instr × Nat) := [(0, (.iload_n 2, 1)), (1, (.bipush 10, 2)), (3, (.if_icmp .lt 21, 3)), (6, (.aload_n 0, 1)), (7, (.getfield 26, 3)), (10, (.iload_n 2, 1)), (11, (.bipush 10, 2)), (13, (.isub, 1)), (14, (.invokevirtual 131, 3)), (17, (.ifCond .eq 7, 3)), (20, (.iconst 1, 1)), (21, (.goto 4, 3)), (24, (.iconst 0, 1)), (25, (.istore_n 3, 1)), (26, (.iload_n 1, 1)), (27, (.iconst 1, 1)), (28, (.if_icmp .lt 22, 3)), (31, (.iload_n 1, 1)), (32, (.bipush 60, 2)), (34, (.if_icmp .gt 16, 3)), (37, (.iload_n 3, 1)), (38, (.ifCond .ne 14, 3)), (41, (.iload_n 2, 1)), (42, (.ifCond .lt 8, 3)), (45, (.iload_n 2, 1)), (46, (.iconst 5, 1)), (47, (.if_icmp .le 5, 3)), (50, (.iconst (-1), 1)), (51, (.ireturn, 1)), (52, (.aload_n 0, 1)), (53, (.getfield 33, 3)), (56, (.aload_n 0, 1)), (57, (.getfield 26, 3)), (60, (.invokevirtual 159, 3)), (63, (.aload_n 0, 1)), (64, (.getfield 50, 3)), (67, (.aload_n 0, 1)), (68, (.getfield 33, 3)), (71, (.iload_n 1, 1)), (72, (.invokevirtual 152, 3)), (75, (.iload_n 3, 1)), (76, (.ifCond .eq 17, 3)), (79, (.aload_n 0, 1)), (80, (.getfield 33, 3)), (83, (.iload_n 2, 1)), (84, (.bipush 10, 2)), (86, (.isub, 1)), (87, (.invokevirtual 163, 3)), (90, (.goto 11, 3)), (93, (.aload_n 0, 1)), (94, (.getfield 50, 3)), (97, (.iload_n 2, 1)), (98, (.invokevirtual 166, 3)), (101, (.ireturn, 1))]
theorem dm_X11_tried : ∀ q ∈ tb_X11_tried, decode zX11_tried.2.1 q.1 = .ok q.2 := by decide +kernel
def f_X11_tried_52 (n : Nat) (j : Nat) (a1 a2 a3 : Int32) (M : qM) : qR :=
  qc (f_X10_copy n 25 7 M) (fun _ m1 => qc (f_X0_goDays n 25 j a1 m1) (fun _ m2 => (if a3 = (0 : Int32) then qc (f_X0_cameOfDays n a2 m2) (fun r3 m4 => some (r3, m4)) else qc (f_X10_stepsLeft n 25 (a2 - (10 : Int32)) m2) (fun r5 m6 => some (r5, m6)))))
set_option maxRecDepth 4000 in
theorem w_X11_tried_52 {g : qG} {k : qK} (n : Nat) (j r : Nat) (hj : q_isLaw j) (hr : q_isLaw r) (o : qOk g 7 zX11_tried k) (a1 a2 a3 : Int32) (M : qM) : qAE g k zX11_tried (qL j r) 52 [some (.inr (some 0)), some (.inl a1), some (.inl a2), some (.inl a3)] [] (qL j r, M) (f_X11_tried_52 n j a1 a2 a3 M) := by
  unfold f_X11_tried_52
  refine qr_aload_n o (q_dm dm_X11_tried 29 rfl) rfl ?_
  refine qr_getr (kf := 4) o cf_X11 (sh0 j r) rfl (Nat.le_of_ble_eq_true rfl) fl_X11_33 (q_dm dm_X11_tried 30 rfl) ?_
  refine qr_aload_n o (q_dm dm_X11_tried 31 rfl) rfl ?_
  refine qr_getr (kf := 2) o cf_X11 (sh0 j r) rfl (Nat.le_of_ble_eq_true rfl) fl_X11_26 (q_dm dm_X11_tried 32 rfl) ?_
  refine qr_callv_v (As := [.inr (some 7)]) (S := []) o (a_X10_copy g k.2.1 n j r hj hr (Or.inr (Or.inr rfl)) (Or.inl rfl) M) (Nat.le_of_ble_eq_true rfl) zv_X10_copy rfl cf_X10 (sh25 j r) ml_X11_159 (Nat.le_of_ble_eq_true rfl) (q_dm dm_X11_tried 33 rfl) (fun _ m1 => ?_)
  refine qr_aload_n o (q_dm dm_X11_tried 34 rfl) rfl ?_
  refine qr_getr (kf := 6) o cf_X11 (sh0 j r) rfl (Nat.le_of_ble_eq_true rfl) fl_X11_50 (q_dm dm_X11_tried 35 rfl) ?_
  refine qr_aload_n o (q_dm dm_X11_tried 36 rfl) rfl ?_
  refine qr_getr (kf := 4) o cf_X11 (sh0 j r) rfl (Nat.le_of_ble_eq_true rfl) fl_X11_33 (q_dm dm_X11_tried 37 rfl) ?_
  refine qr_iload_n o (q_dm dm_X11_tried 38 rfl) rfl ?_
  refine qr_callv_v (As := [.inr (some 25), .inl a1]) (S := []) o (a_X0_goDays g k.2.1 n j r hj hr (Or.inr (Or.inr rfl)) a1 m1) (Nat.le_of_ble_eq_true rfl) zv_X0_goDays rfl cf_X0 (sh44 j r) ml_X11_152 (Nat.le_of_ble_eq_true rfl) (q_dm dm_X11_tried 39 rfl) (fun _ m2 => ?_)
  refine qr_iload_n o (q_dm dm_X11_tried 40 rfl) rfl ?_
  refine qr_if_eq (tgt := 93) o (q_dm dm_X11_tried 41 rfl) (by decide) ?_ ?_
  · refine qr_aload_n o (q_dm dm_X11_tried 49 rfl) rfl ?_
    refine qr_getr (kf := 6) o cf_X11 (sh0 j r) rfl (Nat.le_of_ble_eq_true rfl) fl_X11_50 (q_dm dm_X11_tried 50 rfl) ?_
    refine qr_iload_n o (q_dm dm_X11_tried 51 rfl) rfl ?_
    refine qr_callv_i (As := [.inl a2]) (S := []) o (a_X0_cameOfDays g k.2.1 n j r hj hr a2 m2) (Nat.le_of_ble_eq_true rfl) zv_X0_cameOfDays rfl cf_X0 (sh44 j r) ml_X11_166 (Nat.le_of_ble_eq_true rfl) (q_dm dm_X11_tried 52 rfl) (fun r3 m4 => ?_)
    exact qr_iret o rfl rfl (q_dm dm_X11_tried 53 rfl)
  · refine qr_aload_n o (q_dm dm_X11_tried 42 rfl) rfl ?_
    refine qr_getr (kf := 4) o cf_X11 (sh0 j r) rfl (Nat.le_of_ble_eq_true rfl) fl_X11_33 (q_dm dm_X11_tried 43 rfl) ?_
    refine qr_iload_n o (q_dm dm_X11_tried 44 rfl) rfl ?_
    refine qr_bipush o (q_dm dm_X11_tried 45 rfl) bi_10 ?_
    refine qr_isub o (q_dm dm_X11_tried 46 rfl) ?_
    refine qr_callv_i (As := [.inl (a2 - (10 : Int32))]) (S := []) o (a_X10_stepsLeft g k.2.1 n j r hj hr (Or.inr (Or.inr rfl)) (a2 - (10 : Int32)) m2) (Nat.le_of_ble_eq_true rfl) zv_X10_stepsLeft rfl cf_X10 (sh25 j r) ml_X11_163 (Nat.le_of_ble_eq_true rfl) (q_dm dm_X11_tried 47 rfl) (fun r5 m6 => ?_)
    refine qr_goto (tgt := 101) o (q_dm dm_X11_tried 48 rfl) (by decide) ?_
    exact qr_iret o rfl rfl (q_dm dm_X11_tried 53 rfl)

def f_X11_tried_25 (n : Nat) (j : Nat) (a1 a2 s0 : Int32) (M : qM) : qR :=
  (if a1 < (1 : Int32) then some ((-1 : Int32), M) else (if (60 : Int32) < a1 then some ((-1 : Int32), M) else (if s0 = (0 : Int32) then (if a2 < (0 : Int32) then some ((-1 : Int32), M) else (if a2 ≤ (5 : Int32) then f_X11_tried_52 n j a1 a2 s0 M else some ((-1 : Int32), M))) else f_X11_tried_52 n j a1 a2 s0 M)))
set_option maxRecDepth 4000 in
theorem w_X11_tried_25 {g : qG} {k : qK} (n : Nat) (j r : Nat) (hj : q_isLaw j) (hr : q_isLaw r) (o : qOk g 7 zX11_tried k) (a1 a2 s0 : Int32) (M : qM) : qAE g k zX11_tried (qL j r) 25 [some (.inr (some 0)), some (.inl a1), some (.inl a2), none] [.inl s0] (qL j r, M) (f_X11_tried_25 n j a1 a2 s0 M) := by
  unfold f_X11_tried_25
  refine qs_istore_n (L' := [some (.inr (some 0)), some (.inl a1), some (.inl a2), some (.inl s0)]) o (q_dm dm_X11_tried 13 rfl) (Nat.le_of_ble_eq_true rfl) rfl ?_
  refine qr_iload_n o (q_dm dm_X11_tried 14 rfl) rfl ?_
  refine qr_iconst o (q_dm dm_X11_tried 15 rfl) ic_1 ?_
  refine qr_icmp_lt (tgt := 50) o (q_dm dm_X11_tried 16 rfl) (by decide) ?_ ?_
  · refine qr_iconst o (q_dm dm_X11_tried 27 rfl) ic_m1 ?_
    exact qr_iret o rfl rfl (q_dm dm_X11_tried 28 rfl)
  · refine qr_iload_n o (q_dm dm_X11_tried 17 rfl) rfl ?_
    refine qr_bipush o (q_dm dm_X11_tried 18 rfl) bi_60 ?_
    refine qr_icmp_gt (tgt := 50) o (q_dm dm_X11_tried 19 rfl) (by decide) ?_ ?_
    · refine qr_iconst o (q_dm dm_X11_tried 27 rfl) ic_m1 ?_
      exact qr_iret o rfl rfl (q_dm dm_X11_tried 28 rfl)
    · refine qr_iload_n o (q_dm dm_X11_tried 20 rfl) rfl ?_
      refine qr_if_ne (tgt := 52) o (q_dm dm_X11_tried 21 rfl) (by decide) ?_ ?_
      · exact qr_loc (q_leS (q_leS (q_leS (q_leS q_le0)))) (w_X11_tried_52 n j r hj hr o a1 a2 s0 M)
      · refine qr_iload_n o (q_dm dm_X11_tried 22 rfl) rfl ?_
        refine qr_if_lt (tgt := 50) o (q_dm dm_X11_tried 23 rfl) (by decide) ?_ ?_
        · refine qr_iconst o (q_dm dm_X11_tried 27 rfl) ic_m1 ?_
          exact qr_iret o rfl rfl (q_dm dm_X11_tried 28 rfl)
        · refine qr_iload_n o (q_dm dm_X11_tried 24 rfl) rfl ?_
          refine qr_iconst o (q_dm dm_X11_tried 25 rfl) ic_5 ?_
          refine qr_icmp_le (tgt := 52) o (q_dm dm_X11_tried 26 rfl) (by decide) ?_ ?_
          · exact qr_loc (q_leS (q_leS (q_leS (q_leS q_le0)))) (w_X11_tried_52 n j r hj hr o a1 a2 s0 M)
          · refine qr_iconst o (q_dm dm_X11_tried 27 rfl) ic_m1 ?_
            exact qr_iret o rfl rfl (q_dm dm_X11_tried 28 rfl)

def f_X11_tried_24 (n : Nat) (j : Nat) (a1 a2 : Int32) (M : qM) : qR :=
  f_X11_tried_25 n j a1 a2 (0 : Int32) M
set_option maxRecDepth 4000 in
theorem w_X11_tried_24 {g : qG} {k : qK} (n : Nat) (j r : Nat) (hj : q_isLaw j) (hr : q_isLaw r) (o : qOk g 7 zX11_tried k) (a1 a2 : Int32) (M : qM) : qAE g k zX11_tried (qL j r) 24 [some (.inr (some 0)), some (.inl a1), some (.inl a2), none] [] (qL j r, M) (f_X11_tried_24 n j a1 a2 M) := by
  unfold f_X11_tried_24
  refine qr_iconst o (q_dm dm_X11_tried 12 rfl) ic_0 ?_
  exact qr_loc (q_leS (q_leS (q_leS (q_leN q_le0)))) (w_X11_tried_25 n j r hj hr o a1 a2 (0 : Int32) M)

def f_X11_tried (n : Nat) (j : Nat) (a1 a2 : Int32) (M : qM) : qR :=
  (if a2 < (10 : Int32) then f_X11_tried_24 n j a1 a2 M else qc (f_X10_knows n 7 (a2 - (10 : Int32)) M) (fun r1 m2 => (if r1 = (0 : Int32) then f_X11_tried_24 n j a1 a2 m2 else f_X11_tried_25 n j a1 a2 (1 : Int32) m2)))
set_option maxRecDepth 4000 in
theorem w_X11_tried {g : qG} {k : qK} (n : Nat) (j r : Nat) (hj : q_isLaw j) (hr : q_isLaw r) (o : qOk g 7 zX11_tried k) (a1 a2 : Int32) (M : qM) : qAE g k zX11_tried (qL j r) 0 [some (.inr (some 0)), some (.inl a1), some (.inl a2), none] [] (qL j r, M) (f_X11_tried n j a1 a2 M) := by
  unfold f_X11_tried
  refine qr_iload_n o (q_dm dm_X11_tried 0 rfl) rfl ?_
  refine qr_bipush o (q_dm dm_X11_tried 1 rfl) bi_10 ?_
  refine qr_icmp_lt (tgt := 24) o (q_dm dm_X11_tried 2 rfl) (by decide) ?_ ?_
  · exact qr_loc (q_leS (q_leS (q_leS (q_leN q_le0)))) (w_X11_tried_24 n j r hj hr o a1 a2 M)
  · refine qr_aload_n o (q_dm dm_X11_tried 3 rfl) rfl ?_
    refine qr_getr (kf := 2) o cf_X11 (sh0 j r) rfl (Nat.le_of_ble_eq_true rfl) fl_X11_26 (q_dm dm_X11_tried 4 rfl) ?_
    refine qr_iload_n o (q_dm dm_X11_tried 5 rfl) rfl ?_
    refine qr_bipush o (q_dm dm_X11_tried 6 rfl) bi_10 ?_
    refine qr_isub o (q_dm dm_X11_tried 7 rfl) ?_
    refine qr_callv_i (As := [.inl (a2 - (10 : Int32))]) (S := []) o (a_X10_knows g k.2.1 n j r hj hr (Or.inl rfl) (a2 - (10 : Int32)) M) (Nat.le_of_ble_eq_true rfl) zv_X10_knows rfl cf_X10 (sh7 j r) ml_X11_131 (Nat.le_of_ble_eq_true rfl) (q_dm dm_X11_tried 8 rfl) (fun r1 m2 => ?_)
    refine qr_if_eq (tgt := 24) o (q_dm dm_X11_tried 9 rfl) (by decide) ?_ ?_
    · exact qr_loc (q_leS (q_leS (q_leS (q_leN q_le0)))) (w_X11_tried_24 n j r hj hr o a1 a2 m2)
    · refine qr_iconst o (q_dm dm_X11_tried 10 rfl) ic_1 ?_
      refine qr_goto (tgt := 25) o (q_dm dm_X11_tried 11 rfl) (by decide) ?_
      exact qr_loc (q_leS (q_leS (q_leS (q_leN q_le0)))) (w_X11_tried_25 n j r hj hr o a1 a2 (1 : Int32) m2)

theorem a_X11_tried (g : qG) (l : Launch) (n : Nat) (j r : Nat) (hj : q_isLaw j) (hr : q_isLaw r) (a1 a2 : Int32) (M : qM) : qAM g l 7 zX11_tried (qL j r) [.inr (some 0), .inl a1, .inl a2] (qL j r, M) (f_X11_tried n j a1 a2 M) :=
  qAM.of zv_X11_tried.1 (by show 3 ≤ 4; decide) (fun k hk o => w_X11_tried n j r hj hr o a1 a2 M)
def tb_X11_tries : List (Nat × Instr × Nat) := [(0, (.aload_n 0, 1)), (1, (.getfield 26, 3)), (4, (.iload_n 1, 1)), (5, (.invokevirtual 131, 3)), (8, (.ifCond .eq 14, 3)), (11, (.aload_n 0, 1)), (12, (.getfield 19, 3)), (15, (.iload_n 2, 1)), (16, (.invokevirtual 140, 3)), (19, (.ifCond .ne 5, 3)), (22, (.iconst (-1), 1)), (23, (.ireturn, 1)), (24, (.iload_n 3, 1)), (25, (.iconst (-1), 1)), (26, (.if_icmp .ne 19, 3)), (29, (.aload_n 0, 1)), (30, (.getfield 50, 3)), (33, (.aload_n 0, 1)), (34, (.getfield 26, 3)), (37, (.iload_n 1, 1)), (38, (.iload_n 2, 1)), (39, (.bipush 8, 2)), (41, (.invokevirtual 141, 3)), (44, (.ireturn, 1)), (45, (.iload_n 3, 1)), (46, (.iload_n 1, 1)), (47, (.if_icmp .eq 14, 3)), (50, (.aload_n 0, 1)), (51, (.getfield 26, 3)), (54, (.iload_n 3, 1)), (55, (.invokevirtual 131, 3)), (58, (.ifCond .ne 5, 3)), (61, (.iconst (-1), 1)), (62, (.ireturn, 1)), (63, (.aload_n 0, 1)), (64, (.getfield 50, 3)), (67, (.aload_n 0, 1)), (68, (.getfield 26, 3)), (71, (.iload_n 1, 1)), (72, (.iload_n 2, 1)), (73, (.iload_n 3, 1)), (74, (.invokevirtual 141, 3)), (77, (.ireturn, 1))]
theorem dm_X11_tries : ∀ q ∈ tb_X11_tries, decode zX11_tries.2.1 q.1 = .ok q.2 := by decide +kernel
def f_X11_tries (n : Nat) (j : Nat) (a1 a2 a3 : Int32) (M : qM) : qR :=
  qc (f_X10_knows n 7 a1 M) (fun r1 m2 => (if r1 = (0 : Int32) then some ((-1 : Int32), m2) else qc (f_X2_knows n a2 m2) (fun r3 m4 => (if r3 = (0 : Int32) then some ((-1 : Int32), m4) else (if a3 = (-1 : Int32) then qc (f_X0_attempt n 7 j a1 a2 (8 : Int32) m4) (fun r9 m10 => some (r9, m10)) else (if a3 = a1 then some ((-1 : Int32), m4) else qc (f_X10_knows n 7 a3 m4) (fun r5 m6 => (if r5 = (0 : Int32) then some ((-1 : Int32), m6) else qc (f_X0_attempt n 7 j a1 a2 a3 m6) (fun r7 m8 => some (r7, m8))))))))))
set_option maxRecDepth 4000 in
theorem w_X11_tries {g : qG} {k : qK} (n : Nat) (j r : Nat) (hj : q_isLaw j) (hr : q_isLaw r) (o : qOk g 5 zX11_tries k) (a1 a2 a3 : Int32) (M : qM) : qAE g k zX11_tries (qL j r) 0 [some (.inr (some 0)), some (.inl a1), some (.inl a2), some (.inl a3)] [] (qL j r, M) (f_X11_tries n j a1 a2 a3 M) := by
  unfold f_X11_tries
  refine qr_aload_n o (q_dm dm_X11_tries 0 rfl) rfl ?_
  refine qr_getr (kf := 2) o cf_X11 (sh0 j r) rfl (Nat.le_of_ble_eq_true rfl) fl_X11_26 (q_dm dm_X11_tries 1 rfl) ?_
  refine qr_iload_n o (q_dm dm_X11_tries 2 rfl) rfl ?_
  refine qr_callv_i (As := [.inl a1]) (S := []) o (a_X10_knows g k.2.1 n j r hj hr (Or.inl rfl) a1 M) (Nat.le_of_ble_eq_true rfl) zv_X10_knows rfl cf_X10 (sh7 j r) ml_X11_131 (Nat.le_of_ble_eq_true rfl) (q_dm dm_X11_tries 3 rfl) (fun r1 m2 => ?_)
  refine qr_if_eq (tgt := 22) o (q_dm dm_X11_tries 4 rfl) (by decide) ?_ ?_
  · refine qr_iconst o (q_dm dm_X11_tries 10 rfl) ic_m1 ?_
    exact qr_iret o rfl rfl (q_dm dm_X11_tries 11 rfl)
  · refine qr_aload_n o (q_dm dm_X11_tries 5 rfl) rfl ?_
    refine qr_getr (kf := 1) o cf_X11 (sh0 j r) rfl (Nat.le_of_ble_eq_true rfl) fl_X11_19 (q_dm dm_X11_tries 6 rfl) ?_
    refine qr_iload_n o (q_dm dm_X11_tries 7 rfl) rfl ?_
    refine qr_callv_i (As := [.inl a2]) (S := []) o (a_X2_knows g k.2.1 n j r hj hr a2 m2) (Nat.le_of_ble_eq_true rfl) zv_X2_knows rfl cf_X2 (sh3 j r) ml_X11_140 (Nat.le_of_ble_eq_true rfl) (q_dm dm_X11_tries 8 rfl) (fun r3 m4 => ?_)
    refine qr_if_ne (tgt := 24) o (q_dm dm_X11_tries 9 rfl) (by decide) ?_ ?_
    · refine qr_iload_n o (q_dm dm_X11_tries 12 rfl) rfl ?_
      refine qr_iconst o (q_dm dm_X11_tries 13 rfl) ic_m1 ?_
      refine qr_icmp_ne (tgt := 45) o (q_dm dm_X11_tries 14 rfl) (by decide) ?_ ?_
      · refine qr_iload_n o (q_dm dm_X11_tries 24 rfl) rfl ?_
        refine qr_iload_n o (q_dm dm_X11_tries 25 rfl) rfl ?_
        refine qr_icmp_eq (tgt := 61) o (q_dm dm_X11_tries 26 rfl) (by decide) ?_ ?_
        · refine qr_iconst o (q_dm dm_X11_tries 32 rfl) ic_m1 ?_
          exact qr_iret o rfl rfl (q_dm dm_X11_tries 33 rfl)
        · refine qr_aload_n o (q_dm dm_X11_tries 27 rfl) rfl ?_
          refine qr_getr (kf := 2) o cf_X11 (sh0 j r) rfl (Nat.le_of_ble_eq_true rfl) fl_X11_26 (q_dm dm_X11_tries 28 rfl) ?_
          refine qr_iload_n o (q_dm dm_X11_tries 29 rfl) rfl ?_
          refine qr_callv_i (As := [.inl a3]) (S := []) o (a_X10_knows g k.2.1 n j r hj hr (Or.inl rfl) a3 m4) (Nat.le_of_ble_eq_true rfl) zv_X10_knows rfl cf_X10 (sh7 j r) ml_X11_131 (Nat.le_of_ble_eq_true rfl) (q_dm dm_X11_tries 30 rfl) (fun r5 m6 => ?_)
          refine qr_if_ne (tgt := 63) o (q_dm dm_X11_tries 31 rfl) (by decide) ?_ ?_
          · refine qr_aload_n o (q_dm dm_X11_tries 34 rfl) rfl ?_
            refine qr_getr (kf := 6) o cf_X11 (sh0 j r) rfl (Nat.le_of_ble_eq_true rfl) fl_X11_50 (q_dm dm_X11_tries 35 rfl) ?_
            refine qr_aload_n o (q_dm dm_X11_tries 36 rfl) rfl ?_
            refine qr_getr (kf := 2) o cf_X11 (sh0 j r) rfl (Nat.le_of_ble_eq_true rfl) fl_X11_26 (q_dm dm_X11_tries 37 rfl) ?_
            refine qr_iload_n o (q_dm dm_X11_tries 38 rfl) rfl ?_
            refine qr_iload_n o (q_dm dm_X11_tries 39 rfl) rfl ?_
            refine qr_iload_n o (q_dm dm_X11_tries 40 rfl) rfl ?_
            refine qr_callv_i (As := [.inr (some 7), .inl a1, .inl a2, .inl a3]) (S := []) o (a_X0_attempt g k.2.1 n j r hj hr (Or.inl rfl) a1 a2 a3 m6) (Nat.le_of_ble_eq_true rfl) zv_X0_attempt rfl cf_X0 (sh44 j r) ml_X11_141 (Nat.le_of_ble_eq_true rfl) (q_dm dm_X11_tries 41 rfl) (fun r7 m8 => ?_)
            exact qr_iret o rfl rfl (q_dm dm_X11_tries 42 rfl)
          · refine qr_iconst o (q_dm dm_X11_tries 32 rfl) ic_m1 ?_
            exact qr_iret o rfl rfl (q_dm dm_X11_tries 33 rfl)
      · refine qr_aload_n o (q_dm dm_X11_tries 15 rfl) rfl ?_
        refine qr_getr (kf := 6) o cf_X11 (sh0 j r) rfl (Nat.le_of_ble_eq_true rfl) fl_X11_50 (q_dm dm_X11_tries 16 rfl) ?_
        refine qr_aload_n o (q_dm dm_X11_tries 17 rfl) rfl ?_
        refine qr_getr (kf := 2) o cf_X11 (sh0 j r) rfl (Nat.le_of_ble_eq_true rfl) fl_X11_26 (q_dm dm_X11_tries 18 rfl) ?_
        refine qr_iload_n o (q_dm dm_X11_tries 19 rfl) rfl ?_
        refine qr_iload_n o (q_dm dm_X11_tries 20 rfl) rfl ?_
        refine qr_bipush o (q_dm dm_X11_tries 21 rfl) bi_8 ?_
        refine qr_callv_i (As := [.inr (some 7), .inl a1, .inl a2, .inl (8 : Int32)]) (S := []) o (a_X0_attempt g k.2.1 n j r hj hr (Or.inl rfl) a1 a2 (8 : Int32) m4) (Nat.le_of_ble_eq_true rfl) zv_X0_attempt rfl cf_X0 (sh44 j r) ml_X11_141 (Nat.le_of_ble_eq_true rfl) (q_dm dm_X11_tries 22 rfl) (fun r9 m10 => ?_)
        exact qr_iret o rfl rfl (q_dm dm_X11_tries 23 rfl)
    · refine qr_iconst o (q_dm dm_X11_tries 10 rfl) ic_m1 ?_
      exact qr_iret o rfl rfl (q_dm dm_X11_tries 11 rfl)

theorem a_X11_tries (g : qG) (l : Launch) (n : Nat) (j r : Nat) (hj : q_isLaw j) (hr : q_isLaw r) (a1 a2 a3 : Int32) (M : qM) : qAM g l 5 zX11_tries (qL j r) [.inr (some 0), .inl a1, .inl a2, .inl a3] (qL j r, M) (f_X11_tries n j a1 a2 a3 M) :=
  qAM.of zv_X11_tries.1 (by show 4 ≤ 4; decide) (fun k hk o => w_X11_tries n j r hj hr o a1 a2 a3 M)
