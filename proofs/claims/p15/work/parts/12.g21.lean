def tb_X12_law : List (Nat × Instr × Nat) := [(0, (.iload_n 1, 1)), (1, (.iconst 1, 1)), (2, (.sipush 240, 3)), (5, (.invokestatic 153, 3)), (8, (.ifCond .eq 11, 3)), (11, (.iload_n 1, 1)), (12, (.aload_n 0, 1)), (13, (.getfield 162, 3)), (16, (.if_icmp .le 5, 3)), (19, (.iconst (-1), 1)), (20, (.ireturn, 1)), (21, (.aload_n 0, 1)), (22, (.iconst 0, 1)), (23, (.putfield 169, 3)), (26, (.aload_n 0, 1)), (27, (.iload_n 1, 1)), (28, (.putfield 172, 3)), (31, (.aload_n 0, 1)), (32, (.iconst 0, 1)), (33, (.putfield 192, 3)), (36, (.aload_n 0, 1)), (37, (.iconst 0, 1)), (38, (.putfield 250, 3)), (41, (.aload_n 0, 1)), (42, (.invokevirtual 256, 3)), (45, (.istore_n 2, 1)), (46, (.iload_n 2, 1)), (47, (.ifCond .eq 39, 3)), (50, (.aload_n 0, 1)), (51, (.getfield 169, 3)), (54, (.aload_n 0, 1)), (55, (.getfield 172, 3)), (58, (.if_icmp .ge 28, 3)), (61, (.aload_n 0, 1)), (62, (.bipush 59, 2)), (64, (.invokevirtual 259, 3)), (67, (.ifCond .eq 14, 3)), (70, (.aload_n 0, 1)), (71, (.invokevirtual 256, 3)), (74, (.ifCond .eq 7, 3)), (77, (.iconst 1, 1)), (78, (.goto 4, 3)), (81, (.iconst 0, 1)), (82, (.istore_n 2, 1)), (83, (.goto (-37), 3)), (86, (.aload_n 0, 1)), (87, (.iconst 0, 1)), (88, (.putfield 162, 3)), (91, (.iload_n 2, 1)), (92, (.ifCond .ne 8, 3)), (95, (.aload_n 0, 1)), (96, (.getfield 179, 3)), (99, (.ireturn, 1)), (100, (.aload_n 0, 1)), (101, (.aload_n 0, 1)), (102, (.getfield 250, 3)), (105, (.putfield 262, 3)), (108, (.iconst 0, 1)), (109, (.istore_n 3, 1)), (110, (.iload_n 3, 1)), (111, (.aload_n 0, 1)), (112, (.getfield 192, 3)), (115, (.if_icmp .ge 21, 3)), (118, (.aload_n 0, 1)), (119, (.getfield 50, 3)), (122, (.iload_n 3, 1)), (123, (.aload_n 0, 1)), (124, (.getfield 32, 3)), (127, (.iload_n 3, 1)), (128, (.iaload, 1)), (129, (.iastore, 1)), (130, (.iinc 3 1, 3)), (133, (.goto (-23), 3)), (136, (.iconst 0, 1)), (137, (.istore_n 3, 1)), (138, (.iload_n 3, 1)), (139, (.aload_n 0, 1)), (140, (.getfield 250, 3)), (143, (.if_icmp .ge 57, 3)), (146, (.aload_n 0, 1)), (147, (.getfield 53, 3)), (150, (.iload_n 3, 1)), (151, (.aload_n 0, 1)), (152, (.getfield 38, 3)), (155, (.iload_n 3, 1)), (156, (.iaload, 1)), (157, (.iastore, 1)), (158, (.aload_n 0, 1)), (159, (.getfield 56, 3)), (162, (.iload_n 3, 1)), (163, (.aload_n 0, 1)), (164, (.getfield 41, 3)), (167, (.iload_n 3, 1)), (168, (.iaload, 1)), (169, (.iastore, 1)), (170, (.aload_n 0, 1)), (171, (.getfield 59, 3)), (174, (.iload_n 3, 1)), (175, (.aload_n 0, 1)), (176, (.getfield 44, 3)), (179, (.iload_n 3, 1)), (180, (.iaload, 1)), (181, (.iastore, 1)), (182, (.aload_n 0, 1)), (183, (.getfield 62, 3)), (186, (.iload_n 3, 1)), (187, (.aload_n 0, 1)), (188, (.getfield 47, 3)), (191, (.iload_n 3, 1)), (192, (.iaload, 1)), (193, (.iastore, 1)), (194, (.iinc 3 1, 3)), (197, (.goto (-59), 3)), (200, (.aload_n 0, 1)), (201, (.getfield 250, 3)), (204, (.ireturn, 1))]
theorem dm_X12_law : ∀ q ∈ tb_X12_law, decode zX12_law.2.1 q.1 = .ok q.2 := by decide +kernel
def b_X12_law_138 (n : Nat) (K138 : Int32 → qM → qR) (a3 : Int32) (M : qM) : qR :=
  (if (M 77 16) ≤ a3 then some ((M 77 16), M) else qg a3 16 (qg a3 16 (qlm (mu M 92 a3.toNatClampNeg (M 87 a3.toNatClampNeg)) (fun m1 => qg a3 16 (qg a3 16 (qlm (mu m1 93 a3.toNatClampNeg (m1 88 a3.toNatClampNeg)) (fun m2 => qg a3 16 (qg a3 16 (qlm (mu m2 94 a3.toNatClampNeg (m2 89 a3.toNatClampNeg)) (fun m3 => qg a3 16 (qg a3 16 (qlm (mu m3 95 a3.toNatClampNeg (m3 90 a3.toNatClampNeg)) (fun m4 => ql (a3 + (1 : Int32)) (fun x5 => K138 x5 m4))))))))))))))
set_option maxRecDepth 4000 in
theorem wb_X12_law_138 {g : qG} {k : qK} (n : Nat) (j r : Nat) (hj : q_isLaw j) (hr : q_isLaw r) (o : qOk g 8 zX12_law k) (K138 : Int32 → qM → qR) (hK138 : ∀ (a3 : Int32) (M : qM), qAE g k zX12_law (qL j r) 138 [some (.inr (some 77)), none, none, some (.inl a3)] [] (qL j r, M) (K138 a3 M)) (a3 : Int32) (M : qM) : qAE g k zX12_law (qL j r) 138 [some (.inr (some 77)), none, none, some (.inl a3)] [] (qL j r, M) (b_X12_law_138 n K138 a3 M) := by
  unfold b_X12_law_138
  refine qr_iload_n o (q_dm dm_X12_law 75 rfl) rfl ?_
  refine qr_aload_n o (q_dm dm_X12_law 76 rfl) rfl ?_
  refine qr_getf (kf := 16) o cf_X12 (sh77 j r) rfl (Nat.le_of_ble_eq_true rfl) fl_X12_250 (q_dm dm_X12_law 77 rfl) ?_
  refine qr_icmp_ge (tgt := 200) o (q_dm dm_X12_law 78 rfl) (by decide) ?_ ?_
  · refine qr_aload_n o (q_dm dm_X12_law 113 rfl) rfl ?_
    refine qr_getf (kf := 16) o cf_X12 (sh77 j r) rfl (Nat.le_of_ble_eq_true rfl) fl_X12_250 (q_dm dm_X12_law 114 rfl) ?_
    exact qr_iret o rfl rfl (q_dm dm_X12_law 115 rfl)
  · refine qr_aload_n o (q_dm dm_X12_law 79 rfl) rfl ?_
    refine qr_getr (kf := 25) o cf_X12 (sh77 j r) rfl (Nat.le_of_ble_eq_true rfl) fl_X12_53 (q_dm dm_X12_law 80 rfl) ?_
    refine qr_iload_n o (q_dm dm_X12_law 81 rfl) rfl ?_
    refine qr_aload_n o (q_dm dm_X12_law 82 rfl) rfl ?_
    refine qr_getr (kf := 20) o cf_X12 (sh77 j r) rfl (Nat.le_of_ble_eq_true rfl) fl_X12_38 (q_dm dm_X12_law 83 rfl) ?_
    refine qr_iload_n o (q_dm dm_X12_law 84 rfl) rfl ?_
    refine qr_iald o (sh87 j r) (q_dm dm_X12_law 85 rfl) ?_
    refine qr_iast o (sh92 j r) (q_dm dm_X12_law 86 rfl) ?_
    refine qr_letm (fun m1 => ?_)
    refine qr_aload_n o (q_dm dm_X12_law 87 rfl) rfl ?_
    refine qr_getr (kf := 26) o cf_X12 (sh77 j r) rfl (Nat.le_of_ble_eq_true rfl) fl_X12_56 (q_dm dm_X12_law 88 rfl) ?_
    refine qr_iload_n o (q_dm dm_X12_law 89 rfl) rfl ?_
    refine qr_aload_n o (q_dm dm_X12_law 90 rfl) rfl ?_
    refine qr_getr (kf := 21) o cf_X12 (sh77 j r) rfl (Nat.le_of_ble_eq_true rfl) fl_X12_41 (q_dm dm_X12_law 91 rfl) ?_
    refine qr_iload_n o (q_dm dm_X12_law 92 rfl) rfl ?_
    refine qr_iald o (sh88 j r) (q_dm dm_X12_law 93 rfl) ?_
    refine qr_iast o (sh93 j r) (q_dm dm_X12_law 94 rfl) ?_
    refine qr_letm (fun m2 => ?_)
    refine qr_aload_n o (q_dm dm_X12_law 95 rfl) rfl ?_
    refine qr_getr (kf := 27) o cf_X12 (sh77 j r) rfl (Nat.le_of_ble_eq_true rfl) fl_X12_59 (q_dm dm_X12_law 96 rfl) ?_
    refine qr_iload_n o (q_dm dm_X12_law 97 rfl) rfl ?_
    refine qr_aload_n o (q_dm dm_X12_law 98 rfl) rfl ?_
    refine qr_getr (kf := 22) o cf_X12 (sh77 j r) rfl (Nat.le_of_ble_eq_true rfl) fl_X12_44 (q_dm dm_X12_law 99 rfl) ?_
    refine qr_iload_n o (q_dm dm_X12_law 100 rfl) rfl ?_
    refine qr_iald o (sh89 j r) (q_dm dm_X12_law 101 rfl) ?_
    refine qr_iast o (sh94 j r) (q_dm dm_X12_law 102 rfl) ?_
    refine qr_letm (fun m3 => ?_)
    refine qr_aload_n o (q_dm dm_X12_law 103 rfl) rfl ?_
    refine qr_getr (kf := 28) o cf_X12 (sh77 j r) rfl (Nat.le_of_ble_eq_true rfl) fl_X12_62 (q_dm dm_X12_law 104 rfl) ?_
    refine qr_iload_n o (q_dm dm_X12_law 105 rfl) rfl ?_
    refine qr_aload_n o (q_dm dm_X12_law 106 rfl) rfl ?_
    refine qr_getr (kf := 23) o cf_X12 (sh77 j r) rfl (Nat.le_of_ble_eq_true rfl) fl_X12_47 (q_dm dm_X12_law 107 rfl) ?_
    refine qr_iload_n o (q_dm dm_X12_law 108 rfl) rfl ?_
    refine qr_iald o (sh90 j r) (q_dm dm_X12_law 109 rfl) ?_
    refine qr_iast o (sh95 j r) (q_dm dm_X12_law 110 rfl) ?_
    refine qr_letm (fun m4 => ?_)
    refine qs_iincl2 (L' := fun x5 => [some (.inr (some 77)), none, none, some (.inl x5)]) o (q_dm dm_X12_law 111 rfl) rfl ic_1 (Nat.le_of_ble_eq_true rfl) (fun _ => rfl) (fun x5 => ?_)
    refine qr_goto (tgt := 138) o (q_dm dm_X12_law 112 rfl) (by decide) ?_
    exact qr_loc (q_leS (q_leN (q_leN (q_leS q_le0)))) (hK138 x5 m4)

def f_X12_law_138 (n : Nat) : Nat → Int32 → qM → qR
  | 0, _, _ => none
  | m + 1, a3, M => b_X12_law_138 n (f_X12_law_138 n m) a3 M
theorem w_X12_law_138 {g : qG} {k : qK} (n : Nat) (j r : Nat) (hj : q_isLaw j) (hr : q_isLaw r) (o : qOk g 8 zX12_law k) : ∀ (m : Nat) (a3 : Int32) (M : qM), qAE g k zX12_law (qL j r) 138 [some (.inr (some 77)), none, none, some (.inl a3)] [] (qL j r, M) (f_X12_law_138 n m a3 M) := by
  intro m
  induction m with
  | zero =>
    intro a3 M
    exact qr_none
  | succ m ih =>
    intro a3 M
    exact wb_X12_law_138 n j r hj hr o (f_X12_law_138 n m) ih a3 M
def b_X12_law_110 (n : Nat) (K110 : Int32 → qM → qR) (a3 : Int32) (M : qM) : qR :=
  (if (M 77 14) ≤ a3 then f_X12_law_138 n n (0 : Int32) M else qg a3 260 (qg a3 260 (qlm (mu M 91 a3.toNatClampNeg (M 85 a3.toNatClampNeg)) (fun m1 => ql (a3 + (1 : Int32)) (fun x2 => K110 x2 m1)))))
set_option maxRecDepth 4000 in
theorem wb_X12_law_110 {g : qG} {k : qK} (n : Nat) (j r : Nat) (hj : q_isLaw j) (hr : q_isLaw r) (o : qOk g 8 zX12_law k) (K110 : Int32 → qM → qR) (hK110 : ∀ (a3 : Int32) (M : qM), qAE g k zX12_law (qL j r) 110 [some (.inr (some 77)), none, none, some (.inl a3)] [] (qL j r, M) (K110 a3 M)) (a3 : Int32) (M : qM) : qAE g k zX12_law (qL j r) 110 [some (.inr (some 77)), none, none, some (.inl a3)] [] (qL j r, M) (b_X12_law_110 n K110 a3 M) := by
  unfold b_X12_law_110
  refine qr_iload_n o (q_dm dm_X12_law 59 rfl) rfl ?_
  refine qr_aload_n o (q_dm dm_X12_law 60 rfl) rfl ?_
  refine qr_getf (kf := 14) o cf_X12 (sh77 j r) rfl (Nat.le_of_ble_eq_true rfl) fl_X12_192 (q_dm dm_X12_law 61 rfl) ?_
  refine qr_icmp_ge (tgt := 136) o (q_dm dm_X12_law 62 rfl) (by decide) ?_ ?_
  · refine qr_iconst o (q_dm dm_X12_law 73 rfl) ic_0 ?_
    refine qs_istore_n (L' := [some (.inr (some 77)), none, none, some (.inl (0 : Int32))]) o (q_dm dm_X12_law 74 rfl) (Nat.le_of_ble_eq_true rfl) rfl ?_
    exact qr_loc (q_leS (q_leN (q_leN (q_leS q_le0)))) (w_X12_law_138 n j r hj hr o n (0 : Int32) M)
  · refine qr_aload_n o (q_dm dm_X12_law 63 rfl) rfl ?_
    refine qr_getr (kf := 24) o cf_X12 (sh77 j r) rfl (Nat.le_of_ble_eq_true rfl) fl_X12_50 (q_dm dm_X12_law 64 rfl) ?_
    refine qr_iload_n o (q_dm dm_X12_law 65 rfl) rfl ?_
    refine qr_aload_n o (q_dm dm_X12_law 66 rfl) rfl ?_
    refine qr_getr (kf := 18) o cf_X12 (sh77 j r) rfl (Nat.le_of_ble_eq_true rfl) fl_X12_32 (q_dm dm_X12_law 67 rfl) ?_
    refine qr_iload_n o (q_dm dm_X12_law 68 rfl) rfl ?_
    refine qr_iald o (sh85 j r) (q_dm dm_X12_law 69 rfl) ?_
    refine qr_iast o (sh91 j r) (q_dm dm_X12_law 70 rfl) ?_
    refine qr_letm (fun m1 => ?_)
    refine qs_iincl2 (L' := fun x2 => [some (.inr (some 77)), none, none, some (.inl x2)]) o (q_dm dm_X12_law 71 rfl) rfl ic_1 (Nat.le_of_ble_eq_true rfl) (fun _ => rfl) (fun x2 => ?_)
    refine qr_goto (tgt := 110) o (q_dm dm_X12_law 72 rfl) (by decide) ?_
    exact qr_loc (q_leS (q_leN (q_leN (q_leS q_le0)))) (hK110 x2 m1)

def f_X12_law_110 (n : Nat) : Nat → Int32 → qM → qR
  | 0, _, _ => none
  | m + 1, a3, M => b_X12_law_110 n (f_X12_law_110 n m) a3 M
theorem w_X12_law_110 {g : qG} {k : qK} (n : Nat) (j r : Nat) (hj : q_isLaw j) (hr : q_isLaw r) (o : qOk g 8 zX12_law k) : ∀ (m : Nat) (a3 : Int32) (M : qM), qAE g k zX12_law (qL j r) 110 [some (.inr (some 77)), none, none, some (.inl a3)] [] (qL j r, M) (f_X12_law_110 n m a3 M) := by
  intro m
  induction m with
  | zero =>
    intro a3 M
    exact qr_none
  | succ m ih =>
    intro a3 M
    exact wb_X12_law_110 n j r hj hr o (f_X12_law_110 n m) ih a3 M
def f_X12_law_86 (n : Nat) (a2 : Int32) (M : qM) : qR :=
  qlm (mu M 77 8 (0 : Int32)) (fun m1 => (if a2 = (0 : Int32) then some ((m1 77 11), m1) else qlm (mu m1 77 17 (m1 77 16)) (fun m2 => f_X12_law_110 n n (0 : Int32) m2)))
set_option maxRecDepth 4000 in
theorem w_X12_law_86 {g : qG} {k : qK} (n : Nat) (j r : Nat) (hj : q_isLaw j) (hr : q_isLaw r) (o : qOk g 8 zX12_law k) (a2 : Int32) (M : qM) : qAE g k zX12_law (qL j r) 86 [some (.inr (some 77)), none, some (.inl a2), none] [] (qL j r, M) (f_X12_law_86 n a2 M) := by
  unfold f_X12_law_86
  refine qr_aload_n o (q_dm dm_X12_law 45 rfl) rfl ?_
  refine qr_iconst o (q_dm dm_X12_law 46 rfl) ic_0 ?_
  refine qr_putf (kf := 8) o cf_X12 (sh77 j r) rfl (Nat.le_of_ble_eq_true rfl) fl_X12_162 rfl (by decide +kernel) (q_dm dm_X12_law 47 rfl) ?_
  refine qr_letm (fun m1 => ?_)
  refine qr_iload_n o (q_dm dm_X12_law 48 rfl) rfl ?_
  refine qr_if_ne (tgt := 100) o (q_dm dm_X12_law 49 rfl) (by decide) ?_ ?_
  · refine qr_aload_n o (q_dm dm_X12_law 53 rfl) rfl ?_
    refine qr_aload_n o (q_dm dm_X12_law 54 rfl) rfl ?_
    refine qr_getf (kf := 16) o cf_X12 (sh77 j r) rfl (Nat.le_of_ble_eq_true rfl) fl_X12_250 (q_dm dm_X12_law 55 rfl) ?_
    refine qr_putf (kf := 17) o cf_X12 (sh77 j r) rfl (Nat.le_of_ble_eq_true rfl) fl_X12_262 rfl (by decide +kernel) (q_dm dm_X12_law 56 rfl) ?_
    refine qr_letm (fun m2 => ?_)
    refine qr_iconst o (q_dm dm_X12_law 57 rfl) ic_0 ?_
    refine qs_istore_n (L' := [some (.inr (some 77)), none, some (.inl a2), some (.inl (0 : Int32))]) o (q_dm dm_X12_law 58 rfl) (Nat.le_of_ble_eq_true rfl) rfl ?_
    exact qr_loc (q_leS (q_leN (q_leN (q_leS q_le0)))) (w_X12_law_110 n j r hj hr o n (0 : Int32) m2)
  · refine qr_aload_n o (q_dm dm_X12_law 50 rfl) rfl ?_
    refine qr_getf (kf := 11) o cf_X12 (sh77 j r) rfl (Nat.le_of_ble_eq_true rfl) fl_X12_179 (q_dm dm_X12_law 51 rfl) ?_
    exact qr_iret o rfl rfl (q_dm dm_X12_law 52 rfl)

def b_X12_law_46 (n : Nat) (K46 : Int32 → qM → qR) (a2 : Int32) (M : qM) : qR :=
  (if a2 = (0 : Int32) then f_X12_law_86 n a2 M else (if (M 77 10) ≤ (M 77 9) then f_X12_law_86 n a2 M else qc (f_X12_takes n (59 : Int32) M) (fun r1 m2 => (if r1 = (0 : Int32) then K46 (0 : Int32) m2 else qc (f_X12_readsClause n  m2) (fun r3 m4 => (if r3 = (0 : Int32) then K46 (0 : Int32) m4 else K46 (1 : Int32) m4))))))
set_option maxRecDepth 4000 in
theorem wb_X12_law_46 {g : qG} {k : qK} (n : Nat) (j r : Nat) (hj : q_isLaw j) (hr : q_isLaw r) (o : qOk g 8 zX12_law k) (K46 : Int32 → qM → qR) (hK46 : ∀ (a2 : Int32) (M : qM), qAE g k zX12_law (qL j r) 46 [some (.inr (some 77)), none, some (.inl a2), none] [] (qL j r, M) (K46 a2 M)) (a2 : Int32) (M : qM) : qAE g k zX12_law (qL j r) 46 [some (.inr (some 77)), none, some (.inl a2), none] [] (qL j r, M) (b_X12_law_46 n K46 a2 M) := by
  unfold b_X12_law_46
  refine qr_iload_n o (q_dm dm_X12_law 26 rfl) rfl ?_
  refine qr_if_eq (tgt := 86) o (q_dm dm_X12_law 27 rfl) (by decide) ?_ ?_
  · exact qr_loc (q_leS (q_leN (q_leS (q_leN q_le0)))) (w_X12_law_86 n j r hj hr o a2 M)
  · refine qr_aload_n o (q_dm dm_X12_law 28 rfl) rfl ?_
    refine qr_getf (kf := 9) o cf_X12 (sh77 j r) rfl (Nat.le_of_ble_eq_true rfl) fl_X12_169 (q_dm dm_X12_law 29 rfl) ?_
    refine qr_aload_n o (q_dm dm_X12_law 30 rfl) rfl ?_
    refine qr_getf (kf := 10) o cf_X12 (sh77 j r) rfl (Nat.le_of_ble_eq_true rfl) fl_X12_172 (q_dm dm_X12_law 31 rfl) ?_
    refine qr_icmp_ge (tgt := 86) o (q_dm dm_X12_law 32 rfl) (by decide) ?_ ?_
    · exact qr_loc (q_leS (q_leN (q_leS (q_leN q_le0)))) (w_X12_law_86 n j r hj hr o a2 M)
    · refine qr_aload_n o (q_dm dm_X12_law 33 rfl) rfl ?_
      refine qr_bipush o (q_dm dm_X12_law 34 rfl) bi_59 ?_
      refine qr_callv_i (As := [.inl (59 : Int32)]) (S := []) o (a_X12_takes g k.2.1 n j r hj hr (59 : Int32) M) (Nat.le_of_ble_eq_true rfl) zv_X12_takes rfl cf_X12 (sh77 j r) ml_X12_259 (Nat.le_of_ble_eq_true rfl) (q_dm dm_X12_law 35 rfl) (fun r1 m2 => ?_)
      refine qr_if_eq (tgt := 81) o (q_dm dm_X12_law 36 rfl) (by decide) ?_ ?_
      · refine qr_iconst o (q_dm dm_X12_law 42 rfl) ic_0 ?_
        refine qs_istore_n (L' := [some (.inr (some 77)), none, some (.inl (0 : Int32)), none]) o (q_dm dm_X12_law 43 rfl) (Nat.le_of_ble_eq_true rfl) rfl ?_
        refine qr_goto (tgt := 46) o (q_dm dm_X12_law 44 rfl) (by decide) ?_
        exact qr_loc (q_leS (q_leN (q_leS (q_leN q_le0)))) (hK46 (0 : Int32) m2)
      · refine qr_aload_n o (q_dm dm_X12_law 37 rfl) rfl ?_
        refine qr_callv_i (As := []) (S := []) o (a_X12_readsClause g k.2.1 n j r hj hr  m2) (Nat.le_of_ble_eq_true rfl) zv_X12_readsClause rfl cf_X12 (sh77 j r) ml_X12_256 (Nat.le_of_ble_eq_true rfl) (q_dm dm_X12_law 38 rfl) (fun r3 m4 => ?_)
        refine qr_if_eq (tgt := 81) o (q_dm dm_X12_law 39 rfl) (by decide) ?_ ?_
        · refine qr_iconst o (q_dm dm_X12_law 42 rfl) ic_0 ?_
          refine qs_istore_n (L' := [some (.inr (some 77)), none, some (.inl (0 : Int32)), none]) o (q_dm dm_X12_law 43 rfl) (Nat.le_of_ble_eq_true rfl) rfl ?_
          refine qr_goto (tgt := 46) o (q_dm dm_X12_law 44 rfl) (by decide) ?_
          exact qr_loc (q_leS (q_leN (q_leS (q_leN q_le0)))) (hK46 (0 : Int32) m4)
        · refine qr_iconst o (q_dm dm_X12_law 40 rfl) ic_1 ?_
          refine qr_goto (tgt := 82) o (q_dm dm_X12_law 41 rfl) (by decide) ?_
          refine qs_istore_n (L' := [some (.inr (some 77)), none, some (.inl (1 : Int32)), none]) o (q_dm dm_X12_law 43 rfl) (Nat.le_of_ble_eq_true rfl) rfl ?_
          refine qr_goto (tgt := 46) o (q_dm dm_X12_law 44 rfl) (by decide) ?_
          exact qr_loc (q_leS (q_leN (q_leS (q_leN q_le0)))) (hK46 (1 : Int32) m4)

def f_X12_law_46 (n : Nat) : Nat → Int32 → qM → qR
  | 0, _, _ => none
  | m + 1, a2, M => b_X12_law_46 n (f_X12_law_46 n m) a2 M
theorem w_X12_law_46 {g : qG} {k : qK} (n : Nat) (j r : Nat) (hj : q_isLaw j) (hr : q_isLaw r) (o : qOk g 8 zX12_law k) : ∀ (m : Nat) (a2 : Int32) (M : qM), qAE g k zX12_law (qL j r) 46 [some (.inr (some 77)), none, some (.inl a2), none] [] (qL j r, M) (f_X12_law_46 n m a2 M) := by
  intro m
  induction m with
  | zero =>
    intro a2 M
    exact qr_none
  | succ m ih =>
    intro a2 M
    exact wb_X12_law_46 n j r hj hr o (f_X12_law_46 n m) ih a2 M
def f_X12_law (n : Nat) (a1 : Int32) (M : qM) : qR :=
  qc (f_X12_in n a1 (1 : Int32) (240 : Int32) M) (fun r1 m2 => (if r1 = (0 : Int32) then some ((-1 : Int32), m2) else (if a1 ≤ (m2 77 8) then qlm (mu m2 77 9 (0 : Int32)) (fun m3 => qlm (mu m3 77 10 a1) (fun m4 => qlm (mu m4 77 14 (0 : Int32)) (fun m5 => qlm (mu m5 77 16 (0 : Int32)) (fun m6 => qc (f_X12_readsClause n  m6) (fun r7 m8 => f_X12_law_46 n n r7 m8))))) else some ((-1 : Int32), m2))))
set_option maxRecDepth 4000 in
theorem w_X12_law {g : qG} {k : qK} (n : Nat) (j r : Nat) (hj : q_isLaw j) (hr : q_isLaw r) (o : qOk g 8 zX12_law k) (a1 : Int32) (M : qM) : qAE g k zX12_law (qL j r) 0 [some (.inr (some 77)), some (.inl a1), none, none] [] (qL j r, M) (f_X12_law n a1 M) := by
  unfold f_X12_law
  refine qr_iload_n o (q_dm dm_X12_law 0 rfl) rfl ?_
  refine qr_iconst o (q_dm dm_X12_law 1 rfl) ic_1 ?_
  refine qr_sipush o (q_dm dm_X12_law 2 rfl) si_240 ?_
  refine qr_calls_i (As := [.inl a1, .inl (1 : Int32), .inl (240 : Int32)]) (S := []) o (a_X12_in g k.2.1 n j r hj hr a1 (1 : Int32) (240 : Int32) M) (Nat.le_of_ble_eq_true rfl) zs_X12_in rfl ml_X12_153 (Nat.le_of_ble_eq_true rfl) (q_dm dm_X12_law 3 rfl) (fun r1 m2 => ?_)
  refine qr_if_eq (tgt := 19) o (q_dm dm_X12_law 4 rfl) (by decide) ?_ ?_
  · refine qr_iconst o (q_dm dm_X12_law 9 rfl) ic_m1 ?_
    exact qr_iret o rfl rfl (q_dm dm_X12_law 10 rfl)
  · refine qr_iload_n o (q_dm dm_X12_law 5 rfl) rfl ?_
    refine qr_aload_n o (q_dm dm_X12_law 6 rfl) rfl ?_
    refine qr_getf (kf := 8) o cf_X12 (sh77 j r) rfl (Nat.le_of_ble_eq_true rfl) fl_X12_162 (q_dm dm_X12_law 7 rfl) ?_
    refine qr_icmp_le (tgt := 21) o (q_dm dm_X12_law 8 rfl) (by decide) ?_ ?_
    · refine qr_aload_n o (q_dm dm_X12_law 11 rfl) rfl ?_
      refine qr_iconst o (q_dm dm_X12_law 12 rfl) ic_0 ?_
      refine qr_putf (kf := 9) o cf_X12 (sh77 j r) rfl (Nat.le_of_ble_eq_true rfl) fl_X12_169 rfl (by decide +kernel) (q_dm dm_X12_law 13 rfl) ?_
      refine qr_letm (fun m3 => ?_)
      refine qr_aload_n o (q_dm dm_X12_law 14 rfl) rfl ?_
      refine qr_iload_n o (q_dm dm_X12_law 15 rfl) rfl ?_
      refine qr_putf (kf := 10) o cf_X12 (sh77 j r) rfl (Nat.le_of_ble_eq_true rfl) fl_X12_172 rfl (by decide +kernel) (q_dm dm_X12_law 16 rfl) ?_
      refine qr_letm (fun m4 => ?_)
      refine qr_aload_n o (q_dm dm_X12_law 17 rfl) rfl ?_
      refine qr_iconst o (q_dm dm_X12_law 18 rfl) ic_0 ?_
      refine qr_putf (kf := 14) o cf_X12 (sh77 j r) rfl (Nat.le_of_ble_eq_true rfl) fl_X12_192 rfl (by decide +kernel) (q_dm dm_X12_law 19 rfl) ?_
      refine qr_letm (fun m5 => ?_)
      refine qr_aload_n o (q_dm dm_X12_law 20 rfl) rfl ?_
      refine qr_iconst o (q_dm dm_X12_law 21 rfl) ic_0 ?_
      refine qr_putf (kf := 16) o cf_X12 (sh77 j r) rfl (Nat.le_of_ble_eq_true rfl) fl_X12_250 rfl (by decide +kernel) (q_dm dm_X12_law 22 rfl) ?_
      refine qr_letm (fun m6 => ?_)
      refine qr_aload_n o (q_dm dm_X12_law 23 rfl) rfl ?_
      refine qr_callv_i (As := []) (S := []) o (a_X12_readsClause g k.2.1 n j r hj hr  m6) (Nat.le_of_ble_eq_true rfl) zv_X12_readsClause rfl cf_X12 (sh77 j r) ml_X12_256 (Nat.le_of_ble_eq_true rfl) (q_dm dm_X12_law 24 rfl) (fun r7 m8 => ?_)
      refine qs_istore_n (L' := [some (.inr (some 77)), some (.inl a1), some (.inl r7), none]) o (q_dm dm_X12_law 25 rfl) (Nat.le_of_ble_eq_true rfl) rfl ?_
      exact qr_loc (q_leS (q_leN (q_leS (q_leN q_le0)))) (w_X12_law_46 n j r hj hr o n r7 m8)
    · refine qr_iconst o (q_dm dm_X12_law 9 rfl) ic_m1 ?_
      exact qr_iret o rfl rfl (q_dm dm_X12_law 10 rfl)

theorem a_X12_law (g : qG) (l : Launch) (n : Nat) (j r : Nat) (hj : q_isLaw j) (hr : q_isLaw r) (a1 : Int32) (M : qM) : qAM g l 8 zX12_law (qL j r) [.inr (some 77), .inl a1] (qL j r, M) (f_X12_law n a1 M) :=
  qAM.of zv_X12_law.1 (by show 2 ≤ 4; decide) (fun k hk o => w_X12_law n j r hj hr o a1 M)
def tb_X12_laysWays : List (Nat × Instr × Nat) := [(0, (.iconst 0, 1)), (1, (.istore_n 1, 1)), (2, (.iconst 0, 1)), (3, (.istore_n 2, 1)), (4, (.iload_n 2, 1)), (5, (.iconst 4, 1)), (6, (.if_icmp .ge 65, 3)), (9, (.iconst 0, 1)), (10, (.istore_n 3, 1)), (11, (.iload_n 3, 1)), (12, (.iload_n 2, 1)), (13, (.if_icmp .gt 52, 3)), (16, (.iconst 0, 1)), (17, (.istore 4, 2)), (19, (.iload 4, 2)), (21, (.iload_n 3, 1)), (22, (.if_icmp .gt 37, 3)), (25, (.aload_n 0, 1)), (26, (.getfield 83, 3)), (29, (.iload_n 1, 1)), (30, (.iload_n 3, 1)), (31, (.iastore, 1)), (32, (.aload_n 0, 1)), (33, (.getfield 86, 3)), (36, (.iload_n 1, 1)), (37, (.iload_n 2, 1)), (38, (.iload_n 3, 1)), (39, (.isub, 1)), (40, (.iastore, 1)), (41, (.aload_n 0, 1)), (42, (.getfield 89, 3)), (45, (.iload_n 1, 1)), (46, (.iload 4, 2)), (48, (.iastore, 1)), (49, (.iload_n 1, 1)), (50, (.iconst 1, 1)), (51, (.iadd, 1)), (52, (.istore_n 1, 1)), (53, (.iinc 4 1, 3)), (56, (.goto (-37), 3)), (59, (.iinc 3 1, 3)), (62, (.goto (-51), 3)), (65, (.iinc 2 1, 3)), (68, (.goto (-64), 3)), (71, (.return_, 1))]
theorem dm_X12_laysWays : ∀ q ∈ tb_X12_laysWays, decode zX12_laysWays.2.1 q.1 = .ok q.2 := by decide +kernel
def b_X12_laysWays_19 (n : Nat) (K4 : Int32 → Int32 → qM → qR) (K11 : Int32 → Int32 → Int32 → qM → qR) (K19 : Int32 → Int32 → Int32 → Int32 → qM → qR) (a1 a2 a3 a4 : Int32) (M : qM) : qR :=
  (if a3 < a4 then ql (a3 + (1 : Int32)) (fun x1 => K11 a1 a2 x1 M) else qg a1 20 (qlm (mu M 102 a1.toNatClampNeg a3) (fun m2 => qg a1 20 (qlm (mu m2 103 a1.toNatClampNeg (a2 - a3)) (fun m3 => qg a1 20 (qlm (mu m3 104 a1.toNatClampNeg a4) (fun m4 => ql (a1 + (1 : Int32)) (fun x5 => ql (a4 + (1 : Int32)) (fun x6 => K19 x5 a2 a3 x6 m4)))))))))
set_option maxRecDepth 4000 in
theorem wb_X12_laysWays_19 {g : qG} {k : qK} (n : Nat) (j r : Nat) (hj : q_isLaw j) (hr : q_isLaw r) (o : qOk g 0 zX12_laysWays k) (K4 : Int32 → Int32 → qM → qR) (hK4 : ∀ (a1 a2 : Int32) (M : qM), qAE g k zX12_laysWays (qL j r) 4 [some (.inr (some 77)), some (.inl a1), some (.inl a2), none, none] [] (qL j r, M) (K4 a1 a2 M)) (K11 : Int32 → Int32 → Int32 → qM → qR) (hK11 : ∀ (a1 a2 a3 : Int32) (M : qM), qAE g k zX12_laysWays (qL j r) 11 [some (.inr (some 77)), some (.inl a1), some (.inl a2), some (.inl a3), none] [] (qL j r, M) (K11 a1 a2 a3 M)) (K19 : Int32 → Int32 → Int32 → Int32 → qM → qR) (hK19 : ∀ (a1 a2 a3 a4 : Int32) (M : qM), qAE g k zX12_laysWays (qL j r) 19 [some (.inr (some 77)), some (.inl a1), some (.inl a2), some (.inl a3), some (.inl a4)] [] (qL j r, M) (K19 a1 a2 a3 a4 M)) (a1 a2 a3 a4 : Int32) (M : qM) : qAE g k zX12_laysWays (qL j r) 19 [some (.inr (some 77)), some (.inl a1), some (.inl a2), some (.inl a3), some (.inl a4)] [] (qL j r, M) (b_X12_laysWays_19 n K4 K11 K19 a1 a2 a3 a4 M) := by
  unfold b_X12_laysWays_19
  refine qr_iload o (q_dm dm_X12_laysWays 14 rfl) rfl ?_
  refine qr_iload_n o (q_dm dm_X12_laysWays 15 rfl) rfl ?_
  refine qr_icmp_gt (tgt := 59) o (q_dm dm_X12_laysWays 16 rfl) (by decide) ?_ ?_
  · refine qs_iincl2 (L' := fun x1 => [some (.inr (some 77)), some (.inl a1), some (.inl a2), some (.inl x1), some (.inl a4)]) o (q_dm dm_X12_laysWays 40 rfl) rfl ic_1 (Nat.le_of_ble_eq_true rfl) (fun _ => rfl) (fun x1 => ?_)
    refine qr_goto (tgt := 11) o (q_dm dm_X12_laysWays 41 rfl) (by decide) ?_
    exact qr_loc (q_leS (q_leS (q_leS (q_leS (q_leN q_le0))))) (hK11 a1 a2 x1 M)
  · refine qr_aload_n o (q_dm dm_X12_laysWays 17 rfl) rfl ?_
    refine qr_getr (kf := 45) o cf_X12 (sh77 j r) rfl (Nat.le_of_ble_eq_true rfl) fl_X12_83 (q_dm dm_X12_laysWays 18 rfl) ?_
    refine qr_iload_n o (q_dm dm_X12_laysWays 19 rfl) rfl ?_
    refine qr_iload_n o (q_dm dm_X12_laysWays 20 rfl) rfl ?_
    refine qr_iast o (sh102 j r) (q_dm dm_X12_laysWays 21 rfl) ?_
    refine qr_letm (fun m2 => ?_)
    refine qr_aload_n o (q_dm dm_X12_laysWays 22 rfl) rfl ?_
    refine qr_getr (kf := 46) o cf_X12 (sh77 j r) rfl (Nat.le_of_ble_eq_true rfl) fl_X12_86 (q_dm dm_X12_laysWays 23 rfl) ?_
    refine qr_iload_n o (q_dm dm_X12_laysWays 24 rfl) rfl ?_
    refine qr_iload_n o (q_dm dm_X12_laysWays 25 rfl) rfl ?_
    refine qr_iload_n o (q_dm dm_X12_laysWays 26 rfl) rfl ?_
    refine qr_isub o (q_dm dm_X12_laysWays 27 rfl) ?_
    refine qr_iast o (sh103 j r) (q_dm dm_X12_laysWays 28 rfl) ?_
    refine qr_letm (fun m3 => ?_)
    refine qr_aload_n o (q_dm dm_X12_laysWays 29 rfl) rfl ?_
    refine qr_getr (kf := 47) o cf_X12 (sh77 j r) rfl (Nat.le_of_ble_eq_true rfl) fl_X12_89 (q_dm dm_X12_laysWays 30 rfl) ?_
    refine qr_iload_n o (q_dm dm_X12_laysWays 31 rfl) rfl ?_
    refine qr_iload o (q_dm dm_X12_laysWays 32 rfl) rfl ?_
    refine qr_iast o (sh104 j r) (q_dm dm_X12_laysWays 33 rfl) ?_
    refine qr_letm (fun m4 => ?_)
    refine qr_iload_n o (q_dm dm_X12_laysWays 34 rfl) rfl ?_
    refine qr_iconst o (q_dm dm_X12_laysWays 35 rfl) ic_1 ?_
    refine qr_iadd o (q_dm dm_X12_laysWays 36 rfl) ?_
    refine qr_lt (fun x5 => ?_)
    refine qs_istore_n (L' := [some (.inr (some 77)), some (.inl x5), some (.inl a2), some (.inl a3), some (.inl a4)]) o (q_dm dm_X12_laysWays 37 rfl) (Nat.le_of_ble_eq_true rfl) rfl ?_
    refine qs_iincl2 (L' := fun x6 => [some (.inr (some 77)), some (.inl x5), some (.inl a2), some (.inl a3), some (.inl x6)]) o (q_dm dm_X12_laysWays 38 rfl) rfl ic_1 (Nat.le_of_ble_eq_true rfl) (fun _ => rfl) (fun x6 => ?_)
    refine qr_goto (tgt := 19) o (q_dm dm_X12_laysWays 39 rfl) (by decide) ?_
    exact qr_loc (q_leS (q_leS (q_leS (q_leS (q_leS q_le0))))) (hK19 x5 a2 a3 x6 m4)

def f_X12_laysWays_19 (n : Nat) (K4 : Int32 → Int32 → qM → qR) (K11 : Int32 → Int32 → Int32 → qM → qR) : Nat → Int32 → Int32 → Int32 → Int32 → qM → qR
  | 0, _, _, _, _, _ => none
  | m + 1, a1, a2, a3, a4, M => b_X12_laysWays_19 n K4 K11 (f_X12_laysWays_19 n K4 K11 m) a1 a2 a3 a4 M
theorem w_X12_laysWays_19 {g : qG} {k : qK} (n : Nat) (j r : Nat) (hj : q_isLaw j) (hr : q_isLaw r) (o : qOk g 0 zX12_laysWays k) (K4 : Int32 → Int32 → qM → qR) (hK4 : ∀ (a1 a2 : Int32) (M : qM), qAE g k zX12_laysWays (qL j r) 4 [some (.inr (some 77)), some (.inl a1), some (.inl a2), none, none] [] (qL j r, M) (K4 a1 a2 M)) (K11 : Int32 → Int32 → Int32 → qM → qR) (hK11 : ∀ (a1 a2 a3 : Int32) (M : qM), qAE g k zX12_laysWays (qL j r) 11 [some (.inr (some 77)), some (.inl a1), some (.inl a2), some (.inl a3), none] [] (qL j r, M) (K11 a1 a2 a3 M)) : ∀ (m : Nat) (a1 a2 a3 a4 : Int32) (M : qM), qAE g k zX12_laysWays (qL j r) 19 [some (.inr (some 77)), some (.inl a1), some (.inl a2), some (.inl a3), some (.inl a4)] [] (qL j r, M) (f_X12_laysWays_19 n K4 K11 m a1 a2 a3 a4 M) := by
  intro m
  induction m with
  | zero =>
    intro a1 a2 a3 a4 M
    exact qr_none
  | succ m ih =>
    intro a1 a2 a3 a4 M
    exact wb_X12_laysWays_19 n j r hj hr o K4 hK4 K11 hK11 (f_X12_laysWays_19 n K4 K11 m) ih a1 a2 a3 a4 M
def b_X12_laysWays_11 (n : Nat) (K4 : Int32 → Int32 → qM → qR) (K11 : Int32 → Int32 → Int32 → qM → qR) (a1 a2 a3 : Int32) (M : qM) : qR :=
  (if a2 < a3 then ql (a2 + (1 : Int32)) (fun x1 => K4 a1 x1 M) else f_X12_laysWays_19 n K4 K11 n a1 a2 a3 (0 : Int32) M)
set_option maxRecDepth 4000 in
theorem wb_X12_laysWays_11 {g : qG} {k : qK} (n : Nat) (j r : Nat) (hj : q_isLaw j) (hr : q_isLaw r) (o : qOk g 0 zX12_laysWays k) (K4 : Int32 → Int32 → qM → qR) (hK4 : ∀ (a1 a2 : Int32) (M : qM), qAE g k zX12_laysWays (qL j r) 4 [some (.inr (some 77)), some (.inl a1), some (.inl a2), none, none] [] (qL j r, M) (K4 a1 a2 M)) (K11 : Int32 → Int32 → Int32 → qM → qR) (hK11 : ∀ (a1 a2 a3 : Int32) (M : qM), qAE g k zX12_laysWays (qL j r) 11 [some (.inr (some 77)), some (.inl a1), some (.inl a2), some (.inl a3), none] [] (qL j r, M) (K11 a1 a2 a3 M)) (a1 a2 a3 : Int32) (M : qM) : qAE g k zX12_laysWays (qL j r) 11 [some (.inr (some 77)), some (.inl a1), some (.inl a2), some (.inl a3), none] [] (qL j r, M) (b_X12_laysWays_11 n K4 K11 a1 a2 a3 M) := by
  unfold b_X12_laysWays_11
  refine qr_iload_n o (q_dm dm_X12_laysWays 9 rfl) rfl ?_
  refine qr_iload_n o (q_dm dm_X12_laysWays 10 rfl) rfl ?_
  refine qr_icmp_gt (tgt := 65) o (q_dm dm_X12_laysWays 11 rfl) (by decide) ?_ ?_
  · refine qs_iincl2 (L' := fun x1 => [some (.inr (some 77)), some (.inl a1), some (.inl x1), some (.inl a3), none]) o (q_dm dm_X12_laysWays 42 rfl) rfl ic_1 (Nat.le_of_ble_eq_true rfl) (fun _ => rfl) (fun x1 => ?_)
    refine qr_goto (tgt := 4) o (q_dm dm_X12_laysWays 43 rfl) (by decide) ?_
    exact qr_loc (q_leS (q_leS (q_leS (q_leN (q_leN q_le0))))) (hK4 a1 x1 M)
  · refine qr_iconst o (q_dm dm_X12_laysWays 12 rfl) ic_0 ?_
    refine qs_istore (L' := [some (.inr (some 77)), some (.inl a1), some (.inl a2), some (.inl a3), some (.inl (0 : Int32))]) o (q_dm dm_X12_laysWays 13 rfl) (Nat.le_of_ble_eq_true rfl) rfl ?_
    exact qr_loc (q_leS (q_leS (q_leS (q_leS (q_leS q_le0))))) (w_X12_laysWays_19 n j r hj hr o K4 hK4 K11 hK11 n a1 a2 a3 (0 : Int32) M)

def f_X12_laysWays_11 (n : Nat) (K4 : Int32 → Int32 → qM → qR) : Nat → Int32 → Int32 → Int32 → qM → qR
  | 0, _, _, _, _ => none
  | m + 1, a1, a2, a3, M => b_X12_laysWays_11 n K4 (f_X12_laysWays_11 n K4 m) a1 a2 a3 M
theorem w_X12_laysWays_11 {g : qG} {k : qK} (n : Nat) (j r : Nat) (hj : q_isLaw j) (hr : q_isLaw r) (o : qOk g 0 zX12_laysWays k) (K4 : Int32 → Int32 → qM → qR) (hK4 : ∀ (a1 a2 : Int32) (M : qM), qAE g k zX12_laysWays (qL j r) 4 [some (.inr (some 77)), some (.inl a1), some (.inl a2), none, none] [] (qL j r, M) (K4 a1 a2 M)) : ∀ (m : Nat) (a1 a2 a3 : Int32) (M : qM), qAE g k zX12_laysWays (qL j r) 11 [some (.inr (some 77)), some (.inl a1), some (.inl a2), some (.inl a3), none] [] (qL j r, M) (f_X12_laysWays_11 n K4 m a1 a2 a3 M) := by
  intro m
  induction m with
  | zero =>
    intro a1 a2 a3 M
    exact qr_none
  | succ m ih =>
    intro a1 a2 a3 M
    exact wb_X12_laysWays_11 n j r hj hr o K4 hK4 (f_X12_laysWays_11 n K4 m) ih a1 a2 a3 M
def b_X12_laysWays_4 (n : Nat) (K4 : Int32 → Int32 → qM → qR) (a1 a2 : Int32) (M : qM) : qR :=
  (if (4 : Int32) ≤ a2 then some (0, M) else f_X12_laysWays_11 n K4 n a1 a2 (0 : Int32) M)
set_option maxRecDepth 4000 in
theorem wb_X12_laysWays_4 {g : qG} {k : qK} (n : Nat) (j r : Nat) (hj : q_isLaw j) (hr : q_isLaw r) (o : qOk g 0 zX12_laysWays k) (K4 : Int32 → Int32 → qM → qR) (hK4 : ∀ (a1 a2 : Int32) (M : qM), qAE g k zX12_laysWays (qL j r) 4 [some (.inr (some 77)), some (.inl a1), some (.inl a2), none, none] [] (qL j r, M) (K4 a1 a2 M)) (a1 a2 : Int32) (M : qM) : qAE g k zX12_laysWays (qL j r) 4 [some (.inr (some 77)), some (.inl a1), some (.inl a2), none, none] [] (qL j r, M) (b_X12_laysWays_4 n K4 a1 a2 M) := by
  unfold b_X12_laysWays_4
  refine qr_iload_n o (q_dm dm_X12_laysWays 4 rfl) rfl ?_
  refine qr_iconst o (q_dm dm_X12_laysWays 5 rfl) ic_4 ?_
  refine qr_icmp_ge (tgt := 71) o (q_dm dm_X12_laysWays 6 rfl) (by decide) ?_ ?_
  · exact qr_vret o rfl (q_dm dm_X12_laysWays 44 rfl)
  · refine qr_iconst o (q_dm dm_X12_laysWays 7 rfl) ic_0 ?_
    refine qs_istore_n (L' := [some (.inr (some 77)), some (.inl a1), some (.inl a2), some (.inl (0 : Int32)), none]) o (q_dm dm_X12_laysWays 8 rfl) (Nat.le_of_ble_eq_true rfl) rfl ?_
    exact qr_loc (q_leS (q_leS (q_leS (q_leS (q_leN q_le0))))) (w_X12_laysWays_11 n j r hj hr o K4 hK4 n a1 a2 (0 : Int32) M)

def f_X12_laysWays_4 (n : Nat) : Nat → Int32 → Int32 → qM → qR
  | 0, _, _, _ => none
  | m + 1, a1, a2, M => b_X12_laysWays_4 n (f_X12_laysWays_4 n m) a1 a2 M
theorem w_X12_laysWays_4 {g : qG} {k : qK} (n : Nat) (j r : Nat) (hj : q_isLaw j) (hr : q_isLaw r) (o : qOk g 0 zX12_laysWays k) : ∀ (m : Nat) (a1 a2 : Int32) (M : qM), qAE g k zX12_laysWays (qL j r) 4 [some (.inr (some 77)), some (.inl a1), some (.inl a2), none, none] [] (qL j r, M) (f_X12_laysWays_4 n m a1 a2 M) := by
  intro m
  induction m with
  | zero =>
    intro a1 a2 M
    exact qr_none
  | succ m ih =>
    intro a1 a2 M
    exact wb_X12_laysWays_4 n j r hj hr o (f_X12_laysWays_4 n m) ih a1 a2 M
def f_X12_laysWays (n : Nat) (M : qM) : qR :=
  f_X12_laysWays_4 n n (0 : Int32) (0 : Int32) M
set_option maxRecDepth 4000 in
theorem w_X12_laysWays {g : qG} {k : qK} (n : Nat) (j r : Nat) (hj : q_isLaw j) (hr : q_isLaw r) (o : qOk g 0 zX12_laysWays k) (M : qM) : qAE g k zX12_laysWays (qL j r) 0 [some (.inr (some 77)), none, none, none, none] [] (qL j r, M) (f_X12_laysWays n  M) := by
  unfold f_X12_laysWays
  refine qr_iconst o (q_dm dm_X12_laysWays 0 rfl) ic_0 ?_
  refine qs_istore_n (L' := [some (.inr (some 77)), some (.inl (0 : Int32)), none, none, none]) o (q_dm dm_X12_laysWays 1 rfl) (Nat.le_of_ble_eq_true rfl) rfl ?_
  refine qr_iconst o (q_dm dm_X12_laysWays 2 rfl) ic_0 ?_
  refine qs_istore_n (L' := [some (.inr (some 77)), some (.inl (0 : Int32)), some (.inl (0 : Int32)), none, none]) o (q_dm dm_X12_laysWays 3 rfl) (Nat.le_of_ble_eq_true rfl) rfl ?_
  exact qr_loc (q_leS (q_leS (q_leS (q_leN (q_leN q_le0))))) (w_X12_laysWays_4 n j r hj hr o n (0 : Int32) (0 : Int32) M)

theorem a_X12_laysWays (g : qG) (l : Launch) (n : Nat) (j r : Nat) (hj : q_isLaw j) (hr : q_isLaw r) (M : qM) : qAM g l 0 zX12_laysWays (qL j r) [.inr (some 77)] (qL j r, M) (f_X12_laysWays n  M) :=
  qAM.of zv_X12_laysWays.1 (by show 1 ≤ 5; decide) (fun k hk o => w_X12_laysWays n j r hj hr o  M)
def tb_X12_loophole : List (Nat × Instr × Nat) := [(0, (.iload_n 1, 1)), (1, (.ifCond .lt 35, 3)), (4, (.iload_n 2, 1)), (5, (.ifCond .lt 31, 3)), (8, (.iload_n 1, 1)), (9, (.iload_n 2, 1)), (10, (.ior, 1)), (11, (.aload_n 0, 1)), (12, (.getfield 145, 3)), (15, (.iconst (-1), 1)), (16, (.ixor, 1)), (17, (.iand, 1)), (18, (.ifCond .ne 18, 3)), (21, (.iload_n 1, 1)), (22, (.iload_n 2, 1)), (23, (.iand, 1)), (24, (.ifCond .ne 12, 3)), (27, (.iload_n 3, 1)), (28, (.iconst 0, 1)), (29, (.iconst 1, 1)), (30, (.invokestatic 153, 3)), (33, (.ifCond .ne 5, 3)), (36, (.iconst (-1), 1)), (37, (.ireturn, 1)), (38, (.aload_n 0, 1)), (39, (.getfield 19, 3)), (42, (.bipush 12, 2)), (44, (.iconst 1, 1)), (45, (.iastore, 1)), (46, (.iconst 0, 1)), (47, (.istore 4, 2)), (49, (.bipush (-2), 2)), (51, (.istore 5, 2)), (53, (.iconst 0, 1)), (54, (.istore 6, 2)), (56, (.iload 6, 2)), (58, (.sipush 256, 3)), (61, (.if_icmp .ge 60, 3)), (64, (.aload_n 0, 1)), (65, (.getfield 22, 3)), (68, (.bipush 12, 2)), (70, (.iload 6, 2)), (72, (.iastore, 1)), (73, (.aload_n 0, 1)), (74, (.iload_n 1, 1)), (75, (.iload_n 2, 1)), (76, (.invokevirtual 420, 3)), (79, (.ifCond .ne 6, 3)), (82, (.goto 33, 3)), (85, (.iload 4, 2)), (87, (.iconst 1, 1)), (88, (.iadd, 1)), (89, (.istore 4, 2)), (91, (.iload 5, 2)), (93, (.bipush (-2), 2)), (95, (.if_icmp .eq 16, 3)), (98, (.iload 6, 2)), (100, (.invokestatic 276, 3)), (103, (.iload 5, 2)), (105, (.invokestatic 276, 3)), (108, (.if_icmp .ge 7, 3)), (111, (.iload 6, 2)), (113, (.istore 5, 2)), (115, (.iinc 6 1, 3)), (118, (.goto (-62), 3)), (121, (.iload_n 3, 1)), (122, (.ifCond .ne 8, 3)), (125, (.iload 5, 2)), (127, (.goto 5, 3)), (130, (.iload 4, 2)), (132, (.ireturn, 1))]
theorem dm_X12_loophole : ∀ q ∈ tb_X12_loophole, decode zX12_loophole.2.1 q.1 = .ok q.2 := by decide +kernel
def f_X12_loophole_111 (n : Nat) (K56 : Int32 → Int32 → Int32 → Int32 → Int32 → Int32 → qM → qR) (a1 a2 a3 a4 a6 : Int32) (M : qM) : qR :=
  ql (a6 + (1 : Int32)) (fun x1 => K56 a1 a2 a3 a4 a6 x1 M)
set_option maxRecDepth 4000 in
theorem w_X12_loophole_111 {g : qG} {k : qK} (n : Nat) (j r : Nat) (hj : q_isLaw j) (hr : q_isLaw r) (o : qOk g 4 zX12_loophole k) (K56 : Int32 → Int32 → Int32 → Int32 → Int32 → Int32 → qM → qR) (hK56 : ∀ (a1 a2 a3 a4 a5 a6 : Int32) (M : qM), qAE g k zX12_loophole (qL j r) 56 [some (.inr (some 77)), some (.inl a1), some (.inl a2), some (.inl a3), some (.inl a4), some (.inl a5), some (.inl a6)] [] (qL j r, M) (K56 a1 a2 a3 a4 a5 a6 M)) (a1 a2 a3 a4 a6 : Int32) (M : qM) : qAE g k zX12_loophole (qL j r) 111 [some (.inr (some 77)), some (.inl a1), some (.inl a2), some (.inl a3), some (.inl a4), none, some (.inl a6)] [] (qL j r, M) (f_X12_loophole_111 n K56 a1 a2 a3 a4 a6 M) := by
  unfold f_X12_loophole_111
  refine qr_iload o (q_dm dm_X12_loophole 61 rfl) rfl ?_
  refine qs_istore (L' := [some (.inr (some 77)), some (.inl a1), some (.inl a2), some (.inl a3), some (.inl a4), some (.inl a6), some (.inl a6)]) o (q_dm dm_X12_loophole 62 rfl) (Nat.le_of_ble_eq_true rfl) rfl ?_
  refine qs_iincl2 (L' := fun x1 => [some (.inr (some 77)), some (.inl a1), some (.inl a2), some (.inl a3), some (.inl a4), some (.inl a6), some (.inl x1)]) o (q_dm dm_X12_loophole 63 rfl) rfl ic_1 (Nat.le_of_ble_eq_true rfl) (fun _ => rfl) (fun x1 => ?_)
  refine qr_goto (tgt := 56) o (q_dm dm_X12_loophole 64 rfl) (by decide) ?_
  exact qr_loc (q_leS (q_leS (q_leS (q_leS (q_leS (q_leS (q_leS q_le0))))))) (hK56 a1 a2 a3 a4 a6 x1 M)

def b_X12_loophole_56 (n : Nat) (K56 : Int32 → Int32 → Int32 → Int32 → Int32 → Int32 → qM → qR) (a1 a2 a3 a4 a5 a6 : Int32) (M : qM) : qR :=
  (if (256 : Int32) ≤ a6 then (if a3 = (0 : Int32) then some (a5, M) else some (a4, M)) else qlm (mu M 82 12 a6) (fun m1 => qc (f_X12_finds n a1 a2 m1) (fun r2 m3 => (if r2 = (0 : Int32) then ql (a6 + (1 : Int32)) (fun x10 => K56 a1 a2 a3 a4 a5 x10 m3) else ql (a4 + (1 : Int32)) (fun x4 => (if a5 = (-2 : Int32) then f_X12_loophole_111 n K56 a1 a2 a3 x4 a6 m3 else qc (f_X12_bits n a6 m3) (fun r5 m6 => qc (f_X12_bits n a5 m6) (fun r7 m8 => (if r7 ≤ r5 then ql (a6 + (1 : Int32)) (fun x9 => K56 a1 a2 a3 x4 a5 x9 m8) else f_X12_loophole_111 n K56 a1 a2 a3 x4 a6 m8)))))))))
set_option maxRecDepth 4000 in
theorem wb_X12_loophole_56 {g : qG} {k : qK} (n : Nat) (j r : Nat) (hj : q_isLaw j) (hr : q_isLaw r) (o : qOk g 4 zX12_loophole k) (K56 : Int32 → Int32 → Int32 → Int32 → Int32 → Int32 → qM → qR) (hK56 : ∀ (a1 a2 a3 a4 a5 a6 : Int32) (M : qM), qAE g k zX12_loophole (qL j r) 56 [some (.inr (some 77)), some (.inl a1), some (.inl a2), some (.inl a3), some (.inl a4), some (.inl a5), some (.inl a6)] [] (qL j r, M) (K56 a1 a2 a3 a4 a5 a6 M)) (a1 a2 a3 a4 a5 a6 : Int32) (M : qM) : qAE g k zX12_loophole (qL j r) 56 [some (.inr (some 77)), some (.inl a1), some (.inl a2), some (.inl a3), some (.inl a4), some (.inl a5), some (.inl a6)] [] (qL j r, M) (b_X12_loophole_56 n K56 a1 a2 a3 a4 a5 a6 M) := by
  unfold b_X12_loophole_56
  refine qr_iload o (q_dm dm_X12_loophole 35 rfl) rfl ?_
  refine qr_sipush o (q_dm dm_X12_loophole 36 rfl) si_256 ?_
  refine qr_icmp_ge (tgt := 121) o (q_dm dm_X12_loophole 37 rfl) (by decide) ?_ ?_
  · refine qr_iload_n o (q_dm dm_X12_loophole 65 rfl) rfl ?_
    refine qr_if_ne (tgt := 130) o (q_dm dm_X12_loophole 66 rfl) (by decide) ?_ ?_
    · refine qr_iload o (q_dm dm_X12_loophole 69 rfl) rfl ?_
      exact qr_iret o rfl rfl (q_dm dm_X12_loophole 70 rfl)
    · refine qr_iload o (q_dm dm_X12_loophole 67 rfl) rfl ?_
      refine qr_goto (tgt := 132) o (q_dm dm_X12_loophole 68 rfl) (by decide) ?_
      exact qr_iret o rfl rfl (q_dm dm_X12_loophole 70 rfl)
  · refine qr_aload_n o (q_dm dm_X12_loophole 38 rfl) rfl ?_
    refine qr_getr (kf := 4) o cf_X12 (sh77 j r) rfl (Nat.le_of_ble_eq_true rfl) fl_X12_22 (q_dm dm_X12_loophole 39 rfl) ?_
    refine qr_bipush o (q_dm dm_X12_loophole 40 rfl) bi_12 ?_
    refine qr_iload o (q_dm dm_X12_loophole 41 rfl) rfl ?_
    refine qr_iast0 (c := 12) o (sh82 j r) (by decide) (by decide) (q_dm dm_X12_loophole 42 rfl) ?_
    refine qr_letm (fun m1 => ?_)
    refine qr_aload_n o (q_dm dm_X12_loophole 43 rfl) rfl ?_
    refine qr_iload_n o (q_dm dm_X12_loophole 44 rfl) rfl ?_
    refine qr_iload_n o (q_dm dm_X12_loophole 45 rfl) rfl ?_
    refine qr_callv_i (As := [.inl a1, .inl a2]) (S := []) o (a_X12_finds g k.2.1 n j r hj hr a1 a2 m1) (Nat.le_of_ble_eq_true rfl) zv_X12_finds rfl cf_X12 (sh77 j r) ml_X12_420 (Nat.le_of_ble_eq_true rfl) (q_dm dm_X12_loophole 46 rfl) (fun r2 m3 => ?_)
    refine qr_if_ne (tgt := 85) o (q_dm dm_X12_loophole 47 rfl) (by decide) ?_ ?_
    · refine qr_iload o (q_dm dm_X12_loophole 49 rfl) rfl ?_
      refine qr_iconst o (q_dm dm_X12_loophole 50 rfl) ic_1 ?_
      refine qr_iadd o (q_dm dm_X12_loophole 51 rfl) ?_
      refine qr_lt (fun x4 => ?_)
      refine qs_istore (L' := [some (.inr (some 77)), some (.inl a1), some (.inl a2), some (.inl a3), some (.inl x4), some (.inl a5), some (.inl a6)]) o (q_dm dm_X12_loophole 52 rfl) (Nat.le_of_ble_eq_true rfl) rfl ?_
      refine qr_iload o (q_dm dm_X12_loophole 53 rfl) rfl ?_
      refine qr_bipush o (q_dm dm_X12_loophole 54 rfl) bi_m2 ?_
      refine qr_icmp_eq (tgt := 111) o (q_dm dm_X12_loophole 55 rfl) (by decide) ?_ ?_
      · exact qr_loc (q_leS (q_leS (q_leS (q_leS (q_leS (q_leN (q_leS q_le0))))))) (w_X12_loophole_111 n j r hj hr o K56 hK56 a1 a2 a3 x4 a6 m3)
      · refine qr_iload o (q_dm dm_X12_loophole 56 rfl) rfl ?_
        refine qr_calls_i (As := [.inl a6]) (S := []) o (a_X12_bits g k.2.1 n j r hj hr a6 m3) (Nat.le_of_ble_eq_true rfl) zs_X12_bits rfl ml_X12_276 (Nat.le_of_ble_eq_true rfl) (q_dm dm_X12_loophole 57 rfl) (fun r5 m6 => ?_)
        refine qr_iload o (q_dm dm_X12_loophole 58 rfl) rfl ?_
        refine qr_calls_i (As := [.inl a5]) (S := [.inl r5]) o (a_X12_bits g k.2.1 n j r hj hr a5 m6) (Nat.le_of_ble_eq_true rfl) zs_X12_bits rfl ml_X12_276 (Nat.le_of_ble_eq_true rfl) (q_dm dm_X12_loophole 59 rfl) (fun r7 m8 => ?_)
        refine qr_icmp_ge (tgt := 115) o (q_dm dm_X12_loophole 60 rfl) (by decide) ?_ ?_
        · refine qs_iincl2 (L' := fun x9 => [some (.inr (some 77)), some (.inl a1), some (.inl a2), some (.inl a3), some (.inl x4), some (.inl a5), some (.inl x9)]) o (q_dm dm_X12_loophole 63 rfl) rfl ic_1 (Nat.le_of_ble_eq_true rfl) (fun _ => rfl) (fun x9 => ?_)
          refine qr_goto (tgt := 56) o (q_dm dm_X12_loophole 64 rfl) (by decide) ?_
          exact qr_loc (q_leS (q_leS (q_leS (q_leS (q_leS (q_leS (q_leS q_le0))))))) (hK56 a1 a2 a3 x4 a5 x9 m8)
        · exact qr_loc (q_leS (q_leS (q_leS (q_leS (q_leS (q_leN (q_leS q_le0))))))) (w_X12_loophole_111 n j r hj hr o K56 hK56 a1 a2 a3 x4 a6 m8)
    · refine qr_goto (tgt := 115) o (q_dm dm_X12_loophole 48 rfl) (by decide) ?_
      refine qs_iincl2 (L' := fun x10 => [some (.inr (some 77)), some (.inl a1), some (.inl a2), some (.inl a3), some (.inl a4), some (.inl a5), some (.inl x10)]) o (q_dm dm_X12_loophole 63 rfl) rfl ic_1 (Nat.le_of_ble_eq_true rfl) (fun _ => rfl) (fun x10 => ?_)
      refine qr_goto (tgt := 56) o (q_dm dm_X12_loophole 64 rfl) (by decide) ?_
      exact qr_loc (q_leS (q_leS (q_leS (q_leS (q_leS (q_leS (q_leS q_le0))))))) (hK56 a1 a2 a3 a4 a5 x10 m3)

def f_X12_loophole_56 (n : Nat) : Nat → Int32 → Int32 → Int32 → Int32 → Int32 → Int32 → qM → qR
  | 0, _, _, _, _, _, _, _ => none
  | m + 1, a1, a2, a3, a4, a5, a6, M => b_X12_loophole_56 n (f_X12_loophole_56 n m) a1 a2 a3 a4 a5 a6 M
theorem w_X12_loophole_56 {g : qG} {k : qK} (n : Nat) (j r : Nat) (hj : q_isLaw j) (hr : q_isLaw r) (o : qOk g 4 zX12_loophole k) : ∀ (m : Nat) (a1 a2 a3 a4 a5 a6 : Int32) (M : qM), qAE g k zX12_loophole (qL j r) 56 [some (.inr (some 77)), some (.inl a1), some (.inl a2), some (.inl a3), some (.inl a4), some (.inl a5), some (.inl a6)] [] (qL j r, M) (f_X12_loophole_56 n m a1 a2 a3 a4 a5 a6 M) := by
  intro m
  induction m with
  | zero =>
    intro a1 a2 a3 a4 a5 a6 M
    exact qr_none
  | succ m ih =>
    intro a1 a2 a3 a4 a5 a6 M
    exact wb_X12_loophole_56 n j r hj hr o (f_X12_loophole_56 n m) ih a1 a2 a3 a4 a5 a6 M
def f_X12_loophole (n : Nat) (a1 a2 a3 : Int32) (M : qM) : qR :=
  (if a1 < (0 : Int32) then some ((-1 : Int32), M) else (if a2 < (0 : Int32) then some ((-1 : Int32), M) else (if ((a1 ||| a2) &&& ((M 77 6) ^^^ (-1 : Int32))) = (0 : Int32) then (if (a1 &&& a2) = (0 : Int32) then qc (f_X12_in n a3 (0 : Int32) (1 : Int32) M) (fun r1 m2 => (if r1 = (0 : Int32) then some ((-1 : Int32), m2) else qlm (mu m2 81 12 (1 : Int32)) (fun m3 => f_X12_loophole_56 n n a1 a2 a3 (0 : Int32) (-2 : Int32) (0 : Int32) m3))) else some ((-1 : Int32), M)) else some ((-1 : Int32), M))))
set_option maxRecDepth 4000 in
theorem w_X12_loophole {g : qG} {k : qK} (n : Nat) (j r : Nat) (hj : q_isLaw j) (hr : q_isLaw r) (o : qOk g 4 zX12_loophole k) (a1 a2 a3 : Int32) (M : qM) : qAE g k zX12_loophole (qL j r) 0 [some (.inr (some 77)), some (.inl a1), some (.inl a2), some (.inl a3), none, none, none] [] (qL j r, M) (f_X12_loophole n a1 a2 a3 M) := by
  unfold f_X12_loophole
  refine qr_iload_n o (q_dm dm_X12_loophole 0 rfl) rfl ?_
  refine qr_if_lt (tgt := 36) o (q_dm dm_X12_loophole 1 rfl) (by decide) ?_ ?_
  · refine qr_iconst o (q_dm dm_X12_loophole 22 rfl) ic_m1 ?_
    exact qr_iret o rfl rfl (q_dm dm_X12_loophole 23 rfl)
  · refine qr_iload_n o (q_dm dm_X12_loophole 2 rfl) rfl ?_
    refine qr_if_lt (tgt := 36) o (q_dm dm_X12_loophole 3 rfl) (by decide) ?_ ?_
    · refine qr_iconst o (q_dm dm_X12_loophole 22 rfl) ic_m1 ?_
      exact qr_iret o rfl rfl (q_dm dm_X12_loophole 23 rfl)
    · refine qr_iload_n o (q_dm dm_X12_loophole 4 rfl) rfl ?_
      refine qr_iload_n o (q_dm dm_X12_loophole 5 rfl) rfl ?_
      refine qr_ior o (q_dm dm_X12_loophole 6 rfl) ?_
      refine qr_aload_n o (q_dm dm_X12_loophole 7 rfl) rfl ?_
      refine qr_getf (kf := 6) o cf_X12 (sh77 j r) rfl (Nat.le_of_ble_eq_true rfl) fl_X12_145 (q_dm dm_X12_loophole 8 rfl) ?_
      refine qr_iconst o (q_dm dm_X12_loophole 9 rfl) ic_m1 ?_
      refine qr_ixor o (q_dm dm_X12_loophole 10 rfl) ?_
      refine qr_iand o (q_dm dm_X12_loophole 11 rfl) ?_
      refine qr_if_ne (tgt := 36) o (q_dm dm_X12_loophole 12 rfl) (by decide) ?_ ?_
      · refine qr_iconst o (q_dm dm_X12_loophole 22 rfl) ic_m1 ?_
        exact qr_iret o rfl rfl (q_dm dm_X12_loophole 23 rfl)
      · refine qr_iload_n o (q_dm dm_X12_loophole 13 rfl) rfl ?_
        refine qr_iload_n o (q_dm dm_X12_loophole 14 rfl) rfl ?_
        refine qr_iand o (q_dm dm_X12_loophole 15 rfl) ?_
        refine qr_if_ne (tgt := 36) o (q_dm dm_X12_loophole 16 rfl) (by decide) ?_ ?_
        · refine qr_iconst o (q_dm dm_X12_loophole 22 rfl) ic_m1 ?_
          exact qr_iret o rfl rfl (q_dm dm_X12_loophole 23 rfl)
        · refine qr_iload_n o (q_dm dm_X12_loophole 17 rfl) rfl ?_
          refine qr_iconst o (q_dm dm_X12_loophole 18 rfl) ic_0 ?_
          refine qr_iconst o (q_dm dm_X12_loophole 19 rfl) ic_1 ?_
          refine qr_calls_i (As := [.inl a3, .inl (0 : Int32), .inl (1 : Int32)]) (S := []) o (a_X12_in g k.2.1 n j r hj hr a3 (0 : Int32) (1 : Int32) M) (Nat.le_of_ble_eq_true rfl) zs_X12_in rfl ml_X12_153 (Nat.le_of_ble_eq_true rfl) (q_dm dm_X12_loophole 20 rfl) (fun r1 m2 => ?_)
          refine qr_if_ne (tgt := 38) o (q_dm dm_X12_loophole 21 rfl) (by decide) ?_ ?_
          · refine qr_aload_n o (q_dm dm_X12_loophole 24 rfl) rfl ?_
            refine qr_getr (kf := 3) o cf_X12 (sh77 j r) rfl (Nat.le_of_ble_eq_true rfl) fl_X12_19 (q_dm dm_X12_loophole 25 rfl) ?_
            refine qr_bipush o (q_dm dm_X12_loophole 26 rfl) bi_12 ?_
            refine qr_iconst o (q_dm dm_X12_loophole 27 rfl) ic_1 ?_
            refine qr_iast0 (c := 12) o (sh81 j r) (by decide) (by decide) (q_dm dm_X12_loophole 28 rfl) ?_
            refine qr_letm (fun m3 => ?_)
            refine qr_iconst o (q_dm dm_X12_loophole 29 rfl) ic_0 ?_
            refine qs_istore (L' := [some (.inr (some 77)), some (.inl a1), some (.inl a2), some (.inl a3), some (.inl (0 : Int32)), none, none]) o (q_dm dm_X12_loophole 30 rfl) (Nat.le_of_ble_eq_true rfl) rfl ?_
            refine qr_bipush o (q_dm dm_X12_loophole 31 rfl) bi_m2 ?_
            refine qs_istore (L' := [some (.inr (some 77)), some (.inl a1), some (.inl a2), some (.inl a3), some (.inl (0 : Int32)), some (.inl (-2 : Int32)), none]) o (q_dm dm_X12_loophole 32 rfl) (Nat.le_of_ble_eq_true rfl) rfl ?_
            refine qr_iconst o (q_dm dm_X12_loophole 33 rfl) ic_0 ?_
            refine qs_istore (L' := [some (.inr (some 77)), some (.inl a1), some (.inl a2), some (.inl a3), some (.inl (0 : Int32)), some (.inl (-2 : Int32)), some (.inl (0 : Int32))]) o (q_dm dm_X12_loophole 34 rfl) (Nat.le_of_ble_eq_true rfl) rfl ?_
            exact qr_loc (q_leS (q_leS (q_leS (q_leS (q_leS (q_leS (q_leS q_le0))))))) (w_X12_loophole_56 n j r hj hr o n a1 a2 a3 (0 : Int32) (-2 : Int32) (0 : Int32) m3)
          · refine qr_iconst o (q_dm dm_X12_loophole 22 rfl) ic_m1 ?_
            exact qr_iret o rfl rfl (q_dm dm_X12_loophole 23 rfl)

theorem a_X12_loophole (g : qG) (l : Launch) (n : Nat) (j r : Nat) (hj : q_isLaw j) (hr : q_isLaw r) (a1 a2 a3 : Int32) (M : qM) : qAM g l 4 zX12_loophole (qL j r) [.inr (some 77), .inl a1, .inl a2, .inl a3] (qL j r, M) (f_X12_loophole n a1 a2 a3 M) :=
  qAM.of zv_X12_loophole.1 (by show 4 ≤ 7; decide) (fun k hk o => w_X12_loophole n j r hj hr o a1 a2 a3 M)
def tb_X12_person : List (Nat × Instr × Nat) := [(0, (.iload_n 1, 1)), (1, (.iconst 0, 1)), (2, (.bipush 7, 2)), (4, (.invokestatic 153, 3)), (7, (.ifCond .eq 13, 3)), (10, (.iload_n 2, 1)), (11, (.iconst 0, 1)), (12, (.ldc 161, 2)), (14, (.invokestatic 153, 3)), (17, (.ifCond .ne 5, 3)), (20, (.iconst 0, 1)), (21, (.ireturn, 1)), (22, (.aload_n 0, 1)), (23, (.getfield 7, 3)), (26, (.sipush 312, 3)), (29, (.aload_n 0, 1)), (30, (.getfield 7, 3)), (33, (.sipush 312, 3)), (36, (.iaload, 1)), (37, (.iconst 1, 1)), (38, (.iload_n 1, 1)), (39, (.ishl, 1)), (40, (.ior, 1)), (41, (.iastore, 1)), (42, (.aload_n 0, 1)), (43, (.getfield 7, 3)), (46, (.sipush 288, 3)), (49, (.iload_n 1, 1)), (50, (.iadd, 1)), (51, (.iload_n 2, 1)), (52, (.iastore, 1)), (53, (.iconst 1, 1)), (54, (.ireturn, 1))]
theorem dm_X12_person : ∀ q ∈ tb_X12_person, decode zX12_person.2.1 q.1 = .ok q.2 := by decide +kernel
def f_X12_person (n : Nat) (a1 a2 : Int32) (M : qM) : qR :=
  qc (f_X12_in n a1 (0 : Int32) (7 : Int32) M) (fun r1 m2 => (if r1 = (0 : Int32) then some ((0 : Int32), m2) else qc (f_X12_in n a2 (0 : Int32) (99999 : Int32) m2) (fun r3 m4 => (if r3 = (0 : Int32) then some ((0 : Int32), m4) else qlm (mu m4 78 312 ((m4 78 312) ||| ((1 : Int32) <<< (a1 &&& 31)))) (fun m5 => qg ((288 : Int32) + a1) 954 (qlm (mu m5 78 ((288 : Int32) + a1).toNatClampNeg a2) (fun m6 => some ((1 : Int32), m6))))))))
set_option maxRecDepth 4000 in
theorem w_X12_person {g : qG} {k : qK} (n : Nat) (j r : Nat) (hj : q_isLaw j) (hr : q_isLaw r) (o : qOk g 1 zX12_person k) (a1 a2 : Int32) (M : qM) : qAE g k zX12_person (qL j r) 0 [some (.inr (some 77)), some (.inl a1), some (.inl a2)] [] (qL j r, M) (f_X12_person n a1 a2 M) := by
  unfold f_X12_person
  refine qr_iload_n o (q_dm dm_X12_person 0 rfl) rfl ?_
  refine qr_iconst o (q_dm dm_X12_person 1 rfl) ic_0 ?_
  refine qr_bipush o (q_dm dm_X12_person 2 rfl) bi_7 ?_
  refine qr_calls_i (As := [.inl a1, .inl (0 : Int32), .inl (7 : Int32)]) (S := []) o (a_X12_in g k.2.1 n j r hj hr a1 (0 : Int32) (7 : Int32) M) (Nat.le_of_ble_eq_true rfl) zs_X12_in rfl ml_X12_153 (Nat.le_of_ble_eq_true rfl) (q_dm dm_X12_person 3 rfl) (fun r1 m2 => ?_)
  refine qr_if_eq (tgt := 20) o (q_dm dm_X12_person 4 rfl) (by decide) ?_ ?_
  · refine qr_iconst o (q_dm dm_X12_person 10 rfl) ic_0 ?_
    exact qr_iret o rfl (by decide) (q_dm dm_X12_person 11 rfl)
  · refine qr_iload_n o (q_dm dm_X12_person 5 rfl) rfl ?_
    refine qr_iconst o (q_dm dm_X12_person 6 rfl) ic_0 ?_
    refine qr_ldc o (q_dm dm_X12_person 7 rfl) kc_X12_161 ?_
    refine qr_calls_i (As := [.inl a2, .inl (0 : Int32), .inl (99999 : Int32)]) (S := []) o (a_X12_in g k.2.1 n j r hj hr a2 (0 : Int32) (99999 : Int32) m2) (Nat.le_of_ble_eq_true rfl) zs_X12_in rfl ml_X12_153 (Nat.le_of_ble_eq_true rfl) (q_dm dm_X12_person 8 rfl) (fun r3 m4 => ?_)
    refine qr_if_ne (tgt := 22) o (q_dm dm_X12_person 9 rfl) (by decide) ?_ ?_
    · refine qr_aload_n o (q_dm dm_X12_person 12 rfl) rfl ?_
      refine qr_getr (kf := 0) o cf_X12 (sh77 j r) rfl (Nat.le_of_ble_eq_true rfl) fl_X12_7 (q_dm dm_X12_person 13 rfl) ?_
      refine qr_sipush o (q_dm dm_X12_person 14 rfl) si_312 ?_
      refine qr_aload_n o (q_dm dm_X12_person 15 rfl) rfl ?_
      refine qr_getr (kf := 0) o cf_X12 (sh77 j r) rfl (Nat.le_of_ble_eq_true rfl) fl_X12_7 (q_dm dm_X12_person 16 rfl) ?_
      refine qr_sipush o (q_dm dm_X12_person 17 rfl) si_312 ?_
      refine qr_iald0 (c := 312) o (sh78 j r) (by decide) (by decide) (q_dm dm_X12_person 18 rfl) ?_
      refine qr_iconst o (q_dm dm_X12_person 19 rfl) ic_1 ?_
      refine qr_iload_n o (q_dm dm_X12_person 20 rfl) rfl ?_
      refine qr_ishl o (q_dm dm_X12_person 21 rfl) ?_
      refine qr_ior o (q_dm dm_X12_person 22 rfl) ?_
      refine qr_iast0 (c := 312) o (sh78 j r) (by decide) (by decide) (q_dm dm_X12_person 23 rfl) ?_
      refine qr_letm (fun m5 => ?_)
      refine qr_aload_n o (q_dm dm_X12_person 24 rfl) rfl ?_
      refine qr_getr (kf := 0) o cf_X12 (sh77 j r) rfl (Nat.le_of_ble_eq_true rfl) fl_X12_7 (q_dm dm_X12_person 25 rfl) ?_
      refine qr_sipush o (q_dm dm_X12_person 26 rfl) si_288 ?_
      refine qr_iload_n o (q_dm dm_X12_person 27 rfl) rfl ?_
      refine qr_iadd o (q_dm dm_X12_person 28 rfl) ?_
      refine qr_iload_n o (q_dm dm_X12_person 29 rfl) rfl ?_
      refine qr_iast o (sh78 j r) (q_dm dm_X12_person 30 rfl) ?_
      refine qr_letm (fun m6 => ?_)
      refine qr_iconst o (q_dm dm_X12_person 31 rfl) ic_1 ?_
      exact qr_iret o rfl (by decide) (q_dm dm_X12_person 32 rfl)
    · refine qr_iconst o (q_dm dm_X12_person 10 rfl) ic_0 ?_
      exact qr_iret o rfl (by decide) (q_dm dm_X12_person 11 rfl)

theorem a_X12_person (g : qG) (l : Launch) (n : Nat) (j r : Nat) (hj : q_isLaw j) (hr : q_isLaw r) (a1 a2 : Int32) (M : qM) : qAM g l 1 zX12_person (qL j r) [.inr (some 77), .inl a1, .inl a2] (qL j r, M) (f_X12_person n a1 a2 M) :=
  qAM.of zv_X12_person.1 (by show 3 ≤ 3; decide) (fun k hk o => w_X12_person n j r hj hr o a1 a2 M)
def tb_X12_readsStep : List (Nat × Instr × Nat) := [(0, (.aload_n 0, 1)), (1, (.getfield 169, 3)), (4, (.istore_n 1, 1)), (5, (.aload_n 0, 1)), (6, (.invokevirtual 175, 3)), (9, (.bipush 40, 2)), (11, (.if_icmp .ne 75, 3)), (14, (.aload_n 0, 1)), (15, (.getfield 323, 3)), (18, (.iconst 3, 1)), (19, (.if_icmp .ne 13, 3)), (22, (.aload_n 0, 1)), (23, (.iconst 5, 1)), (24, (.aload_n 0, 1)), (25, (.getfield 169, 3)), (28, (.invokevirtual 182, 3)), (31, (.ireturn, 1)), (32, (.aload_n 0, 1)), (33, (.getfield 77, 3)), (36, (.aload_n 0, 1)), (37, (.getfield 323, 3)), (40, (.aload_n 0, 1)), (41, (.getfield 169, 3)), (44, (.iastore, 1)), (45, (.aload_n 0, 1)), (46, (.getfield 80, 3)), (49, (.aload_n 0, 1)), (50, (.getfield 323, 3)), (53, (.aload_n 0, 1)), (54, (.getfield 326, 3)), (57, (.iastore, 1)), (58, (.aload_n 0, 1)), (59, (.aload_n 0, 1)), (60, (.getfield 323, 3)), (63, (.iconst 1, 1)), (64, (.iadd, 1)), (65, (.putfield 323, 3)), (68, (.aload_n 0, 1)), (69, (.aload_n 0, 1)), (70, (.getfield 169, 3)), (73, (.iconst 1, 1)), (74, (.iadd, 1)), (75, (.putfield 169, 3)), (78, (.aload_n 0, 1)), (79, (.getfield 169, 3)), (82, (.istore_n 1, 1)), (83, (.goto (-78), 3)), (86, (.aload_n 0, 1)), (87, (.invokevirtual 188, 3)), (90, (.ifCond .ne 13, 3)), (93, (.aload_n 0, 1)), (94, (.iconst 1, 1)), (95, (.aload_n 0, 1)), (96, (.getfield 169, 3)), (99, (.invokevirtual 182, 3)), (102, (.ireturn, 1)), (103, (.aload_n 0, 1)), (104, (.iconst 0, 1)), (105, (.putfield 185, 3)), (108, (.aload_n 0, 1)), (109, (.invokevirtual 188, 3)), (112, (.ifCond .eq 45, 3)), (115, (.aload_n 0, 1)), (116, (.getfield 169, 3)), (119, (.iload_n 1, 1)), (120, (.iconst 2, 1)), (121, (.iadd, 1)), (122, (.if_icmp .ge 35, 3)), (125, (.aload_n 0, 1)), (126, (.bipush 10, 2)), (128, (.aload_n 0, 1)), (129, (.getfield 185, 3)), (132, (.imul, 1)), (133, (.aload_n 0, 1)), (134, (.invokevirtual 175, 3)), (137, (.iadd, 1)), (138, (.bipush 48, 2)), (140, (.isub, 1)), (141, (.putfield 185, 3)), (144, (.aload_n 0, 1)), (145, (.aload_n 0, 1)), (146, (.getfield 169, 3)), (149, (.iconst 1, 1)), (150, (.iadd, 1)), (151, (.putfield 169, 3)), (154, (.goto (-46), 3)), (157, (.aload_n 0, 1)), (158, (.getfield 185, 3)), (161, (.bipush 12, 2)), (163, (.if_icmp .lt 10, 3)), (166, (.aload_n 0, 1)), (167, (.iconst 3, 1)), (168, (.iload_n 1, 1)), (169, (.invokevirtual 182, 3)), (172, (.ireturn, 1)), (173, (.bipush 8, 2)), (175, (.istore_n 2, 1)), (176, (.aload_n 0, 1)), (177, (.invokevirtual 175, 3)), (180, (.bipush 38, 2)), (182, (.if_icmp .ne 64, 3)), (185, (.aload_n 0, 1)), (186, (.aload_n 0, 1)), (187, (.getfield 169, 3)), (190, (.iconst 1, 1)), (191, (.iadd, 1)), (192, (.putfield 169, 3)), (195, (.aload_n 0, 1)), (196, (.invokevirtual 188, 3)), (199, (.ifCond .ne 13, 3)), (202, (.aload_n 0, 1)), (203, (.iconst 1, 1)), (204, (.aload_n 0, 1)), (205, (.getfield 169, 3)), (208, (.invokevirtual 182, 3)), (211, (.ireturn, 1)), (212, (.aload_n 0, 1)), (213, (.invokevirtual 175, 3)), (216, (.bipush 48, 2)), (218, (.isub, 1)), (219, (.istore_n 2, 1)), (220, (.iload_n 2, 1)), (221, (.bipush 8, 2)), (223, (.if_icmp .lt 13, 3)), (226, (.aload_n 0, 1)), (227, (.iconst 3, 1)), (228, (.aload_n 0, 1)), (229, (.getfield 169, 3)), (232, (.invokevirtual 182, 3)), (235, (.ireturn, 1)), (236, (.aload_n 0, 1)), (237, (.aload_n 0, 1)), (238, (.getfield 169, 3)), (241, (.iconst 1, 1)), (242, (.iadd, 1)), (243, (.putfield 169, 3)), (246, (.aload_n 0, 1)), (247, (.getfield 326, 3)), (250, (.bipush 40, 2)), (252, (.if_icmp .ne 11, 3)), (255, (.aload_n 0, 1)), (256, (.bipush 6, 2)), (258, (.iload_n 1, 1)), (259, (.invokevirtual 182, 3)), (262, (.ireturn, 1)), (263, (.aload_n 0, 1)), (264, (.getfield 71, 3)), (267, (.aload_n 0, 1)), (268, (.getfield 326, 3)), (271, (.aload_n 0, 1)), (272, (.getfield 185, 3)), (275, (.iastore, 1)), (276, (.aload_n 0, 1)), (277, (.getfield 74, 3)), (280, (.aload_n 0, 1)), (281, (.getfield 326, 3)), (284, (.iload_n 2, 1)), (285, (.iastore, 1)), (286, (.aload_n 0, 1)), (287, (.aload_n 0, 1)), (288, (.getfield 326, 3)), (291, (.iconst 1, 1)), (292, (.iadd, 1)), (293, (.putfield 326, 3)), (296, (.aload_n 0, 1)), (297, (.invokevirtual 175, 3)), (300, (.bipush 41, 2)), (302, (.if_icmp .ne 19, 3)), (305, (.aload_n 0, 1)), (306, (.getfield 323, 3)), (309, (.ifCond .le 12, 3)), (312, (.aload_n 0, 1)), (313, (.invokevirtual 329, 3)), (316, (.ifCond .ne (-20), 3)), (319, (.iconst 0, 1)), (320, (.ireturn, 1)), (321, (.iconst 1, 1)), (322, (.ireturn, 1))]
theorem dm_X12_readsStep : ∀ q ∈ tb_X12_readsStep, decode zX12_readsStep.2.1 q.1 = .ok q.2 := by decide +kernel
def b_X12_readsStep_296 (n : Nat) (K296 : qM → qR) (M : qM) : qR :=
  qc (f_X12_here n  M) (fun r1 m2 => (if r1 = (41 : Int32) then (if (m2 77 36) ≤ (0 : Int32) then some ((1 : Int32), m2) else qc (f_X12_endsRound n  m2) (fun r3 m4 => (if r3 = (0 : Int32) then some ((0 : Int32), m4) else K296  m4))) else some ((1 : Int32), m2)))
set_option maxRecDepth 4000 in
theorem wb_X12_readsStep_296 {g : qG} {k : qK} (n : Nat) (j r : Nat) (hj : q_isLaw j) (hr : q_isLaw r) (o : qOk g 2 zX12_readsStep k) (K296 : qM → qR) (hK296 : ∀ (M : qM), qAE g k zX12_readsStep (qL j r) 296 [some (.inr (some 77)), none, none] [] (qL j r, M) (K296  M)) (M : qM) : qAE g k zX12_readsStep (qL j r) 296 [some (.inr (some 77)), none, none] [] (qL j r, M) (b_X12_readsStep_296 n K296  M) := by
  unfold b_X12_readsStep_296
  refine qr_aload_n o (q_dm dm_X12_readsStep 164 rfl) rfl ?_
  refine qr_callv_i (As := []) (S := []) o (a_X12_here g k.2.1 n j r hj hr  M) (Nat.le_of_ble_eq_true rfl) zv_X12_here rfl cf_X12 (sh77 j r) ml_X12_175 (Nat.le_of_ble_eq_true rfl) (q_dm dm_X12_readsStep 165 rfl) (fun r1 m2 => ?_)
  refine qr_bipush o (q_dm dm_X12_readsStep 166 rfl) bi_41 ?_
  refine qr_icmp_ne (tgt := 321) o (q_dm dm_X12_readsStep 167 rfl) (by decide) ?_ ?_
  · refine qr_iconst o (q_dm dm_X12_readsStep 176 rfl) ic_1 ?_
    exact qr_iret o rfl (by decide) (q_dm dm_X12_readsStep 177 rfl)
  · refine qr_aload_n o (q_dm dm_X12_readsStep 168 rfl) rfl ?_
    refine qr_getf (kf := 36) o cf_X12 (sh77 j r) rfl (Nat.le_of_ble_eq_true rfl) fl_X12_323 (q_dm dm_X12_readsStep 169 rfl) ?_
    refine qr_if_le (tgt := 321) o (q_dm dm_X12_readsStep 170 rfl) (by decide) ?_ ?_
    · refine qr_iconst o (q_dm dm_X12_readsStep 176 rfl) ic_1 ?_
      exact qr_iret o rfl (by decide) (q_dm dm_X12_readsStep 177 rfl)
    · refine qr_aload_n o (q_dm dm_X12_readsStep 171 rfl) rfl ?_
      refine qr_callv_i (As := []) (S := []) o (a_X12_endsRound g k.2.1 n j r hj hr  m2) (Nat.le_of_ble_eq_true rfl) zv_X12_endsRound rfl cf_X12 (sh77 j r) ml_X12_329 (Nat.le_of_ble_eq_true rfl) (q_dm dm_X12_readsStep 172 rfl) (fun r3 m4 => ?_)
      refine qr_if_ne (tgt := 296) o (q_dm dm_X12_readsStep 173 rfl) (by decide) ?_ ?_
      · exact qr_loc (q_leS (q_leN (q_leN q_le0))) (hK296  m4)
      · refine qr_iconst o (q_dm dm_X12_readsStep 174 rfl) ic_0 ?_
        exact qr_iret o rfl (by decide) (q_dm dm_X12_readsStep 175 rfl)

def f_X12_readsStep_296 (n : Nat) : Nat → qM → qR
  | 0, _ => none
  | m + 1, M => b_X12_readsStep_296 n (f_X12_readsStep_296 n m)  M
theorem w_X12_readsStep_296 {g : qG} {k : qK} (n : Nat) (j r : Nat) (hj : q_isLaw j) (hr : q_isLaw r) (o : qOk g 2 zX12_readsStep k) : ∀ (m : Nat) (M : qM), qAE g k zX12_readsStep (qL j r) 296 [some (.inr (some 77)), none, none] [] (qL j r, M) (f_X12_readsStep_296 n m  M) := by
  intro m
  induction m with
  | zero =>
    intro  M
    exact qr_none
  | succ m ih =>
    intro  M
    exact wb_X12_readsStep_296 n j r hj hr o (f_X12_readsStep_296 n m) ih  M
def f_X12_readsStep_246 (n : Nat) (a1 a2 : Int32) (M : qM) : qR :=
  (if (M 77 35) = (40 : Int32) then qc (f_X12_wrongAt n (6 : Int32) a1 M) (fun r4 m5 => qb r4 (some (r4, m5))) else qg (M 77 35) 40 (qlm (mu M 98 (M 77 35).toNatClampNeg (M 77 12)) (fun m1 => qg (m1 77 35) 40 (qlm (mu m1 99 (m1 77 35).toNatClampNeg a2) (fun m2 => qlm (mu m2 77 35 ((m2 77 35) + (1 : Int32))) (fun m3 => f_X12_readsStep_296 n n  m3))))))
set_option maxRecDepth 4000 in
theorem w_X12_readsStep_246 {g : qG} {k : qK} (n : Nat) (j r : Nat) (hj : q_isLaw j) (hr : q_isLaw r) (o : qOk g 2 zX12_readsStep k) (a1 a2 : Int32) (M : qM) : qAE g k zX12_readsStep (qL j r) 246 [some (.inr (some 77)), some (.inl a1), some (.inl a2)] [] (qL j r, M) (f_X12_readsStep_246 n a1 a2 M) := by
  unfold f_X12_readsStep_246
  refine qr_aload_n o (q_dm dm_X12_readsStep 136 rfl) rfl ?_
  refine qr_getf (kf := 35) o cf_X12 (sh77 j r) rfl (Nat.le_of_ble_eq_true rfl) fl_X12_326 (q_dm dm_X12_readsStep 137 rfl) ?_
  refine qr_bipush o (q_dm dm_X12_readsStep 138 rfl) bi_40 ?_
  refine qr_icmp_ne (tgt := 263) o (q_dm dm_X12_readsStep 139 rfl) (by decide) ?_ ?_
  · refine qr_aload_n o (q_dm dm_X12_readsStep 145 rfl) rfl ?_
    refine qr_getr (kf := 31) o cf_X12 (sh77 j r) rfl (Nat.le_of_ble_eq_true rfl) fl_X12_71 (q_dm dm_X12_readsStep 146 rfl) ?_
    refine qr_aload_n o (q_dm dm_X12_readsStep 147 rfl) rfl ?_
    refine qr_getf (kf := 35) o cf_X12 (sh77 j r) rfl (Nat.le_of_ble_eq_true rfl) fl_X12_326 (q_dm dm_X12_readsStep 148 rfl) ?_
    refine qr_aload_n o (q_dm dm_X12_readsStep 149 rfl) rfl ?_
    refine qr_getf (kf := 12) o cf_X12 (sh77 j r) rfl (Nat.le_of_ble_eq_true rfl) fl_X12_185 (q_dm dm_X12_readsStep 150 rfl) ?_
    refine qr_iast o (sh98 j r) (q_dm dm_X12_readsStep 151 rfl) ?_
    refine qr_letm (fun m1 => ?_)
    refine qr_aload_n o (q_dm dm_X12_readsStep 152 rfl) rfl ?_
    refine qr_getr (kf := 32) o cf_X12 (sh77 j r) rfl (Nat.le_of_ble_eq_true rfl) fl_X12_74 (q_dm dm_X12_readsStep 153 rfl) ?_
    refine qr_aload_n o (q_dm dm_X12_readsStep 154 rfl) rfl ?_
    refine qr_getf (kf := 35) o cf_X12 (sh77 j r) rfl (Nat.le_of_ble_eq_true rfl) fl_X12_326 (q_dm dm_X12_readsStep 155 rfl) ?_
    refine qr_iload_n o (q_dm dm_X12_readsStep 156 rfl) rfl ?_
    refine qr_iast o (sh99 j r) (q_dm dm_X12_readsStep 157 rfl) ?_
    refine qr_letm (fun m2 => ?_)
    refine qr_aload_n o (q_dm dm_X12_readsStep 158 rfl) rfl ?_
    refine qr_aload_n o (q_dm dm_X12_readsStep 159 rfl) rfl ?_
    refine qr_getf (kf := 35) o cf_X12 (sh77 j r) rfl (Nat.le_of_ble_eq_true rfl) fl_X12_326 (q_dm dm_X12_readsStep 160 rfl) ?_
    refine qr_iconst o (q_dm dm_X12_readsStep 161 rfl) ic_1 ?_
    refine qr_iadd o (q_dm dm_X12_readsStep 162 rfl) ?_
    refine qr_putf (kf := 35) o cf_X12 (sh77 j r) rfl (Nat.le_of_ble_eq_true rfl) fl_X12_326 rfl (by decide +kernel) (q_dm dm_X12_readsStep 163 rfl) ?_
    refine qr_letm (fun m3 => ?_)
    exact qr_loc (q_leS (q_leN (q_leN q_le0))) (w_X12_readsStep_296 n j r hj hr o n  m3)
  · refine qr_aload_n o (q_dm dm_X12_readsStep 140 rfl) rfl ?_
    refine qr_bipush o (q_dm dm_X12_readsStep 141 rfl) bi_6 ?_
    refine qr_iload_n o (q_dm dm_X12_readsStep 142 rfl) rfl ?_
    refine qr_callv_i (As := [.inl (6 : Int32), .inl a1]) (S := []) o (a_X12_wrongAt g k.2.1 n j r hj hr (6 : Int32) a1 M) (Nat.le_of_ble_eq_true rfl) zv_X12_wrongAt rfl cf_X12 (sh77 j r) ml_X12_182 (Nat.le_of_ble_eq_true rfl) (q_dm dm_X12_readsStep 143 rfl) (fun r4 m5 => ?_)
    exact qr_zret o rfl (q_dm dm_X12_readsStep 144 rfl)

def f_X12_readsStep_157 (n : Nat) (a1 : Int32) (M : qM) : qR :=
  (if (M 77 12) < (12 : Int32) then qc (f_X12_here n  M) (fun r1 m2 => (if r1 = (38 : Int32) then qlm (mu m2 77 9 ((m2 77 9) + (1 : Int32))) (fun m3 => qc (f_X12_isDigit n  m3) (fun r4 m5 => (if r4 = (0 : Int32) then qc (f_X12_wrongAt n (1 : Int32) (m5 77 9) m5) (fun r12 m13 => qb r12 (some (r12, m13))) else qc (f_X12_here n  m5) (fun r6 m7 => ql (r6 - (48 : Int32)) (fun x8 => (if x8 < (8 : Int32) then qlm (mu m7 77 9 ((m7 77 9) + (1 : Int32))) (fun m9 => f_X12_readsStep_246 n a1 x8 m9) else qc (f_X12_wrongAt n (3 : Int32) (m7 77 9) m7) (fun r10 m11 => qb r10 (some (r10, m11))))))))) else f_X12_readsStep_246 n a1 (8 : Int32) m2)) else qc (f_X12_wrongAt n (3 : Int32) a1 M) (fun r14 m15 => qb r14 (some (r14, m15))))
set_option maxRecDepth 4000 in
theorem w_X12_readsStep_157 {g : qG} {k : qK} (n : Nat) (j r : Nat) (hj : q_isLaw j) (hr : q_isLaw r) (o : qOk g 2 zX12_readsStep k) (a1 : Int32) (M : qM) : qAE g k zX12_readsStep (qL j r) 157 [some (.inr (some 77)), some (.inl a1), none] [] (qL j r, M) (f_X12_readsStep_157 n a1 M) := by
  unfold f_X12_readsStep_157
  refine qr_aload_n o (q_dm dm_X12_readsStep 86 rfl) rfl ?_
  refine qr_getf (kf := 12) o cf_X12 (sh77 j r) rfl (Nat.le_of_ble_eq_true rfl) fl_X12_185 (q_dm dm_X12_readsStep 87 rfl) ?_
  refine qr_bipush o (q_dm dm_X12_readsStep 88 rfl) bi_12 ?_
  refine qr_icmp_lt (tgt := 173) o (q_dm dm_X12_readsStep 89 rfl) (by decide) ?_ ?_
  · refine qr_bipush o (q_dm dm_X12_readsStep 95 rfl) bi_8 ?_
    refine qs_istore_n (L' := [some (.inr (some 77)), some (.inl a1), some (.inl (8 : Int32))]) o (q_dm dm_X12_readsStep 96 rfl) (Nat.le_of_ble_eq_true rfl) rfl ?_
    refine qr_aload_n o (q_dm dm_X12_readsStep 97 rfl) rfl ?_
    refine qr_callv_i (As := []) (S := []) o (a_X12_here g k.2.1 n j r hj hr  M) (Nat.le_of_ble_eq_true rfl) zv_X12_here rfl cf_X12 (sh77 j r) ml_X12_175 (Nat.le_of_ble_eq_true rfl) (q_dm dm_X12_readsStep 98 rfl) (fun r1 m2 => ?_)
    refine qr_bipush o (q_dm dm_X12_readsStep 99 rfl) bi_38 ?_
    refine qr_icmp_ne (tgt := 246) o (q_dm dm_X12_readsStep 100 rfl) (by decide) ?_ ?_
    · exact qr_loc (q_leS (q_leS (q_leS q_le0))) (w_X12_readsStep_246 n j r hj hr o a1 (8 : Int32) m2)
    · refine qr_aload_n o (q_dm dm_X12_readsStep 101 rfl) rfl ?_
      refine qr_aload_n o (q_dm dm_X12_readsStep 102 rfl) rfl ?_
      refine qr_getf (kf := 9) o cf_X12 (sh77 j r) rfl (Nat.le_of_ble_eq_true rfl) fl_X12_169 (q_dm dm_X12_readsStep 103 rfl) ?_
      refine qr_iconst o (q_dm dm_X12_readsStep 104 rfl) ic_1 ?_
      refine qr_iadd o (q_dm dm_X12_readsStep 105 rfl) ?_
      refine qr_putf (kf := 9) o cf_X12 (sh77 j r) rfl (Nat.le_of_ble_eq_true rfl) fl_X12_169 rfl (by decide +kernel) (q_dm dm_X12_readsStep 106 rfl) ?_
      refine qr_letm (fun m3 => ?_)
      refine qr_aload_n o (q_dm dm_X12_readsStep 107 rfl) rfl ?_
      refine qr_callv_i (As := []) (S := []) o (a_X12_isDigit g k.2.1 n j r hj hr  m3) (Nat.le_of_ble_eq_true rfl) zv_X12_isDigit rfl cf_X12 (sh77 j r) ml_X12_188 (Nat.le_of_ble_eq_true rfl) (q_dm dm_X12_readsStep 108 rfl) (fun r4 m5 => ?_)
      refine qr_if_ne (tgt := 212) o (q_dm dm_X12_readsStep 109 rfl) (by decide) ?_ ?_
      · refine qr_aload_n o (q_dm dm_X12_readsStep 116 rfl) rfl ?_
        refine qr_callv_i (As := []) (S := []) o (a_X12_here g k.2.1 n j r hj hr  m5) (Nat.le_of_ble_eq_true rfl) zv_X12_here rfl cf_X12 (sh77 j r) ml_X12_175 (Nat.le_of_ble_eq_true rfl) (q_dm dm_X12_readsStep 117 rfl) (fun r6 m7 => ?_)
        refine qr_bipush o (q_dm dm_X12_readsStep 118 rfl) bi_48 ?_
        refine qr_isub o (q_dm dm_X12_readsStep 119 rfl) ?_
        refine qr_lt (fun x8 => ?_)
        refine qs_istore_n (L' := [some (.inr (some 77)), some (.inl a1), some (.inl x8)]) o (q_dm dm_X12_readsStep 120 rfl) (Nat.le_of_ble_eq_true rfl) rfl ?_
        refine qr_iload_n o (q_dm dm_X12_readsStep 121 rfl) rfl ?_
        refine qr_bipush o (q_dm dm_X12_readsStep 122 rfl) bi_8 ?_
        refine qr_icmp_lt (tgt := 236) o (q_dm dm_X12_readsStep 123 rfl) (by decide) ?_ ?_
        · refine qr_aload_n o (q_dm dm_X12_readsStep 130 rfl) rfl ?_
          refine qr_aload_n o (q_dm dm_X12_readsStep 131 rfl) rfl ?_
          refine qr_getf (kf := 9) o cf_X12 (sh77 j r) rfl (Nat.le_of_ble_eq_true rfl) fl_X12_169 (q_dm dm_X12_readsStep 132 rfl) ?_
          refine qr_iconst o (q_dm dm_X12_readsStep 133 rfl) ic_1 ?_
          refine qr_iadd o (q_dm dm_X12_readsStep 134 rfl) ?_
          refine qr_putf (kf := 9) o cf_X12 (sh77 j r) rfl (Nat.le_of_ble_eq_true rfl) fl_X12_169 rfl (by decide +kernel) (q_dm dm_X12_readsStep 135 rfl) ?_
          refine qr_letm (fun m9 => ?_)
          exact qr_loc (q_leS (q_leS (q_leS q_le0))) (w_X12_readsStep_246 n j r hj hr o a1 x8 m9)
        · refine qr_aload_n o (q_dm dm_X12_readsStep 124 rfl) rfl ?_
          refine qr_iconst o (q_dm dm_X12_readsStep 125 rfl) ic_3 ?_
          refine qr_aload_n o (q_dm dm_X12_readsStep 126 rfl) rfl ?_
          refine qr_getf (kf := 9) o cf_X12 (sh77 j r) rfl (Nat.le_of_ble_eq_true rfl) fl_X12_169 (q_dm dm_X12_readsStep 127 rfl) ?_
          refine qr_callv_i (As := [.inl (3 : Int32), .inl (m7 77 9)]) (S := []) o (a_X12_wrongAt g k.2.1 n j r hj hr (3 : Int32) (m7 77 9) m7) (Nat.le_of_ble_eq_true rfl) zv_X12_wrongAt rfl cf_X12 (sh77 j r) ml_X12_182 (Nat.le_of_ble_eq_true rfl) (q_dm dm_X12_readsStep 128 rfl) (fun r10 m11 => ?_)
          exact qr_zret o rfl (q_dm dm_X12_readsStep 129 rfl)
      · refine qr_aload_n o (q_dm dm_X12_readsStep 110 rfl) rfl ?_
        refine qr_iconst o (q_dm dm_X12_readsStep 111 rfl) ic_1 ?_
        refine qr_aload_n o (q_dm dm_X12_readsStep 112 rfl) rfl ?_
        refine qr_getf (kf := 9) o cf_X12 (sh77 j r) rfl (Nat.le_of_ble_eq_true rfl) fl_X12_169 (q_dm dm_X12_readsStep 113 rfl) ?_
        refine qr_callv_i (As := [.inl (1 : Int32), .inl (m5 77 9)]) (S := []) o (a_X12_wrongAt g k.2.1 n j r hj hr (1 : Int32) (m5 77 9) m5) (Nat.le_of_ble_eq_true rfl) zv_X12_wrongAt rfl cf_X12 (sh77 j r) ml_X12_182 (Nat.le_of_ble_eq_true rfl) (q_dm dm_X12_readsStep 114 rfl) (fun r12 m13 => ?_)
        exact qr_zret o rfl (q_dm dm_X12_readsStep 115 rfl)
  · refine qr_aload_n o (q_dm dm_X12_readsStep 90 rfl) rfl ?_
    refine qr_iconst o (q_dm dm_X12_readsStep 91 rfl) ic_3 ?_
    refine qr_iload_n o (q_dm dm_X12_readsStep 92 rfl) rfl ?_
    refine qr_callv_i (As := [.inl (3 : Int32), .inl a1]) (S := []) o (a_X12_wrongAt g k.2.1 n j r hj hr (3 : Int32) a1 M) (Nat.le_of_ble_eq_true rfl) zv_X12_wrongAt rfl cf_X12 (sh77 j r) ml_X12_182 (Nat.le_of_ble_eq_true rfl) (q_dm dm_X12_readsStep 93 rfl) (fun r14 m15 => ?_)
    exact qr_zret o rfl (q_dm dm_X12_readsStep 94 rfl)

def b_X12_readsStep_108 (n : Nat) (K108 : Int32 → qM → qR) (a1 : Int32) (M : qM) : qR :=
  qc (f_X12_isDigit n  M) (fun r1 m2 => (if r1 = (0 : Int32) then f_X12_readsStep_157 n a1 m2 else (if (a1 + (2 : Int32)) ≤ (m2 77 9) then f_X12_readsStep_157 n a1 m2 else qc (f_X12_here n  m2) (fun r3 m4 => qlm (mu m4 77 12 ((((10 : Int32) * (m2 77 12)) + r3) - (48 : Int32))) (fun m5 => qlm (mu m5 77 9 ((m5 77 9) + (1 : Int32))) (fun m6 => K108 a1 m6))))))
set_option maxRecDepth 4000 in
theorem wb_X12_readsStep_108 {g : qG} {k : qK} (n : Nat) (j r : Nat) (hj : q_isLaw j) (hr : q_isLaw r) (o : qOk g 2 zX12_readsStep k) (K108 : Int32 → qM → qR) (hK108 : ∀ (a1 : Int32) (M : qM), qAE g k zX12_readsStep (qL j r) 108 [some (.inr (some 77)), some (.inl a1), none] [] (qL j r, M) (K108 a1 M)) (a1 : Int32) (M : qM) : qAE g k zX12_readsStep (qL j r) 108 [some (.inr (some 77)), some (.inl a1), none] [] (qL j r, M) (b_X12_readsStep_108 n K108 a1 M) := by
  unfold b_X12_readsStep_108
  refine qr_aload_n o (q_dm dm_X12_readsStep 59 rfl) rfl ?_
  refine qr_callv_i (As := []) (S := []) o (a_X12_isDigit g k.2.1 n j r hj hr  M) (Nat.le_of_ble_eq_true rfl) zv_X12_isDigit rfl cf_X12 (sh77 j r) ml_X12_188 (Nat.le_of_ble_eq_true rfl) (q_dm dm_X12_readsStep 60 rfl) (fun r1 m2 => ?_)
  refine qr_if_eq (tgt := 157) o (q_dm dm_X12_readsStep 61 rfl) (by decide) ?_ ?_
  · exact qr_loc (q_leS (q_leS (q_leN q_le0))) (w_X12_readsStep_157 n j r hj hr o a1 m2)
  · refine qr_aload_n o (q_dm dm_X12_readsStep 62 rfl) rfl ?_
    refine qr_getf (kf := 9) o cf_X12 (sh77 j r) rfl (Nat.le_of_ble_eq_true rfl) fl_X12_169 (q_dm dm_X12_readsStep 63 rfl) ?_
    refine qr_iload_n o (q_dm dm_X12_readsStep 64 rfl) rfl ?_
    refine qr_iconst o (q_dm dm_X12_readsStep 65 rfl) ic_2 ?_
    refine qr_iadd o (q_dm dm_X12_readsStep 66 rfl) ?_
    refine qr_icmp_ge (tgt := 157) o (q_dm dm_X12_readsStep 67 rfl) (by decide) ?_ ?_
    · exact qr_loc (q_leS (q_leS (q_leN q_le0))) (w_X12_readsStep_157 n j r hj hr o a1 m2)
    · refine qr_aload_n o (q_dm dm_X12_readsStep 68 rfl) rfl ?_
      refine qr_bipush o (q_dm dm_X12_readsStep 69 rfl) bi_10 ?_
      refine qr_aload_n o (q_dm dm_X12_readsStep 70 rfl) rfl ?_
      refine qr_getf (kf := 12) o cf_X12 (sh77 j r) rfl (Nat.le_of_ble_eq_true rfl) fl_X12_185 (q_dm dm_X12_readsStep 71 rfl) ?_
      refine qr_imul o (q_dm dm_X12_readsStep 72 rfl) ?_
      refine qr_aload_n o (q_dm dm_X12_readsStep 73 rfl) rfl ?_
      refine qr_callv_i (As := []) (S := [.inl ((10 : Int32) * (m2 77 12)), .inr (some 77)]) o (a_X12_here g k.2.1 n j r hj hr  m2) (Nat.le_of_ble_eq_true rfl) zv_X12_here rfl cf_X12 (sh77 j r) ml_X12_175 (Nat.le_of_ble_eq_true rfl) (q_dm dm_X12_readsStep 74 rfl) (fun r3 m4 => ?_)
      refine qr_iadd o (q_dm dm_X12_readsStep 75 rfl) ?_
      refine qr_bipush o (q_dm dm_X12_readsStep 76 rfl) bi_48 ?_
      refine qr_isub o (q_dm dm_X12_readsStep 77 rfl) ?_
      refine qr_putf (kf := 12) o cf_X12 (sh77 j r) rfl (Nat.le_of_ble_eq_true rfl) fl_X12_185 rfl (by decide +kernel) (q_dm dm_X12_readsStep 78 rfl) ?_
      refine qr_letm (fun m5 => ?_)
      refine qr_aload_n o (q_dm dm_X12_readsStep 79 rfl) rfl ?_
      refine qr_aload_n o (q_dm dm_X12_readsStep 80 rfl) rfl ?_
      refine qr_getf (kf := 9) o cf_X12 (sh77 j r) rfl (Nat.le_of_ble_eq_true rfl) fl_X12_169 (q_dm dm_X12_readsStep 81 rfl) ?_
      refine qr_iconst o (q_dm dm_X12_readsStep 82 rfl) ic_1 ?_
      refine qr_iadd o (q_dm dm_X12_readsStep 83 rfl) ?_
      refine qr_putf (kf := 9) o cf_X12 (sh77 j r) rfl (Nat.le_of_ble_eq_true rfl) fl_X12_169 rfl (by decide +kernel) (q_dm dm_X12_readsStep 84 rfl) ?_
      refine qr_letm (fun m6 => ?_)
      refine qr_goto (tgt := 108) o (q_dm dm_X12_readsStep 85 rfl) (by decide) ?_
      exact qr_loc (q_leS (q_leS (q_leN q_le0))) (hK108 a1 m6)

def f_X12_readsStep_108 (n : Nat) : Nat → Int32 → qM → qR
  | 0, _, _ => none
  | m + 1, a1, M => b_X12_readsStep_108 n (f_X12_readsStep_108 n m) a1 M
theorem w_X12_readsStep_108 {g : qG} {k : qK} (n : Nat) (j r : Nat) (hj : q_isLaw j) (hr : q_isLaw r) (o : qOk g 2 zX12_readsStep k) : ∀ (m : Nat) (a1 : Int32) (M : qM), qAE g k zX12_readsStep (qL j r) 108 [some (.inr (some 77)), some (.inl a1), none] [] (qL j r, M) (f_X12_readsStep_108 n m a1 M) := by
  intro m
  induction m with
  | zero =>
    intro a1 M
    exact qr_none
  | succ m ih =>
    intro a1 M
    exact wb_X12_readsStep_108 n j r hj hr o (f_X12_readsStep_108 n m) ih a1 M
def b_X12_readsStep_5 (n : Nat) (K5 : Int32 → qM → qR) (a1 : Int32) (M : qM) : qR :=
  qc (f_X12_here n  M) (fun r1 m2 => (if r1 = (40 : Int32) then (if (m2 77 36) = (3 : Int32) then qc (f_X12_wrongAt n (5 : Int32) (m2 77 9) m2) (fun r13 m14 => qb r13 (some (r13, m14))) else qg (m2 77 36) 3 (qlm (mu m2 100 (m2 77 36).toNatClampNeg (m2 77 9)) (fun m8 => qg (m8 77 36) 3 (qlm (mu m8 101 (m8 77 36).toNatClampNeg (m8 77 35)) (fun m9 => qlm (mu m9 77 36 ((m9 77 36) + (1 : Int32))) (fun m10 => qlm (mu m10 77 9 ((m10 77 9) + (1 : Int32))) (fun m11 => ql (m11 77 9) (fun x12 => K5 x12 m11)))))))) else qc (f_X12_isDigit n  m2) (fun r3 m4 => (if r3 = (0 : Int32) then qc (f_X12_wrongAt n (1 : Int32) (m4 77 9) m4) (fun r6 m7 => qb r6 (some (r6, m7))) else qlm (mu m4 77 12 (0 : Int32)) (fun m5 => f_X12_readsStep_108 n n a1 m5)))))
set_option maxRecDepth 4000 in
theorem wb_X12_readsStep_5 {g : qG} {k : qK} (n : Nat) (j r : Nat) (hj : q_isLaw j) (hr : q_isLaw r) (o : qOk g 2 zX12_readsStep k) (K5 : Int32 → qM → qR) (hK5 : ∀ (a1 : Int32) (M : qM), qAE g k zX12_readsStep (qL j r) 5 [some (.inr (some 77)), some (.inl a1), none] [] (qL j r, M) (K5 a1 M)) (a1 : Int32) (M : qM) : qAE g k zX12_readsStep (qL j r) 5 [some (.inr (some 77)), some (.inl a1), none] [] (qL j r, M) (b_X12_readsStep_5 n K5 a1 M) := by
  unfold b_X12_readsStep_5
  refine qr_aload_n o (q_dm dm_X12_readsStep 3 rfl) rfl ?_
  refine qr_callv_i (As := []) (S := []) o (a_X12_here g k.2.1 n j r hj hr  M) (Nat.le_of_ble_eq_true rfl) zv_X12_here rfl cf_X12 (sh77 j r) ml_X12_175 (Nat.le_of_ble_eq_true rfl) (q_dm dm_X12_readsStep 4 rfl) (fun r1 m2 => ?_)
  refine qr_bipush o (q_dm dm_X12_readsStep 5 rfl) bi_40 ?_
  refine qr_icmp_ne (tgt := 86) o (q_dm dm_X12_readsStep 6 rfl) (by decide) ?_ ?_
  · refine qr_aload_n o (q_dm dm_X12_readsStep 47 rfl) rfl ?_
    refine qr_callv_i (As := []) (S := []) o (a_X12_isDigit g k.2.1 n j r hj hr  m2) (Nat.le_of_ble_eq_true rfl) zv_X12_isDigit rfl cf_X12 (sh77 j r) ml_X12_188 (Nat.le_of_ble_eq_true rfl) (q_dm dm_X12_readsStep 48 rfl) (fun r3 m4 => ?_)
    refine qr_if_ne (tgt := 103) o (q_dm dm_X12_readsStep 49 rfl) (by decide) ?_ ?_
    · refine qr_aload_n o (q_dm dm_X12_readsStep 56 rfl) rfl ?_
      refine qr_iconst o (q_dm dm_X12_readsStep 57 rfl) ic_0 ?_
      refine qr_putf (kf := 12) o cf_X12 (sh77 j r) rfl (Nat.le_of_ble_eq_true rfl) fl_X12_185 rfl (by decide +kernel) (q_dm dm_X12_readsStep 58 rfl) ?_
      refine qr_letm (fun m5 => ?_)
      exact qr_loc (q_leS (q_leS (q_leN q_le0))) (w_X12_readsStep_108 n j r hj hr o n a1 m5)
    · refine qr_aload_n o (q_dm dm_X12_readsStep 50 rfl) rfl ?_
      refine qr_iconst o (q_dm dm_X12_readsStep 51 rfl) ic_1 ?_
      refine qr_aload_n o (q_dm dm_X12_readsStep 52 rfl) rfl ?_
      refine qr_getf (kf := 9) o cf_X12 (sh77 j r) rfl (Nat.le_of_ble_eq_true rfl) fl_X12_169 (q_dm dm_X12_readsStep 53 rfl) ?_
      refine qr_callv_i (As := [.inl (1 : Int32), .inl (m4 77 9)]) (S := []) o (a_X12_wrongAt g k.2.1 n j r hj hr (1 : Int32) (m4 77 9) m4) (Nat.le_of_ble_eq_true rfl) zv_X12_wrongAt rfl cf_X12 (sh77 j r) ml_X12_182 (Nat.le_of_ble_eq_true rfl) (q_dm dm_X12_readsStep 54 rfl) (fun r6 m7 => ?_)
      exact qr_zret o rfl (q_dm dm_X12_readsStep 55 rfl)
  · refine qr_aload_n o (q_dm dm_X12_readsStep 7 rfl) rfl ?_
    refine qr_getf (kf := 36) o cf_X12 (sh77 j r) rfl (Nat.le_of_ble_eq_true rfl) fl_X12_323 (q_dm dm_X12_readsStep 8 rfl) ?_
    refine qr_iconst o (q_dm dm_X12_readsStep 9 rfl) ic_3 ?_
    refine qr_icmp_ne (tgt := 32) o (q_dm dm_X12_readsStep 10 rfl) (by decide) ?_ ?_
    · refine qr_aload_n o (q_dm dm_X12_readsStep 17 rfl) rfl ?_
      refine qr_getr (kf := 33) o cf_X12 (sh77 j r) rfl (Nat.le_of_ble_eq_true rfl) fl_X12_77 (q_dm dm_X12_readsStep 18 rfl) ?_
      refine qr_aload_n o (q_dm dm_X12_readsStep 19 rfl) rfl ?_
      refine qr_getf (kf := 36) o cf_X12 (sh77 j r) rfl (Nat.le_of_ble_eq_true rfl) fl_X12_323 (q_dm dm_X12_readsStep 20 rfl) ?_
      refine qr_aload_n o (q_dm dm_X12_readsStep 21 rfl) rfl ?_
      refine qr_getf (kf := 9) o cf_X12 (sh77 j r) rfl (Nat.le_of_ble_eq_true rfl) fl_X12_169 (q_dm dm_X12_readsStep 22 rfl) ?_
      refine qr_iast o (sh100 j r) (q_dm dm_X12_readsStep 23 rfl) ?_
      refine qr_letm (fun m8 => ?_)
      refine qr_aload_n o (q_dm dm_X12_readsStep 24 rfl) rfl ?_
      refine qr_getr (kf := 34) o cf_X12 (sh77 j r) rfl (Nat.le_of_ble_eq_true rfl) fl_X12_80 (q_dm dm_X12_readsStep 25 rfl) ?_
      refine qr_aload_n o (q_dm dm_X12_readsStep 26 rfl) rfl ?_
      refine qr_getf (kf := 36) o cf_X12 (sh77 j r) rfl (Nat.le_of_ble_eq_true rfl) fl_X12_323 (q_dm dm_X12_readsStep 27 rfl) ?_
      refine qr_aload_n o (q_dm dm_X12_readsStep 28 rfl) rfl ?_
      refine qr_getf (kf := 35) o cf_X12 (sh77 j r) rfl (Nat.le_of_ble_eq_true rfl) fl_X12_326 (q_dm dm_X12_readsStep 29 rfl) ?_
      refine qr_iast o (sh101 j r) (q_dm dm_X12_readsStep 30 rfl) ?_
      refine qr_letm (fun m9 => ?_)
      refine qr_aload_n o (q_dm dm_X12_readsStep 31 rfl) rfl ?_
      refine qr_aload_n o (q_dm dm_X12_readsStep 32 rfl) rfl ?_
      refine qr_getf (kf := 36) o cf_X12 (sh77 j r) rfl (Nat.le_of_ble_eq_true rfl) fl_X12_323 (q_dm dm_X12_readsStep 33 rfl) ?_
      refine qr_iconst o (q_dm dm_X12_readsStep 34 rfl) ic_1 ?_
      refine qr_iadd o (q_dm dm_X12_readsStep 35 rfl) ?_
      refine qr_putf (kf := 36) o cf_X12 (sh77 j r) rfl (Nat.le_of_ble_eq_true rfl) fl_X12_323 rfl (by decide +kernel) (q_dm dm_X12_readsStep 36 rfl) ?_
      refine qr_letm (fun m10 => ?_)
      refine qr_aload_n o (q_dm dm_X12_readsStep 37 rfl) rfl ?_
      refine qr_aload_n o (q_dm dm_X12_readsStep 38 rfl) rfl ?_
      refine qr_getf (kf := 9) o cf_X12 (sh77 j r) rfl (Nat.le_of_ble_eq_true rfl) fl_X12_169 (q_dm dm_X12_readsStep 39 rfl) ?_
      refine qr_iconst o (q_dm dm_X12_readsStep 40 rfl) ic_1 ?_
      refine qr_iadd o (q_dm dm_X12_readsStep 41 rfl) ?_
      refine qr_putf (kf := 9) o cf_X12 (sh77 j r) rfl (Nat.le_of_ble_eq_true rfl) fl_X12_169 rfl (by decide +kernel) (q_dm dm_X12_readsStep 42 rfl) ?_
      refine qr_letm (fun m11 => ?_)
      refine qr_aload_n o (q_dm dm_X12_readsStep 43 rfl) rfl ?_
      refine qr_getf (kf := 9) o cf_X12 (sh77 j r) rfl (Nat.le_of_ble_eq_true rfl) fl_X12_169 (q_dm dm_X12_readsStep 44 rfl) ?_
      refine qr_lt (fun x12 => ?_)
      refine qs_istore_n (L' := [some (.inr (some 77)), some (.inl x12), none]) o (q_dm dm_X12_readsStep 45 rfl) (Nat.le_of_ble_eq_true rfl) rfl ?_
      refine qr_goto (tgt := 5) o (q_dm dm_X12_readsStep 46 rfl) (by decide) ?_
      exact qr_loc (q_leS (q_leS (q_leN q_le0))) (hK5 x12 m11)
    · refine qr_aload_n o (q_dm dm_X12_readsStep 11 rfl) rfl ?_
      refine qr_iconst o (q_dm dm_X12_readsStep 12 rfl) ic_5 ?_
      refine qr_aload_n o (q_dm dm_X12_readsStep 13 rfl) rfl ?_
      refine qr_getf (kf := 9) o cf_X12 (sh77 j r) rfl (Nat.le_of_ble_eq_true rfl) fl_X12_169 (q_dm dm_X12_readsStep 14 rfl) ?_
      refine qr_callv_i (As := [.inl (5 : Int32), .inl (m2 77 9)]) (S := []) o (a_X12_wrongAt g k.2.1 n j r hj hr (5 : Int32) (m2 77 9) m2) (Nat.le_of_ble_eq_true rfl) zv_X12_wrongAt rfl cf_X12 (sh77 j r) ml_X12_182 (Nat.le_of_ble_eq_true rfl) (q_dm dm_X12_readsStep 15 rfl) (fun r13 m14 => ?_)
      exact qr_zret o rfl (q_dm dm_X12_readsStep 16 rfl)

def f_X12_readsStep_5 (n : Nat) : Nat → Int32 → qM → qR
  | 0, _, _ => none
  | m + 1, a1, M => b_X12_readsStep_5 n (f_X12_readsStep_5 n m) a1 M
theorem w_X12_readsStep_5 {g : qG} {k : qK} (n : Nat) (j r : Nat) (hj : q_isLaw j) (hr : q_isLaw r) (o : qOk g 2 zX12_readsStep k) : ∀ (m : Nat) (a1 : Int32) (M : qM), qAE g k zX12_readsStep (qL j r) 5 [some (.inr (some 77)), some (.inl a1), none] [] (qL j r, M) (f_X12_readsStep_5 n m a1 M) := by
  intro m
  induction m with
  | zero =>
    intro a1 M
    exact qr_none
  | succ m ih =>
    intro a1 M
    exact wb_X12_readsStep_5 n j r hj hr o (f_X12_readsStep_5 n m) ih a1 M
def f_X12_readsStep (n : Nat) (M : qM) : qR :=
  ql (M 77 9) (fun x1 => f_X12_readsStep_5 n n x1 M)
set_option maxRecDepth 4000 in
theorem w_X12_readsStep {g : qG} {k : qK} (n : Nat) (j r : Nat) (hj : q_isLaw j) (hr : q_isLaw r) (o : qOk g 2 zX12_readsStep k) (M : qM) : qAE g k zX12_readsStep (qL j r) 0 [some (.inr (some 77)), none, none] [] (qL j r, M) (f_X12_readsStep n  M) := by
  unfold f_X12_readsStep
  refine qr_aload_n o (q_dm dm_X12_readsStep 0 rfl) rfl ?_
  refine qr_getf (kf := 9) o cf_X12 (sh77 j r) rfl (Nat.le_of_ble_eq_true rfl) fl_X12_169 (q_dm dm_X12_readsStep 1 rfl) ?_
  refine qr_lt (fun x1 => ?_)
  refine qs_istore_n (L' := [some (.inr (some 77)), some (.inl x1), none]) o (q_dm dm_X12_readsStep 2 rfl) (Nat.le_of_ble_eq_true rfl) rfl ?_
  exact qr_loc (q_leS (q_leS (q_leN q_le0))) (w_X12_readsStep_5 n j r hj hr o n x1 M)

theorem a_X12_readsStep (g : qG) (l : Launch) (n : Nat) (j r : Nat) (hj : q_isLaw j) (hr : q_isLaw r) (M : qM) : qAM g l 2 zX12_readsStep (qL j r) [.inr (some 77)] (qL j r, M) (f_X12_readsStep n  M) :=
  qAM.of zv_X12_readsStep.1 (by show 1 ≤ 3; decide) (fun k hk o => w_X12_readsStep n j r hj hr o  M)
