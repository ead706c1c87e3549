def tb_X12_plan : List (Nat × Instr × Nat) := [(0, (.aload_n 0, 1)), (1, (.iload_n 1, 1)), (2, (.invokevirtual 310, 3)), (5, (.ifCond .eq 21, 3)), (8, (.iload_n 2, 1)), (9, (.iconst 1, 1)), (10, (.bipush 80, 2)), (12, (.invokestatic 153, 3)), (15, (.ifCond .eq 11, 3)), (18, (.iload_n 2, 1)), (19, (.aload_n 0, 1)), (20, (.getfield 162, 3)), (23, (.if_icmp .le 5, 3)), (26, (.iconst (-1), 1)), (27, (.ireturn, 1)), (28, (.aload_n 0, 1)), (29, (.iconst 0, 1)), (30, (.putfield 169, 3)), (33, (.aload_n 0, 1)), (34, (.iload_n 2, 1)), (35, (.putfield 172, 3)), (38, (.aload_n 0, 1)), (39, (.iconst 0, 1)), (40, (.putfield 326, 3)), (43, (.aload_n 0, 1)), (44, (.iconst 0, 1)), (45, (.putfield 323, 3)), (48, (.aload_n 0, 1)), (49, (.invokevirtual 332, 3)), (52, (.istore_n 3, 1)), (53, (.iload_n 3, 1)), (54, (.ifCond .eq 46, 3)), (57, (.aload_n 0, 1)), (58, (.getfield 169, 3)), (61, (.aload_n 0, 1)), (62, (.getfield 172, 3)), (65, (.if_icmp .lt 10, 3)), (68, (.aload_n 0, 1)), (69, (.getfield 323, 3)), (72, (.ifCond .le 28, 3)), (75, (.aload_n 0, 1)), (76, (.bipush 44, 2)), (78, (.invokevirtual 259, 3)), (81, (.ifCond .eq 14, 3)), (84, (.aload_n 0, 1)), (85, (.invokevirtual 332, 3)), (88, (.ifCond .eq 7, 3)), (91, (.iconst 1, 1)), (92, (.goto 4, 3)), (95, (.iconst 0, 1)), (96, (.istore_n 3, 1)), (97, (.goto (-44), 3)), (100, (.aload_n 0, 1)), (101, (.iconst 0, 1)), (102, (.putfield 162, 3)), (105, (.iload_n 3, 1)), (106, (.ifCond .ne 8, 3)), (109, (.aload_n 0, 1)), (110, (.getfield 179, 3)), (113, (.ireturn, 1)), (114, (.aload_n 0, 1)), (115, (.getfield 7, 3)), (118, (.sipush 296, 3)), (121, (.iload_n 1, 1)), (122, (.iadd, 1)), (123, (.aload_n 0, 1)), (124, (.getfield 326, 3)), (127, (.iastore, 1)), (128, (.aload_n 0, 1)), (129, (.getfield 7, 3)), (132, (.sipush 304, 3)), (135, (.iload_n 1, 1)), (136, (.iadd, 1)), (137, (.iconst 0, 1)), (138, (.iastore, 1)), (139, (.iconst 0, 1)), (140, (.istore 4, 2)), (142, (.iload 4, 2)), (144, (.aload_n 0, 1)), (145, (.getfield 326, 3)), (148, (.if_icmp .ge 55, 3)), (151, (.aload_n 0, 1)), (152, (.getfield 7, 3)), (155, (.sipush 314, 3)), (158, (.bipush 40, 2)), (160, (.iload_n 1, 1)), (161, (.imul, 1)), (162, (.iadd, 1)), (163, (.iload 4, 2)), (165, (.iadd, 1)), (166, (.aload_n 0, 1)), (167, (.getfield 71, 3)), (170, (.iload 4, 2)), (172, (.iaload, 1)), (173, (.iastore, 1)), (174, (.aload_n 0, 1)), (175, (.getfield 7, 3)), (178, (.sipush 634, 3)), (181, (.bipush 40, 2)), (183, (.iload_n 1, 1)), (184, (.imul, 1)), (185, (.iadd, 1)), (186, (.iload 4, 2)), (188, (.iadd, 1)), (189, (.aload_n 0, 1)), (190, (.getfield 74, 3)), (193, (.iload 4, 2)), (195, (.iaload, 1)), (196, (.iastore, 1)), (197, (.iinc 4 1, 3)), (200, (.goto (-58), 3)), (203, (.aload_n 0, 1)), (204, (.getfield 326, 3)), (207, (.ireturn, 1))]
theorem dm_X12_plan : ∀ q ∈ tb_X12_plan, decode zX12_plan.2.1 q.1 = .ok q.2 := by decide +kernel
def b_X12_plan_142 (n : Nat) (K142 : Int32 → Int32 → qM → qR) (a1 a4 : Int32) (M : qM) : qR :=
  (if (M 77 35) ≤ a4 then some ((M 77 35), M) else qg a4 40 (qg (((314 : Int32) + ((40 : Int32) * a1)) + a4) 954 (qlm (mu M 78 (((314 : Int32) + ((40 : Int32) * a1)) + a4).toNatClampNeg (M 98 a4.toNatClampNeg)) (fun m1 => qg a4 40 (qg (((634 : Int32) + ((40 : Int32) * a1)) + a4) 954 (qlm (mu m1 78 (((634 : Int32) + ((40 : Int32) * a1)) + a4).toNatClampNeg (m1 99 a4.toNatClampNeg)) (fun m2 => ql (a4 + (1 : Int32)) (fun x3 => K142 a1 x3 m2))))))))
set_option maxRecDepth 4000 in
theorem wb_X12_plan_142 {g : qG} {k : qK} (n : Nat) (j r : Nat) (hj : q_isLaw j) (hr : q_isLaw r) (o : qOk g 3 zX12_plan k) (K142 : Int32 → Int32 → qM → qR) (hK142 : ∀ (a1 a4 : Int32) (M : qM), qAE g k zX12_plan (qL j r) 142 [some (.inr (some 77)), some (.inl a1), none, none, some (.inl a4)] [] (qL j r, M) (K142 a1 a4 M)) (a1 a4 : Int32) (M : qM) : qAE g k zX12_plan (qL j r) 142 [some (.inr (some 77)), some (.inl a1), none, none, some (.inl a4)] [] (qL j r, M) (b_X12_plan_142 n K142 a1 a4 M) := by
  unfold b_X12_plan_142
  refine qr_iload o (q_dm dm_X12_plan 77 rfl) rfl ?_
  refine qr_aload_n o (q_dm dm_X12_plan 78 rfl) rfl ?_
  refine qr_getf (kf := 35) o cf_X12 (sh77 j r) rfl (Nat.le_of_ble_eq_true rfl) fl_X12_326 (q_dm dm_X12_plan 79 rfl) ?_
  refine qr_icmp_ge (tgt := 203) o (q_dm dm_X12_plan 80 rfl) (by decide) ?_ ?_
  · refine qr_aload_n o (q_dm dm_X12_plan 111 rfl) rfl ?_
    refine qr_getf (kf := 35) o cf_X12 (sh77 j r) rfl (Nat.le_of_ble_eq_true rfl) fl_X12_326 (q_dm dm_X12_plan 112 rfl) ?_
    exact qr_iret o rfl rfl (q_dm dm_X12_plan 113 rfl)
  · refine qr_aload_n o (q_dm dm_X12_plan 81 rfl) rfl ?_
    refine qr_getr (kf := 0) o cf_X12 (sh77 j r) rfl (Nat.le_of_ble_eq_true rfl) fl_X12_7 (q_dm dm_X12_plan 82 rfl) ?_
    refine qr_sipush o (q_dm dm_X12_plan 83 rfl) si_314 ?_
    refine qr_bipush o (q_dm dm_X12_plan 84 rfl) bi_40 ?_
    refine qr_iload_n o (q_dm dm_X12_plan 85 rfl) rfl ?_
    refine qr_imul o (q_dm dm_X12_plan 86 rfl) ?_
    refine qr_iadd o (q_dm dm_X12_plan 87 rfl) ?_
    refine qr_iload o (q_dm dm_X12_plan 88 rfl) rfl ?_
    refine qr_iadd o (q_dm dm_X12_plan 89 rfl) ?_
    refine qr_aload_n o (q_dm dm_X12_plan 90 rfl) rfl ?_
    refine qr_getr (kf := 31) o cf_X12 (sh77 j r) rfl (Nat.le_of_ble_eq_true rfl) fl_X12_71 (q_dm dm_X12_plan 91 rfl) ?_
    refine qr_iload o (q_dm dm_X12_plan 92 rfl) rfl ?_
    refine qr_iald o (sh98 j r) (q_dm dm_X12_plan 93 rfl) ?_
    refine qr_iast o (sh78 j r) (q_dm dm_X12_plan 94 rfl) ?_
    refine qr_letm (fun m1 => ?_)
    refine qr_aload_n o (q_dm dm_X12_plan 95 rfl) rfl ?_
    refine qr_getr (kf := 0) o cf_X12 (sh77 j r) rfl (Nat.le_of_ble_eq_true rfl) fl_X12_7 (q_dm dm_X12_plan 96 rfl) ?_
    refine qr_sipush o (q_dm dm_X12_plan 97 rfl) si_634 ?_
    refine qr_bipush o (q_dm dm_X12_plan 98 rfl) bi_40 ?_
    refine qr_iload_n o (q_dm dm_X12_plan 99 rfl) rfl ?_
    refine qr_imul o (q_dm dm_X12_plan 100 rfl) ?_
    refine qr_iadd o (q_dm dm_X12_plan 101 rfl) ?_
    refine qr_iload o (q_dm dm_X12_plan 102 rfl) rfl ?_
    refine qr_iadd o (q_dm dm_X12_plan 103 rfl) ?_
    refine qr_aload_n o (q_dm dm_X12_plan 104 rfl) rfl ?_
    refine qr_getr (kf := 32) o cf_X12 (sh77 j r) rfl (Nat.le_of_ble_eq_true rfl) fl_X12_74 (q_dm dm_X12_plan 105 rfl) ?_
    refine qr_iload o (q_dm dm_X12_plan 106 rfl) rfl ?_
    refine qr_iald o (sh99 j r) (q_dm dm_X12_plan 107 rfl) ?_
    refine qr_iast o (sh78 j r) (q_dm dm_X12_plan 108 rfl) ?_
    refine qr_letm (fun m2 => ?_)
    refine qs_iincl2 (L' := fun x3 => [some (.inr (some 77)), some (.inl a1), none, none, some (.inl x3)]) o (q_dm dm_X12_plan 109 rfl) rfl ic_1 (Nat.le_of_ble_eq_true rfl) (fun _ => rfl) (fun x3 => ?_)
    refine qr_goto (tgt := 142) o (q_dm dm_X12_plan 110 rfl) (by decide) ?_
    exact qr_loc (q_leS (q_leS (q_leN (q_leN (q_leS q_le0))))) (hK142 a1 x3 m2)

def f_X12_plan_142 (n : Nat) : Nat → Int32 → Int32 → qM → qR
  | 0, _, _, _ => none
  | m + 1, a1, a4, M => b_X12_plan_142 n (f_X12_plan_142 n m) a1 a4 M
theorem w_X12_plan_142 {g : qG} {k : qK} (n : Nat) (j r : Nat) (hj : q_isLaw j) (hr : q_isLaw r) (o : qOk g 3 zX12_plan k) : ∀ (m : Nat) (a1 a4 : Int32) (M : qM), qAE g k zX12_plan (qL j r) 142 [some (.inr (some 77)), some (.inl a1), none, none, some (.inl a4)] [] (qL j r, M) (f_X12_plan_142 n m a1 a4 M) := by
  intro m
  induction m with
  | zero =>
    intro a1 a4 M
    exact qr_none
  | succ m ih =>
    intro a1 a4 M
    exact wb_X12_plan_142 n j r hj hr o (f_X12_plan_142 n m) ih a1 a4 M
def f_X12_plan_100 (n : Nat) (a1 a3 : Int32) (M : qM) : qR :=
  qlm (mu M 77 8 (0 : Int32)) (fun m1 => (if a3 = (0 : Int32) then some ((m1 77 11), m1) else qg ((296 : Int32) + a1) 954 (qlm (mu m1 78 ((296 : Int32) + a1).toNatClampNeg (m1 77 35)) (fun m2 => qg ((304 : Int32) + a1) 954 (qlm (mu m2 78 ((304 : Int32) + a1).toNatClampNeg (0 : Int32)) (fun m3 => f_X12_plan_142 n n a1 (0 : Int32) m3))))))
set_option maxRecDepth 4000 in
theorem w_X12_plan_100 {g : qG} {k : qK} (n : Nat) (j r : Nat) (hj : q_isLaw j) (hr : q_isLaw r) (o : qOk g 3 zX12_plan k) (a1 a3 : Int32) (M : qM) : qAE g k zX12_plan (qL j r) 100 [some (.inr (some 77)), some (.inl a1), none, some (.inl a3), none] [] (qL j r, M) (f_X12_plan_100 n a1 a3 M) := by
  unfold f_X12_plan_100
  refine qr_aload_n o (q_dm dm_X12_plan 52 rfl) rfl ?_
  refine qr_iconst o (q_dm dm_X12_plan 53 rfl) ic_0 ?_
  refine qr_putf (kf := 8) o cf_X12 (sh77 j r) rfl (Nat.le_of_ble_eq_true rfl) fl_X12_162 rfl (by decide +kernel) (q_dm dm_X12_plan 54 rfl) ?_
  refine qr_letm (fun m1 => ?_)
  refine qr_iload_n o (q_dm dm_X12_plan 55 rfl) rfl ?_
  refine qr_if_ne (tgt := 114) o (q_dm dm_X12_plan 56 rfl) (by decide) ?_ ?_
  · refine qr_aload_n o (q_dm dm_X12_plan 60 rfl) rfl ?_
    refine qr_getr (kf := 0) o cf_X12 (sh77 j r) rfl (Nat.le_of_ble_eq_true rfl) fl_X12_7 (q_dm dm_X12_plan 61 rfl) ?_
    refine qr_sipush o (q_dm dm_X12_plan 62 rfl) si_296 ?_
    refine qr_iload_n o (q_dm dm_X12_plan 63 rfl) rfl ?_
    refine qr_iadd o (q_dm dm_X12_plan 64 rfl) ?_
    refine qr_aload_n o (q_dm dm_X12_plan 65 rfl) rfl ?_
    refine qr_getf (kf := 35) o cf_X12 (sh77 j r) rfl (Nat.le_of_ble_eq_true rfl) fl_X12_326 (q_dm dm_X12_plan 66 rfl) ?_
    refine qr_iast o (sh78 j r) (q_dm dm_X12_plan 67 rfl) ?_
    refine qr_letm (fun m2 => ?_)
    refine qr_aload_n o (q_dm dm_X12_plan 68 rfl) rfl ?_
    refine qr_getr (kf := 0) o cf_X12 (sh77 j r) rfl (Nat.le_of_ble_eq_true rfl) fl_X12_7 (q_dm dm_X12_plan 69 rfl) ?_
    refine qr_sipush o (q_dm dm_X12_plan 70 rfl) si_304 ?_
    refine qr_iload_n o (q_dm dm_X12_plan 71 rfl) rfl ?_
    refine qr_iadd o (q_dm dm_X12_plan 72 rfl) ?_
    refine qr_iconst o (q_dm dm_X12_plan 73 rfl) ic_0 ?_
    refine qr_iast o (sh78 j r) (q_dm dm_X12_plan 74 rfl) ?_
    refine qr_letm (fun m3 => ?_)
    refine qr_iconst o (q_dm dm_X12_plan 75 rfl) ic_0 ?_
    refine qs_istore (L' := [some (.inr (some 77)), some (.inl a1), none, some (.inl a3), some (.inl (0 : Int32))]) o (q_dm dm_X12_plan 76 rfl) (Nat.le_of_ble_eq_true rfl) rfl ?_
    exact qr_loc (q_leS (q_leS (q_leN (q_leN (q_leS q_le0))))) (w_X12_plan_142 n j r hj hr o n a1 (0 : Int32) m3)
  · refine qr_aload_n o (q_dm dm_X12_plan 57 rfl) rfl ?_
    refine qr_getf (kf := 11) o cf_X12 (sh77 j r) rfl (Nat.le_of_ble_eq_true rfl) fl_X12_179 (q_dm dm_X12_plan 58 rfl) ?_
    exact qr_iret o rfl rfl (q_dm dm_X12_plan 59 rfl)

def f_X12_plan_75 (n : Nat) (K53 : Int32 → Int32 → qM → qR) (a1 : Int32) (M : qM) : qR :=
  qc (f_X12_takes n (44 : Int32) M) (fun r1 m2 => (if r1 = (0 : Int32) then K53 a1 (0 : Int32) m2 else qc (f_X12_readsStep n  m2) (fun r3 m4 => (if r3 = (0 : Int32) then K53 a1 (0 : Int32) m4 else K53 a1 (1 : Int32) m4))))
set_option maxRecDepth 4000 in
theorem w_X12_plan_75 {g : qG} {k : qK} (n : Nat) (j r : Nat) (hj : q_isLaw j) (hr : q_isLaw r) (o : qOk g 3 zX12_plan k) (K53 : Int32 → Int32 → qM → qR) (hK53 : ∀ (a1 a3 : Int32) (M : qM), qAE g k zX12_plan (qL j r) 53 [some (.inr (some 77)), some (.inl a1), none, some (.inl a3), none] [] (qL j r, M) (K53 a1 a3 M)) (a1 : Int32) (M : qM) : qAE g k zX12_plan (qL j r) 75 [some (.inr (some 77)), some (.inl a1), none, none, none] [] (qL j r, M) (f_X12_plan_75 n K53 a1 M) := by
  unfold f_X12_plan_75
  refine qr_aload_n o (q_dm dm_X12_plan 40 rfl) rfl ?_
  refine qr_bipush o (q_dm dm_X12_plan 41 rfl) bi_44 ?_
  refine qr_callv_i (As := [.inl (44 : Int32)]) (S := []) o (a_X12_takes g k.2.1 n j r hj hr (44 : Int32) M) (Nat.le_of_ble_eq_true rfl) zv_X12_takes rfl cf_X12 (sh77 j r) ml_X12_259 (Nat.le_of_ble_eq_true rfl) (q_dm dm_X12_plan 42 rfl) (fun r1 m2 => ?_)
  refine qr_if_eq (tgt := 95) o (q_dm dm_X12_plan 43 rfl) (by decide) ?_ ?_
  · refine qr_iconst o (q_dm dm_X12_plan 49 rfl) ic_0 ?_
    refine qs_istore_n (L' := [some (.inr (some 77)), some (.inl a1), none, some (.inl (0 : Int32)), none]) o (q_dm dm_X12_plan 50 rfl) (Nat.le_of_ble_eq_true rfl) rfl ?_
    refine qr_goto (tgt := 53) o (q_dm dm_X12_plan 51 rfl) (by decide) ?_
    exact qr_loc (q_leS (q_leS (q_leN (q_leS (q_leN q_le0))))) (hK53 a1 (0 : Int32) m2)
  · refine qr_aload_n o (q_dm dm_X12_plan 44 rfl) rfl ?_
    refine qr_callv_i (As := []) (S := []) o (a_X12_readsStep g k.2.1 n j r hj hr  m2) (Nat.le_of_ble_eq_true rfl) zv_X12_readsStep rfl cf_X12 (sh77 j r) ml_X12_332 (Nat.le_of_ble_eq_true rfl) (q_dm dm_X12_plan 45 rfl) (fun r3 m4 => ?_)
    refine qr_if_eq (tgt := 95) o (q_dm dm_X12_plan 46 rfl) (by decide) ?_ ?_
    · refine qr_iconst o (q_dm dm_X12_plan 49 rfl) ic_0 ?_
      refine qs_istore_n (L' := [some (.inr (some 77)), some (.inl a1), none, some (.inl (0 : Int32)), none]) o (q_dm dm_X12_plan 50 rfl) (Nat.le_of_ble_eq_true rfl) rfl ?_
      refine qr_goto (tgt := 53) o (q_dm dm_X12_plan 51 rfl) (by decide) ?_
      exact qr_loc (q_leS (q_leS (q_leN (q_leS (q_leN q_le0))))) (hK53 a1 (0 : Int32) m4)
    · refine qr_iconst o (q_dm dm_X12_plan 47 rfl) ic_1 ?_
      refine qr_goto (tgt := 96) o (q_dm dm_X12_plan 48 rfl) (by decide) ?_
      refine qs_istore_n (L' := [some (.inr (some 77)), some (.inl a1), none, some (.inl (1 : Int32)), none]) o (q_dm dm_X12_plan 50 rfl) (Nat.le_of_ble_eq_true rfl) rfl ?_
      refine qr_goto (tgt := 53) o (q_dm dm_X12_plan 51 rfl) (by decide) ?_
      exact qr_loc (q_leS (q_leS (q_leN (q_leS (q_leN q_le0))))) (hK53 a1 (1 : Int32) m4)

def b_X12_plan_53 (n : Nat) (K53 : Int32 → Int32 → qM → qR) (a1 a3 : Int32) (M : qM) : qR :=
  (if a3 = (0 : Int32) then f_X12_plan_100 n a1 a3 M else (if (M 77 9) < (M 77 10) then f_X12_plan_75 n K53 a1 M else (if (M 77 36) ≤ (0 : Int32) then f_X12_plan_100 n a1 a3 M else f_X12_plan_75 n K53 a1 M)))
set_option maxRecDepth 4000 in
theorem wb_X12_plan_53 {g : qG} {k : qK} (n : Nat) (j r : Nat) (hj : q_isLaw j) (hr : q_isLaw r) (o : qOk g 3 zX12_plan k) (K53 : Int32 → Int32 → qM → qR) (hK53 : ∀ (a1 a3 : Int32) (M : qM), qAE g k zX12_plan (qL j r) 53 [some (.inr (some 77)), some (.inl a1), none, some (.inl a3), none] [] (qL j r, M) (K53 a1 a3 M)) (a1 a3 : Int32) (M : qM) : qAE g k zX12_plan (qL j r) 53 [some (.inr (some 77)), some (.inl a1), none, some (.inl a3), none] [] (qL j r, M) (b_X12_plan_53 n K53 a1 a3 M) := by
  unfold b_X12_plan_53
  refine qr_iload_n o (q_dm dm_X12_plan 30 rfl) rfl ?_
  refine qr_if_eq (tgt := 100) o (q_dm dm_X12_plan 31 rfl) (by decide) ?_ ?_
  · exact qr_loc (q_leS (q_leS (q_leN (q_leS (q_leN q_le0))))) (w_X12_plan_100 n j r hj hr o a1 a3 M)
  · refine qr_aload_n o (q_dm dm_X12_plan 32 rfl) rfl ?_
    refine qr_getf (kf := 9) o cf_X12 (sh77 j r) rfl (Nat.le_of_ble_eq_true rfl) fl_X12_169 (q_dm dm_X12_plan 33 rfl) ?_
    refine qr_aload_n o (q_dm dm_X12_plan 34 rfl) rfl ?_
    refine qr_getf (kf := 10) o cf_X12 (sh77 j r) rfl (Nat.le_of_ble_eq_true rfl) fl_X12_172 (q_dm dm_X12_plan 35 rfl) ?_
    refine qr_icmp_lt (tgt := 75) o (q_dm dm_X12_plan 36 rfl) (by decide) ?_ ?_
    · exact qr_loc (q_leS (q_leS (q_leN (q_leN (q_leN q_le0))))) (w_X12_plan_75 n j r hj hr o K53 hK53 a1 M)
    · refine qr_aload_n o (q_dm dm_X12_plan 37 rfl) rfl ?_
      refine qr_getf (kf := 36) o cf_X12 (sh77 j r) rfl (Nat.le_of_ble_eq_true rfl) fl_X12_323 (q_dm dm_X12_plan 38 rfl) ?_
      refine qr_if_le (tgt := 100) o (q_dm dm_X12_plan 39 rfl) (by decide) ?_ ?_
      · exact qr_loc (q_leS (q_leS (q_leN (q_leS (q_leN q_le0))))) (w_X12_plan_100 n j r hj hr o a1 a3 M)
      · exact qr_loc (q_leS (q_leS (q_leN (q_leN (q_leN q_le0))))) (w_X12_plan_75 n j r hj hr o K53 hK53 a1 M)

def f_X12_plan_53 (n : Nat) : Nat → Int32 → Int32 → qM → qR
  | 0, _, _, _ => none
  | m + 1, a1, a3, M => b_X12_plan_53 n (f_X12_plan_53 n m) a1 a3 M
theorem w_X12_plan_53 {g : qG} {k : qK} (n : Nat) (j r : Nat) (hj : q_isLaw j) (hr : q_isLaw r) (o : qOk g 3 zX12_plan k) : ∀ (m : Nat) (a1 a3 : Int32) (M : qM), qAE g k zX12_plan (qL j r) 53 [some (.inr (some 77)), some (.inl a1), none, some (.inl a3), none] [] (qL j r, M) (f_X12_plan_53 n m a1 a3 M) := by
  intro m
  induction m with
  | zero =>
    intro a1 a3 M
    exact qr_none
  | succ m ih =>
    intro a1 a3 M
    exact wb_X12_plan_53 n j r hj hr o (f_X12_plan_53 n m) ih a1 a3 M
def f_X12_plan (n : Nat) (a1 a2 : Int32) (M : qM) : qR :=
  qc (f_X12_isPerson n a1 M) (fun r1 m2 => (if r1 = (0 : Int32) then some ((-1 : Int32), m2) else qc (f_X12_in n a2 (1 : Int32) (80 : Int32) m2) (fun r3 m4 => (if r3 = (0 : Int32) then some ((-1 : Int32), m4) else (if a2 ≤ (m4 77 8) then qlm (mu m4 77 9 (0 : Int32)) (fun m5 => qlm (mu m5 77 10 a2) (fun m6 => qlm (mu m6 77 35 (0 : Int32)) (fun m7 => qlm (mu m7 77 36 (0 : Int32)) (fun m8 => qc (f_X12_readsStep n  m8) (fun r9 m10 => f_X12_plan_53 n n a1 r9 m10))))) else some ((-1 : Int32), m4))))))
set_option maxRecDepth 4000 in
theorem w_X12_plan {g : qG} {k : qK} (n : Nat) (j r : Nat) (hj : q_isLaw j) (hr : q_isLaw r) (o : qOk g 3 zX12_plan k) (a1 a2 : Int32) (M : qM) : qAE g k zX12_plan (qL j r) 0 [some (.inr (some 77)), some (.inl a1), some (.inl a2), none, none] [] (qL j r, M) (f_X12_plan n a1 a2 M) := by
  unfold f_X12_plan
  refine qr_aload_n o (q_dm dm_X12_plan 0 rfl) rfl ?_
  refine qr_iload_n o (q_dm dm_X12_plan 1 rfl) rfl ?_
  refine qr_callv_i (As := [.inl a1]) (S := []) o (a_X12_isPerson g k.2.1 n j r hj hr a1 M) (Nat.le_of_ble_eq_true rfl) zv_X12_isPerson rfl cf_X12 (sh77 j r) ml_X12_310 (Nat.le_of_ble_eq_true rfl) (q_dm dm_X12_plan 2 rfl) (fun r1 m2 => ?_)
  refine qr_if_eq (tgt := 26) o (q_dm dm_X12_plan 3 rfl) (by decide) ?_ ?_
  · refine qr_iconst o (q_dm dm_X12_plan 13 rfl) ic_m1 ?_
    exact qr_iret o rfl rfl (q_dm dm_X12_plan 14 rfl)
  · refine qr_iload_n o (q_dm dm_X12_plan 4 rfl) rfl ?_
    refine qr_iconst o (q_dm dm_X12_plan 5 rfl) ic_1 ?_
    refine qr_bipush o (q_dm dm_X12_plan 6 rfl) bi_80 ?_
    refine qr_calls_i (As := [.inl a2, .inl (1 : Int32), .inl (80 : Int32)]) (S := []) o (a_X12_in g k.2.1 n j r hj hr a2 (1 : Int32) (80 : Int32) m2) (Nat.le_of_ble_eq_true rfl) zs_X12_in rfl ml_X12_153 (Nat.le_of_ble_eq_true rfl) (q_dm dm_X12_plan 7 rfl) (fun r3 m4 => ?_)
    refine qr_if_eq (tgt := 26) o (q_dm dm_X12_plan 8 rfl) (by decide) ?_ ?_
    · refine qr_iconst o (q_dm dm_X12_plan 13 rfl) ic_m1 ?_
      exact qr_iret o rfl rfl (q_dm dm_X12_plan 14 rfl)
    · refine qr_iload_n o (q_dm dm_X12_plan 9 rfl) rfl ?_
      refine qr_aload_n o (q_dm dm_X12_plan 10 rfl) rfl ?_
      refine qr_getf (kf := 8) o cf_X12 (sh77 j r) rfl (Nat.le_of_ble_eq_true rfl) fl_X12_162 (q_dm dm_X12_plan 11 rfl) ?_
      refine qr_icmp_le (tgt := 28) o (q_dm dm_X12_plan 12 rfl) (by decide) ?_ ?_
      · refine qr_aload_n o (q_dm dm_X12_plan 15 rfl) rfl ?_
        refine qr_iconst o (q_dm dm_X12_plan 16 rfl) ic_0 ?_
        refine qr_putf (kf := 9) o cf_X12 (sh77 j r) rfl (Nat.le_of_ble_eq_true rfl) fl_X12_169 rfl (by decide +kernel) (q_dm dm_X12_plan 17 rfl) ?_
        refine qr_letm (fun m5 => ?_)
        refine qr_aload_n o (q_dm dm_X12_plan 18 rfl) rfl ?_
        refine qr_iload_n o (q_dm dm_X12_plan 19 rfl) rfl ?_
        refine qr_putf (kf := 10) o cf_X12 (sh77 j r) rfl (Nat.le_of_ble_eq_true rfl) fl_X12_172 rfl (by decide +kernel) (q_dm dm_X12_plan 20 rfl) ?_
        refine qr_letm (fun m6 => ?_)
        refine qr_aload_n o (q_dm dm_X12_plan 21 rfl) rfl ?_
        refine qr_iconst o (q_dm dm_X12_plan 22 rfl) ic_0 ?_
        refine qr_putf (kf := 35) o cf_X12 (sh77 j r) rfl (Nat.le_of_ble_eq_true rfl) fl_X12_326 rfl (by decide +kernel) (q_dm dm_X12_plan 23 rfl) ?_
        refine qr_letm (fun m7 => ?_)
        refine qr_aload_n o (q_dm dm_X12_plan 24 rfl) rfl ?_
        refine qr_iconst o (q_dm dm_X12_plan 25 rfl) ic_0 ?_
        refine qr_putf (kf := 36) o cf_X12 (sh77 j r) rfl (Nat.le_of_ble_eq_true rfl) fl_X12_323 rfl (by decide +kernel) (q_dm dm_X12_plan 26 rfl) ?_
        refine qr_letm (fun m8 => ?_)
        refine qr_aload_n o (q_dm dm_X12_plan 27 rfl) rfl ?_
        refine qr_callv_i (As := []) (S := []) o (a_X12_readsStep g k.2.1 n j r hj hr  m8) (Nat.le_of_ble_eq_true rfl) zv_X12_readsStep rfl cf_X12 (sh77 j r) ml_X12_332 (Nat.le_of_ble_eq_true rfl) (q_dm dm_X12_plan 28 rfl) (fun r9 m10 => ?_)
        refine qs_istore_n (L' := [some (.inr (some 77)), some (.inl a1), some (.inl a2), some (.inl r9), none]) o (q_dm dm_X12_plan 29 rfl) (Nat.le_of_ble_eq_true rfl) rfl ?_
        exact qr_loc (q_leS (q_leS (q_leN (q_leS (q_leN q_le0))))) (w_X12_plan_53 n j r hj hr o n a1 r9 m10)
      · refine qr_iconst o (q_dm dm_X12_plan 13 rfl) ic_m1 ?_
        exact qr_iret o rfl rfl (q_dm dm_X12_plan 14 rfl)

theorem a_X12_plan (g : qG) (l : Launch) (n : Nat) (j r : Nat) (hj : q_isLaw j) (hr : q_isLaw r) (a1 a2 : Int32) (M : qM) : qAM g l 3 zX12_plan (qL j r) [.inr (some 77), .inl a1, .inl a2] (qL j r, M) (f_X12_plan n a1 a2 M) :=
  qAM.of zv_X12_plan.1 (by show 3 ≤ 5; decide) (fun k hk o => w_X12_plan n j r hj hr o a1 a2 M)
def tb_X12_rivals : List (Nat × Instr × Nat) := [(0, (.iload_n 1, 1)), (1, (.iconst 0, 1)), (2, (.sipush 999, 3)), (5, (.invokestatic 153, 3)), (8, (.ifCond .eq 23, 3)), (11, (.iload_n 2, 1)), (12, (.iconst 0, 1)), (13, (.sipush 999, 3)), (16, (.invokestatic 153, 3)), (19, (.ifCond .eq 12, 3)), (22, (.iload_n 3, 1)), (23, (.iconst 0, 1)), (24, (.iconst 1, 1)), (25, (.invokestatic 153, 3)), (28, (.ifCond .ne 5, 3)), (31, (.iconst (-1), 1)), (32, (.ireturn, 1)), (33, (.iconst 0, 1)), (34, (.istore 4, 2)), (36, (.bipush (-2), 2)), (38, (.istore 5, 2)), (40, (.iconst 0, 1)), (41, (.istore 6, 2)), (43, (.iload 6, 2)), (45, (.iconst 4, 1)), (46, (.if_icmp .ge 74, 3)), (49, (.iload 6, 2)), (51, (.iconst 1, 1)), (52, (.ixor, 1)), (53, (.iconst 0, 1)), (54, (.iload_n 1, 1)), (55, (.iload_n 2, 1)), (56, (.invokestatic 450, 3)), (59, (.iload 6, 2)), (61, (.iconst 0, 1)), (62, (.iload_n 1, 1)), (63, (.iload_n 2, 1)), (64, (.invokestatic 450, 3)), (67, (.if_icmp .gt 47, 3)), (70, (.iload 6, 2)), (72, (.iconst 2, 1)), (73, (.ixor, 1)), (74, (.iconst 1, 1)), (75, (.iload_n 1, 1)), (76, (.iload_n 2, 1)), (77, (.invokestatic 450, 3)), (80, (.iload 6, 2)), (82, (.iconst 1, 1)), (83, (.iload_n 1, 1)), (84, (.iload_n 2, 1)), (85, (.invokestatic 450, 3)), (88, (.if_icmp .le 6, 3)), (91, (.goto 23, 3)), (94, (.iload 4, 2)), (96, (.ifCond .ne 8, 3)), (99, (.iload 6, 2)), (101, (.goto 5, 3)), (104, (.iload 5, 2)), (106, (.istore 5, 2)), (108, (.iload 4, 2)), (110, (.iconst 1, 1)), (111, (.iadd, 1)), (112, (.istore 4, 2)), (114, (.iinc 6 1, 3)), (117, (.goto (-74), 3)), (120, (.iload_n 3, 1)), (121, (.ifCond .ne 8, 3)), (124, (.iload 4, 2)), (126, (.goto 5, 3)), (129, (.iload 5, 2)), (131, (.ireturn, 1))]
theorem dm_X12_rivals : ∀ q ∈ tb_X12_rivals, decode zX12_rivals.2.1 q.1 = .ok q.2 := by decide +kernel
def f_X12_rivals_106 (n : Nat) (K43 : Int32 → Int32 → Int32 → Int32 → Int32 → Int32 → qM → qR) (a1 a2 a3 a4 a6 s0 : Int32) (M : qM) : qR :=
  ql (a4 + (1 : Int32)) (fun x1 => ql (a6 + (1 : Int32)) (fun x2 => K43 a1 a2 a3 x1 s0 x2 M))
set_option maxRecDepth 4000 in
theorem w_X12_rivals_106 {g : qG} {k : qK} (n : Nat) (j r : Nat) (hj : q_isLaw j) (hr : q_isLaw r) (o : qOk g 2 zX12_rivals k) (K43 : Int32 → Int32 → Int32 → Int32 → Int32 → Int32 → qM → qR) (hK43 : ∀ (a1 a2 a3 a4 a5 a6 : Int32) (M : qM), qAE g k zX12_rivals (qL j r) 43 [none, some (.inl a1), some (.inl a2), some (.inl a3), some (.inl a4), some (.inl a5), some (.inl a6)] [] (qL j r, M) (K43 a1 a2 a3 a4 a5 a6 M)) (a1 a2 a3 a4 a6 s0 : Int32) (M : qM) : qAE g k zX12_rivals (qL j r) 106 [none, some (.inl a1), some (.inl a2), some (.inl a3), some (.inl a4), none, some (.inl a6)] [.inl s0] (qL j r, M) (f_X12_rivals_106 n K43 a1 a2 a3 a4 a6 s0 M) := by
  unfold f_X12_rivals_106
  refine qs_istore (L' := [none, some (.inl a1), some (.inl a2), some (.inl a3), some (.inl a4), some (.inl s0), some (.inl a6)]) o (q_dm dm_X12_rivals 58 rfl) (Nat.le_of_ble_eq_true rfl) rfl ?_
  refine qr_iload o (q_dm dm_X12_rivals 59 rfl) rfl ?_
  refine qr_iconst o (q_dm dm_X12_rivals 60 rfl) ic_1 ?_
  refine qr_iadd o (q_dm dm_X12_rivals 61 rfl) ?_
  refine qr_lt (fun x1 => ?_)
  refine qs_istore (L' := [none, some (.inl a1), some (.inl a2), some (.inl a3), some (.inl x1), some (.inl s0), some (.inl a6)]) o (q_dm dm_X12_rivals 62 rfl) (Nat.le_of_ble_eq_true rfl) rfl ?_
  refine qs_iincl2 (L' := fun x2 => [none, some (.inl a1), some (.inl a2), some (.inl a3), some (.inl x1), some (.inl s0), some (.inl x2)]) o (q_dm dm_X12_rivals 63 rfl) rfl ic_1 (Nat.le_of_ble_eq_true rfl) (fun _ => rfl) (fun x2 => ?_)
  refine qr_goto (tgt := 43) o (q_dm dm_X12_rivals 64 rfl) (by decide) ?_
  exact qr_loc (q_leN (q_leS (q_leS (q_leS (q_leS (q_leS (q_leS q_le0))))))) (hK43 a1 a2 a3 x1 s0 x2 M)

def b_X12_rivals_43 (n : Nat) (K43 : Int32 → Int32 → Int32 → Int32 → Int32 → Int32 → qM → qR) (a1 a2 a3 a4 a5 a6 : Int32) (M : qM) : qR :=
  (if (4 : Int32) ≤ a6 then (if a3 = (0 : Int32) then some (a4, M) else some (a5, M)) else qc (f_X12_gainOf n (a6 ^^^ (1 : Int32)) (0 : Int32) a1 a2 M) (fun r1 m2 => qc (f_X12_gainOf n a6 (0 : Int32) a1 a2 m2) (fun r3 m4 => (if r3 < r1 then ql (a6 + (1 : Int32)) (fun x5 => K43 a1 a2 a3 a4 a5 x5 m4) else qc (f_X12_gainOf n (a6 ^^^ (2 : Int32)) (1 : Int32) a1 a2 m4) (fun r6 m7 => qc (f_X12_gainOf n a6 (1 : Int32) a1 a2 m7) (fun r8 m9 => (if r6 ≤ r8 then (if a4 = (0 : Int32) then f_X12_rivals_106 n K43 a1 a2 a3 a4 a6 a6 m9 else f_X12_rivals_106 n K43 a1 a2 a3 a4 a6 a5 m9) else ql (a6 + (1 : Int32)) (fun x10 => K43 a1 a2 a3 a4 a5 x10 m9))))))))
set_option maxRecDepth 4000 in
theorem wb_X12_rivals_43 {g : qG} {k : qK} (n : Nat) (j r : Nat) (hj : q_isLaw j) (hr : q_isLaw r) (o : qOk g 2 zX12_rivals k) (K43 : Int32 → Int32 → Int32 → Int32 → Int32 → Int32 → qM → qR) (hK43 : ∀ (a1 a2 a3 a4 a5 a6 : Int32) (M : qM), qAE g k zX12_rivals (qL j r) 43 [none, some (.inl a1), some (.inl a2), some (.inl a3), some (.inl a4), some (.inl a5), some (.inl a6)] [] (qL j r, M) (K43 a1 a2 a3 a4 a5 a6 M)) (a1 a2 a3 a4 a5 a6 : Int32) (M : qM) : qAE g k zX12_rivals (qL j r) 43 [none, some (.inl a1), some (.inl a2), some (.inl a3), some (.inl a4), some (.inl a5), some (.inl a6)] [] (qL j r, M) (b_X12_rivals_43 n K43 a1 a2 a3 a4 a5 a6 M) := by
  unfold b_X12_rivals_43
  refine qr_iload o (q_dm dm_X12_rivals 23 rfl) rfl ?_
  refine qr_iconst o (q_dm dm_X12_rivals 24 rfl) ic_4 ?_
  refine qr_icmp_ge (tgt := 120) o (q_dm dm_X12_rivals 25 rfl) (by decide) ?_ ?_
  · refine qr_iload_n o (q_dm dm_X12_rivals 65 rfl) rfl ?_
    refine qr_if_ne (tgt := 129) o (q_dm dm_X12_rivals 66 rfl) (by decide) ?_ ?_
    · refine qr_iload o (q_dm dm_X12_rivals 69 rfl) rfl ?_
      exact qr_iret o rfl rfl (q_dm dm_X12_rivals 70 rfl)
    · refine qr_iload o (q_dm dm_X12_rivals 67 rfl) rfl ?_
      refine qr_goto (tgt := 131) o (q_dm dm_X12_rivals 68 rfl) (by decide) ?_
      exact qr_iret o rfl rfl (q_dm dm_X12_rivals 70 rfl)
  · refine qr_iload o (q_dm dm_X12_rivals 26 rfl) rfl ?_
    refine qr_iconst o (q_dm dm_X12_rivals 27 rfl) ic_1 ?_
    refine qr_ixor o (q_dm dm_X12_rivals 28 rfl) ?_
    refine qr_iconst o (q_dm dm_X12_rivals 29 rfl) ic_0 ?_
    refine qr_iload_n o (q_dm dm_X12_rivals 30 rfl) rfl ?_
    refine qr_iload_n o (q_dm dm_X12_rivals 31 rfl) rfl ?_
    refine qr_calls_i (As := [.inl (a6 ^^^ (1 : Int32)), .inl (0 : Int32), .inl a1, .inl a2]) (S := []) o (a_X12_gainOf g k.2.1 n j r hj hr (a6 ^^^ (1 : Int32)) (0 : Int32) a1 a2 M) (Nat.le_of_ble_eq_true rfl) zs_X12_gainOf rfl ml_X12_450 (Nat.le_of_ble_eq_true rfl) (q_dm dm_X12_rivals 32 rfl) (fun r1 m2 => ?_)
    refine qr_iload o (q_dm dm_X12_rivals 33 rfl) rfl ?_
    refine qr_iconst o (q_dm dm_X12_rivals 34 rfl) ic_0 ?_
    refine qr_iload_n o (q_dm dm_X12_rivals 35 rfl) rfl ?_
    refine qr_iload_n o (q_dm dm_X12_rivals 36 rfl) rfl ?_
    refine qr_calls_i (As := [.inl a6, .inl (0 : Int32), .inl a1, .inl a2]) (S := [.inl r1]) o (a_X12_gainOf g k.2.1 n j r hj hr a6 (0 : Int32) a1 a2 m2) (Nat.le_of_ble_eq_true rfl) zs_X12_gainOf rfl ml_X12_450 (Nat.le_of_ble_eq_true rfl) (q_dm dm_X12_rivals 37 rfl) (fun r3 m4 => ?_)
    refine qr_icmp_gt (tgt := 114) o (q_dm dm_X12_rivals 38 rfl) (by decide) ?_ ?_
    · refine qs_iincl2 (L' := fun x5 => [none, some (.inl a1), some (.inl a2), some (.inl a3), some (.inl a4), some (.inl a5), some (.inl x5)]) o (q_dm dm_X12_rivals 63 rfl) rfl ic_1 (Nat.le_of_ble_eq_true rfl) (fun _ => rfl) (fun x5 => ?_)
      refine qr_goto (tgt := 43) o (q_dm dm_X12_rivals 64 rfl) (by decide) ?_
      exact qr_loc (q_leN (q_leS (q_leS (q_leS (q_leS (q_leS (q_leS q_le0))))))) (hK43 a1 a2 a3 a4 a5 x5 m4)
    · refine qr_iload o (q_dm dm_X12_rivals 39 rfl) rfl ?_
      refine qr_iconst o (q_dm dm_X12_rivals 40 rfl) ic_2 ?_
      refine qr_ixor o (q_dm dm_X12_rivals 41 rfl) ?_
      refine qr_iconst o (q_dm dm_X12_rivals 42 rfl) ic_1 ?_
      refine qr_iload_n o (q_dm dm_X12_rivals 43 rfl) rfl ?_
      refine qr_iload_n o (q_dm dm_X12_rivals 44 rfl) rfl ?_
      refine qr_calls_i (As := [.inl (a6 ^^^ (2 : Int32)), .inl (1 : Int32), .inl a1, .inl a2]) (S := []) o (a_X12_gainOf g k.2.1 n j r hj hr (a6 ^^^ (2 : Int32)) (1 : Int32) a1 a2 m4) (Nat.le_of_ble_eq_true rfl) zs_X12_gainOf rfl ml_X12_450 (Nat.le_of_ble_eq_true rfl) (q_dm dm_X12_rivals 45 rfl) (fun r6 m7 => ?_)
      refine qr_iload o (q_dm dm_X12_rivals 46 rfl) rfl ?_
      refine qr_iconst o (q_dm dm_X12_rivals 47 rfl) ic_1 ?_
      refine qr_iload_n o (q_dm dm_X12_rivals 48 rfl) rfl ?_
      refine qr_iload_n o (q_dm dm_X12_rivals 49 rfl) rfl ?_
      refine qr_calls_i (As := [.inl a6, .inl (1 : Int32), .inl a1, .inl a2]) (S := [.inl r6]) o (a_X12_gainOf g k.2.1 n j r hj hr a6 (1 : Int32) a1 a2 m7) (Nat.le_of_ble_eq_true rfl) zs_X12_gainOf rfl ml_X12_450 (Nat.le_of_ble_eq_true rfl) (q_dm dm_X12_rivals 50 rfl) (fun r8 m9 => ?_)
      refine qr_icmp_le (tgt := 94) o (q_dm dm_X12_rivals 51 rfl) (by decide) ?_ ?_
      · refine qr_iload o (q_dm dm_X12_rivals 53 rfl) rfl ?_
        refine qr_if_ne (tgt := 104) o (q_dm dm_X12_rivals 54 rfl) (by decide) ?_ ?_
        · refine qr_iload o (q_dm dm_X12_rivals 57 rfl) rfl ?_
          exact qr_loc (q_leN (q_leS (q_leS (q_leS (q_leS (q_leN (q_leS q_le0))))))) (w_X12_rivals_106 n j r hj hr o K43 hK43 a1 a2 a3 a4 a6 a5 m9)
        · refine qr_iload o (q_dm dm_X12_rivals 55 rfl) rfl ?_
          refine qr_goto (tgt := 106) o (q_dm dm_X12_rivals 56 rfl) (by decide) ?_
          exact qr_loc (q_leN (q_leS (q_leS (q_leS (q_leS (q_leN (q_leS q_le0))))))) (w_X12_rivals_106 n j r hj hr o K43 hK43 a1 a2 a3 a4 a6 a6 m9)
      · refine qr_goto (tgt := 114) o (q_dm dm_X12_rivals 52 rfl) (by decide) ?_
        refine qs_iincl2 (L' := fun x10 => [none, some (.inl a1), some (.inl a2), some (.inl a3), some (.inl a4), some (.inl a5), some (.inl x10)]) o (q_dm dm_X12_rivals 63 rfl) rfl ic_1 (Nat.le_of_ble_eq_true rfl) (fun _ => rfl) (fun x10 => ?_)
        refine qr_goto (tgt := 43) o (q_dm dm_X12_rivals 64 rfl) (by decide) ?_
        exact qr_loc (q_leN (q_leS (q_leS (q_leS (q_leS (q_leS (q_leS q_le0))))))) (hK43 a1 a2 a3 a4 a5 x10 m9)

def f_X12_rivals_43 (n : Nat) : Nat → Int32 → Int32 → Int32 → Int32 → Int32 → Int32 → qM → qR
  | 0, _, _, _, _, _, _, _ => none
  | m + 1, a1, a2, a3, a4, a5, a6, M => b_X12_rivals_43 n (f_X12_rivals_43 n m) a1 a2 a3 a4 a5 a6 M
theorem w_X12_rivals_43 {g : qG} {k : qK} (n : Nat) (j r : Nat) (hj : q_isLaw j) (hr : q_isLaw r) (o : qOk g 2 zX12_rivals k) : ∀ (m : Nat) (a1 a2 a3 a4 a5 a6 : Int32) (M : qM), qAE g k zX12_rivals (qL j r) 43 [none, some (.inl a1), some (.inl a2), some (.inl a3), some (.inl a4), some (.inl a5), some (.inl a6)] [] (qL j r, M) (f_X12_rivals_43 n m a1 a2 a3 a4 a5 a6 M) := by
  intro m
  induction m with
  | zero =>
    intro a1 a2 a3 a4 a5 a6 M
    exact qr_none
  | succ m ih =>
    intro a1 a2 a3 a4 a5 a6 M
    exact wb_X12_rivals_43 n j r hj hr o (f_X12_rivals_43 n m) ih a1 a2 a3 a4 a5 a6 M
def f_X12_rivals (n : Nat) (a1 a2 a3 : Int32) (M : qM) : qR :=
  qc (f_X12_in n a1 (0 : Int32) (999 : Int32) M) (fun r1 m2 => (if r1 = (0 : Int32) then some ((-1 : Int32), m2) else qc (f_X12_in n a2 (0 : Int32) (999 : Int32) m2) (fun r3 m4 => (if r3 = (0 : Int32) then some ((-1 : Int32), m4) else qc (f_X12_in n a3 (0 : Int32) (1 : Int32) m4) (fun r5 m6 => (if r5 = (0 : Int32) then some ((-1 : Int32), m6) else f_X12_rivals_43 n n a1 a2 a3 (0 : Int32) (-2 : Int32) (0 : Int32) m6))))))
set_option maxRecDepth 4000 in
theorem w_X12_rivals {g : qG} {k : qK} (n : Nat) (j r : Nat) (hj : q_isLaw j) (hr : q_isLaw r) (o : qOk g 2 zX12_rivals k) (a1 a2 a3 : Int32) (M : qM) : qAE g k zX12_rivals (qL j r) 0 [some (.inr (some 77)), some (.inl a1), some (.inl a2), some (.inl a3), none, none, none] [] (qL j r, M) (f_X12_rivals n a1 a2 a3 M) := by
  unfold f_X12_rivals
  refine qr_iload_n o (q_dm dm_X12_rivals 0 rfl) rfl ?_
  refine qr_iconst o (q_dm dm_X12_rivals 1 rfl) ic_0 ?_
  refine qr_sipush o (q_dm dm_X12_rivals 2 rfl) si_999 ?_
  refine qr_calls_i (As := [.inl a1, .inl (0 : Int32), .inl (999 : Int32)]) (S := []) o (a_X12_in g k.2.1 n j r hj hr a1 (0 : Int32) (999 : Int32) M) (Nat.le_of_ble_eq_true rfl) zs_X12_in rfl ml_X12_153 (Nat.le_of_ble_eq_true rfl) (q_dm dm_X12_rivals 3 rfl) (fun r1 m2 => ?_)
  refine qr_if_eq (tgt := 31) o (q_dm dm_X12_rivals 4 rfl) (by decide) ?_ ?_
  · refine qr_iconst o (q_dm dm_X12_rivals 15 rfl) ic_m1 ?_
    exact qr_iret o rfl rfl (q_dm dm_X12_rivals 16 rfl)
  · refine qr_iload_n o (q_dm dm_X12_rivals 5 rfl) rfl ?_
    refine qr_iconst o (q_dm dm_X12_rivals 6 rfl) ic_0 ?_
    refine qr_sipush o (q_dm dm_X12_rivals 7 rfl) si_999 ?_
    refine qr_calls_i (As := [.inl a2, .inl (0 : Int32), .inl (999 : Int32)]) (S := []) o (a_X12_in g k.2.1 n j r hj hr a2 (0 : Int32) (999 : Int32) m2) (Nat.le_of_ble_eq_true rfl) zs_X12_in rfl ml_X12_153 (Nat.le_of_ble_eq_true rfl) (q_dm dm_X12_rivals 8 rfl) (fun r3 m4 => ?_)
    refine qr_if_eq (tgt := 31) o (q_dm dm_X12_rivals 9 rfl) (by decide) ?_ ?_
    · refine qr_iconst o (q_dm dm_X12_rivals 15 rfl) ic_m1 ?_
      exact qr_iret o rfl rfl (q_dm dm_X12_rivals 16 rfl)
    · refine qr_iload_n o (q_dm dm_X12_rivals 10 rfl) rfl ?_
      refine qr_iconst o (q_dm dm_X12_rivals 11 rfl) ic_0 ?_
      refine qr_iconst o (q_dm dm_X12_rivals 12 rfl) ic_1 ?_
      refine qr_calls_i (As := [.inl a3, .inl (0 : Int32), .inl (1 : Int32)]) (S := []) o (a_X12_in g k.2.1 n j r hj hr a3 (0 : Int32) (1 : Int32) m4) (Nat.le_of_ble_eq_true rfl) zs_X12_in rfl ml_X12_153 (Nat.le_of_ble_eq_true rfl) (q_dm dm_X12_rivals 13 rfl) (fun r5 m6 => ?_)
      refine qr_if_ne (tgt := 33) o (q_dm dm_X12_rivals 14 rfl) (by decide) ?_ ?_
      · refine qr_iconst o (q_dm dm_X12_rivals 17 rfl) ic_0 ?_
        refine qs_istore (L' := [some (.inr (some 77)), some (.inl a1), some (.inl a2), some (.inl a3), some (.inl (0 : Int32)), none, none]) o (q_dm dm_X12_rivals 18 rfl) (Nat.le_of_ble_eq_true rfl) rfl ?_
        refine qr_bipush o (q_dm dm_X12_rivals 19 rfl) bi_m2 ?_
        refine qs_istore (L' := [some (.inr (some 77)), some (.inl a1), some (.inl a2), some (.inl a3), some (.inl (0 : Int32)), some (.inl (-2 : Int32)), none]) o (q_dm dm_X12_rivals 20 rfl) (Nat.le_of_ble_eq_true rfl) rfl ?_
        refine qr_iconst o (q_dm dm_X12_rivals 21 rfl) ic_0 ?_
        refine qs_istore (L' := [some (.inr (some 77)), some (.inl a1), some (.inl a2), some (.inl a3), some (.inl (0 : Int32)), some (.inl (-2 : Int32)), some (.inl (0 : Int32))]) o (q_dm dm_X12_rivals 22 rfl) (Nat.le_of_ble_eq_true rfl) rfl ?_
        exact qr_loc (q_leN (q_leS (q_leS (q_leS (q_leS (q_leS (q_leS q_le0))))))) (w_X12_rivals_43 n j r hj hr o n a1 a2 a3 (0 : Int32) (-2 : Int32) (0 : Int32) m6)
      · refine qr_iconst o (q_dm dm_X12_rivals 15 rfl) ic_m1 ?_
        exact qr_iret o rfl rfl (q_dm dm_X12_rivals 16 rfl)

theorem a_X12_rivals (g : qG) (l : Launch) (n : Nat) (j r : Nat) (hj : q_isLaw j) (hr : q_isLaw r) (a1 a2 a3 : Int32) (M : qM) : qAM g l 2 zX12_rivals (qL j r) [.inr (some 77), .inl a1, .inl a2, .inl a3] (qL j r, M) (f_X12_rivals n a1 a2 a3 M) :=
  qAM.of zv_X12_rivals.1 (by show 4 ≤ 7; decide) (fun k hk o => w_X12_rivals n j r hj hr o a1 a2 a3 M)
def tb_X12_soonest : List (Nat × Instr × Nat) := [(0, (.aload_n 0, 1)), (1, (.iload_n 1, 1)), (2, (.iload_n 2, 1)), (3, (.iload_n 3, 1)), (4, (.invokevirtual 386, 3)), (7, (.ifCond .eq 23, 3)), (10, (.iload 4, 2)), (12, (.iconst 0, 1)), (13, (.iconst 3, 1)), (14, (.invokestatic 153, 3)), (17, (.ifCond .eq 13, 3)), (20, (.iload 5, 2)), (22, (.iconst 0, 1)), (23, (.iconst 1, 1)), (24, (.invokestatic 153, 3)), (27, (.ifCond .ne 5, 3)), (30, (.iconst (-1), 1)), (31, (.ireturn, 1)), (32, (.aload_n 0, 1)), (33, (.iload_n 1, 1)), (34, (.iload_n 2, 1)), (35, (.invokevirtual 389, 3)), (38, (.aload_n 0, 1)), (39, (.invokevirtual 392, 3)), (42, (.istore 6, 2)), (44, (.aload_n 0, 1)), (45, (.iload_n 3, 1)), (46, (.invokevirtual 395, 3)), (49, (.istore 7, 2)), (51, (.ldc_w 398, 3)), (54, (.istore 8, 2)), (56, (.iconst 0, 1)), (57, (.istore 9, 2)), (59, (.iload 9, 2)), (61, (.iload 6, 2)), (63, (.if_icmp .ge 26, 3)), (66, (.aload_n 0, 1)), (67, (.getfield 108, 3)), (70, (.iload 9, 2)), (72, (.iload 9, 2)), (74, (.ifCond .ne 7, 3)), (77, (.iconst 1, 1)), (78, (.goto 4, 3)), (81, (.iconst 0, 1)), (82, (.bastore, 1)), (83, (.iinc 9 1, 3)), (86, (.goto (-27), 3)), (89, (.iconst 0, 1)), (90, (.istore 9, 2)), (92, (.iload 9, 2)), (94, (.iload 6, 2)), (96, (.if_icmp .ge 71, 3)), (99, (.aload_n 0, 1)), (100, (.getfield 108, 3)), (103, (.iload 9, 2)), (105, (.baload, 1)), (106, (.ifCond .ne 6, 3)), (109, (.goto 52, 3)), (112, (.aload_n 0, 1)), (113, (.iload 9, 2)), (115, (.invokevirtual 399, 3)), (118, (.aload_n 0, 1)), (119, (.getfield 89, 3)), (122, (.aload_n 0, 1)), (123, (.getfield 101, 3)), (126, (.iload 7, 2)), (128, (.iaload, 1)), (129, (.iaload, 1)), (130, (.ifCond .le 25, 3)), (133, (.iload 8, 2)), (135, (.bipush 16, 2)), (137, (.aload_n 0, 1)), (138, (.invokevirtual 402, 3)), (141, (.imul, 1)), (142, (.aload_n 0, 1)), (143, (.invokevirtual 405, 3)), (146, (.iadd, 1)), (147, (.invokestatic 307, 3)), (150, (.istore 8, 2)), (152, (.goto 9, 3)), (155, (.aload_n 0, 1)), (156, (.iload 4, 2)), (158, (.invokevirtual 408, 3)), (161, (.iinc 9 1, 3)), (164, (.goto (-72), 3)), (167, (.iload 8, 2)), (169, (.ldc_w 398, 3)), (172, (.if_icmp .ne 8, 3)), (175, (.bipush (-2), 2)), (177, (.goto 21, 3)), (180, (.iload 5, 2)), (182, (.ifCond .ne 11, 3)), (185, (.iload 8, 2)), (187, (.bipush 16, 2)), (189, (.idiv, 1)), (190, (.goto 8, 3)), (193, (.iload 8, 2)), (195, (.bipush 16, 2)), (197, (.irem, 1)), (198, (.ireturn, 1))]
theorem dm_X12_soonest : ∀ q ∈ tb_X12_soonest, decode zX12_soonest.2.1 q.1 = .ok q.2 := by decide +kernel
def b_X12_soonest_92 (n : Nat) (K92 : Int32 → Int32 → Int32 → Int32 → Int32 → Int32 → qM → qR) (a4 a5 a6 a7 a8 a9 : Int32) (M : qM) : qR :=
  (if a6 ≤ a9 then (if a8 = (1000000000 : Int32) then some ((-2 : Int32), M) else (if a5 = (0 : Int32) then some ((a8 / (16 : Int32)), M) else some ((a8 - a8 / (16 : Int32) * (16 : Int32)), M))) else qg a9 160000 ((if (M 110 a9.toNatClampNeg) = (0 : Int32) then ql (a9 + (1 : Int32)) (fun x11 => K92 a4 a5 a6 a7 a8 x11 M) else qc (f_X12_takesState n a9 M) (fun _ m1 => qg a7 4 (qg (m1 108 a7.toNatClampNeg) 20 ((if (m1 104 (m1 108 a7.toNatClampNeg).toNatClampNeg) ≤ (0 : Int32) then qc (f_X12_spreads n a4 m1) (fun _ m2 => ql (a9 + (1 : Int32)) (fun x3 => K92 a4 a5 a6 a7 a8 x3 m2)) else qc (f_X12_hoursNow n  m1) (fun r4 m5 => qc (f_X12_madeNow n  m5) (fun r6 m7 => qc (f_X12_min n a8 (((16 : Int32) * r4) + r6) m7) (fun r8 m9 => ql (a9 + (1 : Int32)) (fun x10 => K92 a4 a5 a6 a7 r8 x10 m9)))))))))))
set_option maxRecDepth 4000 in
theorem wb_X12_soonest_92 {g : qG} {k : qK} (n : Nat) (j r : Nat) (hj : q_isLaw j) (hr : q_isLaw r) (o : qOk g 5 zX12_soonest k) (K92 : Int32 → Int32 → Int32 → Int32 → Int32 → Int32 → qM → qR) (hK92 : ∀ (a4 a5 a6 a7 a8 a9 : Int32) (M : qM), qAE g k zX12_soonest (qL j r) 92 [some (.inr (some 77)), none, none, none, some (.inl a4), some (.inl a5), some (.inl a6), some (.inl a7), some (.inl a8), some (.inl a9)] [] (qL j r, M) (K92 a4 a5 a6 a7 a8 a9 M)) (a4 a5 a6 a7 a8 a9 : Int32) (M : qM) : qAE g k zX12_soonest (qL j r) 92 [some (.inr (some 77)), none, none, none, some (.inl a4), some (.inl a5), some (.inl a6), some (.inl a7), some (.inl a8), some (.inl a9)] [] (qL j r, M) (b_X12_soonest_92 n K92 a4 a5 a6 a7 a8 a9 M) := by
  unfold b_X12_soonest_92
  refine qr_iload o (q_dm dm_X12_soonest 49 rfl) rfl ?_
  refine qr_iload o (q_dm dm_X12_soonest 50 rfl) rfl ?_
  refine qr_icmp_ge (tgt := 167) o (q_dm dm_X12_soonest 51 rfl) (by decide) ?_ ?_
  · refine qr_iload o (q_dm dm_X12_soonest 85 rfl) rfl ?_
    refine qr_ldc_w o (q_dm dm_X12_soonest 86 rfl) kc_X12_398 ?_
    refine qr_icmp_ne (tgt := 180) o (q_dm dm_X12_soonest 87 rfl) (by decide) ?_ ?_
    · refine qr_iload o (q_dm dm_X12_soonest 90 rfl) rfl ?_
      refine qr_if_ne (tgt := 193) o (q_dm dm_X12_soonest 91 rfl) (by decide) ?_ ?_
      · refine qr_iload o (q_dm dm_X12_soonest 96 rfl) rfl ?_
        refine qr_bipush o (q_dm dm_X12_soonest 97 rfl) bi_16 ?_
        refine qr_iremc o (q_dm dm_X12_soonest 98 rfl) (by decide) ?_
        exact qr_iret o rfl rfl (q_dm dm_X12_soonest 99 rfl)
      · refine qr_iload o (q_dm dm_X12_soonest 92 rfl) rfl ?_
        refine qr_bipush o (q_dm dm_X12_soonest 93 rfl) bi_16 ?_
        refine qr_idivc o (q_dm dm_X12_soonest 94 rfl) (by decide) ?_
        refine qr_goto (tgt := 198) o (q_dm dm_X12_soonest 95 rfl) (by decide) ?_
        exact qr_iret o rfl rfl (q_dm dm_X12_soonest 99 rfl)
    · refine qr_bipush o (q_dm dm_X12_soonest 88 rfl) bi_m2 ?_
      refine qr_goto (tgt := 198) o (q_dm dm_X12_soonest 89 rfl) (by decide) ?_
      exact qr_iret o rfl rfl (q_dm dm_X12_soonest 99 rfl)
  · refine qr_aload_n o (q_dm dm_X12_soonest 52 rfl) rfl ?_
    refine qr_getr (kf := 53) o cf_X12 (sh77 j r) rfl (Nat.le_of_ble_eq_true rfl) fl_X12_108 (q_dm dm_X12_soonest 53 rfl) ?_
    refine qr_iload o (q_dm dm_X12_soonest 54 rfl) rfl ?_
    refine qr_zald o (sh110 j r) (q_dm dm_X12_soonest 55 rfl) ?_
    refine qr_if_ne (tgt := 112) o (q_dm dm_X12_soonest 56 rfl) (by decide) ?_ ?_
    · refine qr_aload_n o (q_dm dm_X12_soonest 58 rfl) rfl ?_
      refine qr_iload o (q_dm dm_X12_soonest 59 rfl) rfl ?_
      refine qr_callv_v (As := [.inl a9]) (S := []) o (a_X12_takesState g k.2.1 n j r hj hr a9 M) (Nat.le_of_ble_eq_true rfl) zv_X12_takesState rfl cf_X12 (sh77 j r) ml_X12_399 (Nat.le_of_ble_eq_true rfl) (q_dm dm_X12_soonest 60 rfl) (fun _ m1 => ?_)
      refine qr_aload_n o (q_dm dm_X12_soonest 61 rfl) rfl ?_
      refine qr_getr (kf := 47) o cf_X12 (sh77 j r) rfl (Nat.le_of_ble_eq_true rfl) fl_X12_89 (q_dm dm_X12_soonest 62 rfl) ?_
      refine qr_aload_n o (q_dm dm_X12_soonest 63 rfl) rfl ?_
      refine qr_getr (kf := 51) o cf_X12 (sh77 j r) rfl (Nat.le_of_ble_eq_true rfl) fl_X12_101 (q_dm dm_X12_soonest 64 rfl) ?_
      refine qr_iload o (q_dm dm_X12_soonest 65 rfl) rfl ?_
      refine qr_iald o (sh108 j r) (q_dm dm_X12_soonest 66 rfl) ?_
      refine qr_iald o (sh104 j r) (q_dm dm_X12_soonest 67 rfl) ?_
      refine qr_if_le (tgt := 155) o (q_dm dm_X12_soonest 68 rfl) (by decide) ?_ ?_
      · refine qr_aload_n o (q_dm dm_X12_soonest 80 rfl) rfl ?_
        refine qr_iload o (q_dm dm_X12_soonest 81 rfl) rfl ?_
        refine qr_callv_v (As := [.inl a4]) (S := []) o (a_X12_spreads g k.2.1 n j r hj hr a4 m1) (Nat.le_of_ble_eq_true rfl) zv_X12_spreads rfl cf_X12 (sh77 j r) ml_X12_408 (Nat.le_of_ble_eq_true rfl) (q_dm dm_X12_soonest 82 rfl) (fun _ m2 => ?_)
        refine qs_iincl2 (L' := fun x3 => [some (.inr (some 77)), none, none, none, some (.inl a4), some (.inl a5), some (.inl a6), some (.inl a7), some (.inl a8), some (.inl x3)]) o (q_dm dm_X12_soonest 83 rfl) rfl ic_1 (Nat.le_of_ble_eq_true rfl) (fun _ => rfl) (fun x3 => ?_)
        refine qr_goto (tgt := 92) o (q_dm dm_X12_soonest 84 rfl) (by decide) ?_
        exact qr_loc (q_leS (q_leN (q_leN (q_leN (q_leS (q_leS (q_leS (q_leS (q_leS (q_leS q_le0)))))))))) (hK92 a4 a5 a6 a7 a8 x3 m2)
      · refine qr_iload o (q_dm dm_X12_soonest 69 rfl) rfl ?_
        refine qr_bipush o (q_dm dm_X12_soonest 70 rfl) bi_16 ?_
        refine qr_aload_n o (q_dm dm_X12_soonest 71 rfl) rfl ?_
        refine qr_callv_i (As := []) (S := [.inl (16 : Int32), .inl a8]) o (a_X12_hoursNow g k.2.1 n j r hj hr  m1) (Nat.le_of_ble_eq_true rfl) zv_X12_hoursNow rfl cf_X12 (sh77 j r) ml_X12_402 (Nat.le_of_ble_eq_true rfl) (q_dm dm_X12_soonest 72 rfl) (fun r4 m5 => ?_)
        refine qr_imul o (q_dm dm_X12_soonest 73 rfl) ?_
        refine qr_aload_n o (q_dm dm_X12_soonest 74 rfl) rfl ?_
        refine qr_callv_i (As := []) (S := [.inl ((16 : Int32) * r4), .inl a8]) o (a_X12_madeNow g k.2.1 n j r hj hr  m5) (Nat.le_of_ble_eq_true rfl) zv_X12_madeNow rfl cf_X12 (sh77 j r) ml_X12_405 (Nat.le_of_ble_eq_true rfl) (q_dm dm_X12_soonest 75 rfl) (fun r6 m7 => ?_)
        refine qr_iadd o (q_dm dm_X12_soonest 76 rfl) ?_
        refine qr_calls_i (As := [.inl a8, .inl (((16 : Int32) * r4) + r6)]) (S := []) o (a_X12_min g k.2.1 n j r hj hr a8 (((16 : Int32) * r4) + r6) m7) (Nat.le_of_ble_eq_true rfl) zs_X12_min rfl ml_X12_307 (Nat.le_of_ble_eq_true rfl) (q_dm dm_X12_soonest 77 rfl) (fun r8 m9 => ?_)
        refine qs_istore (L' := [some (.inr (some 77)), none, none, none, some (.inl a4), some (.inl a5), some (.inl a6), some (.inl a7), some (.inl r8), some (.inl a9)]) o (q_dm dm_X12_soonest 78 rfl) (Nat.le_of_ble_eq_true rfl) rfl ?_
        refine qr_goto (tgt := 161) o (q_dm dm_X12_soonest 79 rfl) (by decide) ?_
        refine qs_iincl2 (L' := fun x10 => [some (.inr (some 77)), none, none, none, some (.inl a4), some (.inl a5), some (.inl a6), some (.inl a7), some (.inl r8), some (.inl x10)]) o (q_dm dm_X12_soonest 83 rfl) rfl ic_1 (Nat.le_of_ble_eq_true rfl) (fun _ => rfl) (fun x10 => ?_)
        refine qr_goto (tgt := 92) o (q_dm dm_X12_soonest 84 rfl) (by decide) ?_
        exact qr_loc (q_leS (q_leN (q_leN (q_leN (q_leS (q_leS (q_leS (q_leS (q_leS (q_leS q_le0)))))))))) (hK92 a4 a5 a6 a7 r8 x10 m9)
    · refine qr_goto (tgt := 161) o (q_dm dm_X12_soonest 57 rfl) (by decide) ?_
      refine qs_iincl2 (L' := fun x11 => [some (.inr (some 77)), none, none, none, some (.inl a4), some (.inl a5), some (.inl a6), some (.inl a7), some (.inl a8), some (.inl x11)]) o (q_dm dm_X12_soonest 83 rfl) rfl ic_1 (Nat.le_of_ble_eq_true rfl) (fun _ => rfl) (fun x11 => ?_)
      refine qr_goto (tgt := 92) o (q_dm dm_X12_soonest 84 rfl) (by decide) ?_
      exact qr_loc (q_leS (q_leN (q_leN (q_leN (q_leS (q_leS (q_leS (q_leS (q_leS (q_leS q_le0)))))))))) (hK92 a4 a5 a6 a7 a8 x11 M)

def f_X12_soonest_92 (n : Nat) : Nat → Int32 → Int32 → Int32 → Int32 → Int32 → Int32 → qM → qR
  | 0, _, _, _, _, _, _, _ => none
  | m + 1, a4, a5, a6, a7, a8, a9, M => b_X12_soonest_92 n (f_X12_soonest_92 n m) a4 a5 a6 a7 a8 a9 M
theorem w_X12_soonest_92 {g : qG} {k : qK} (n : Nat) (j r : Nat) (hj : q_isLaw j) (hr : q_isLaw r) (o : qOk g 5 zX12_soonest k) : ∀ (m : Nat) (a4 a5 a6 a7 a8 a9 : Int32) (M : qM), qAE g k zX12_soonest (qL j r) 92 [some (.inr (some 77)), none, none, none, some (.inl a4), some (.inl a5), some (.inl a6), some (.inl a7), some (.inl a8), some (.inl a9)] [] (qL j r, M) (f_X12_soonest_92 n m a4 a5 a6 a7 a8 a9 M) := by
  intro m
  induction m with
  | zero =>
    intro a4 a5 a6 a7 a8 a9 M
    exact qr_none
  | succ m ih =>
    intro a4 a5 a6 a7 a8 a9 M
    exact wb_X12_soonest_92 n j r hj hr o (f_X12_soonest_92 n m) ih a4 a5 a6 a7 a8 a9 M
def b_X12_soonest_59 (n : Nat) (K59 : Int32 → Int32 → Int32 → Int32 → Int32 → Int32 → qM → qR) (a4 a5 a6 a7 a8 a9 : Int32) (M : qM) : qR :=
  (if a6 ≤ a9 then f_X12_soonest_92 n n a4 a5 a6 a7 a8 (0 : Int32) M else (if a9 = (0 : Int32) then qg a9 160000 (qlm (mu M 110 a9.toNatClampNeg (vp_nar .boolean (1 : Int32))) (fun m3 => ql (a9 + (1 : Int32)) (fun x4 => K59 a4 a5 a6 a7 a8 x4 m3))) else qg a9 160000 (qlm (mu M 110 a9.toNatClampNeg (vp_nar .boolean (0 : Int32))) (fun m1 => ql (a9 + (1 : Int32)) (fun x2 => K59 a4 a5 a6 a7 a8 x2 m1)))))
set_option maxRecDepth 4000 in
theorem wb_X12_soonest_59 {g : qG} {k : qK} (n : Nat) (j r : Nat) (hj : q_isLaw j) (hr : q_isLaw r) (o : qOk g 5 zX12_soonest k) (K59 : Int32 → Int32 → Int32 → Int32 → Int32 → Int32 → qM → qR) (hK59 : ∀ (a4 a5 a6 a7 a8 a9 : Int32) (M : qM), qAE g k zX12_soonest (qL j r) 59 [some (.inr (some 77)), none, none, none, some (.inl a4), some (.inl a5), some (.inl a6), some (.inl a7), some (.inl a8), some (.inl a9)] [] (qL j r, M) (K59 a4 a5 a6 a7 a8 a9 M)) (a4 a5 a6 a7 a8 a9 : Int32) (M : qM) : qAE g k zX12_soonest (qL j r) 59 [some (.inr (some 77)), none, none, none, some (.inl a4), some (.inl a5), some (.inl a6), some (.inl a7), some (.inl a8), some (.inl a9)] [] (qL j r, M) (b_X12_soonest_59 n K59 a4 a5 a6 a7 a8 a9 M) := by
  unfold b_X12_soonest_59
  refine qr_iload o (q_dm dm_X12_soonest 33 rfl) rfl ?_
  refine qr_iload o (q_dm dm_X12_soonest 34 rfl) rfl ?_
  refine qr_icmp_ge (tgt := 89) o (q_dm dm_X12_soonest 35 rfl) (by decide) ?_ ?_
  · refine qr_iconst o (q_dm dm_X12_soonest 47 rfl) ic_0 ?_
    refine qs_istore (L' := [some (.inr (some 77)), none, none, none, some (.inl a4), some (.inl a5), some (.inl a6), some (.inl a7), some (.inl a8), some (.inl (0 : Int32))]) o (q_dm dm_X12_soonest 48 rfl) (Nat.le_of_ble_eq_true rfl) rfl ?_
    exact qr_loc (q_leS (q_leN (q_leN (q_leN (q_leS (q_leS (q_leS (q_leS (q_leS (q_leS q_le0)))))))))) (w_X12_soonest_92 n j r hj hr o n a4 a5 a6 a7 a8 (0 : Int32) M)
  · refine qr_aload_n o (q_dm dm_X12_soonest 36 rfl) rfl ?_
    refine qr_getr (kf := 53) o cf_X12 (sh77 j r) rfl (Nat.le_of_ble_eq_true rfl) fl_X12_108 (q_dm dm_X12_soonest 37 rfl) ?_
    refine qr_iload o (q_dm dm_X12_soonest 38 rfl) rfl ?_
    refine qr_iload o (q_dm dm_X12_soonest 39 rfl) rfl ?_
    refine qr_if_ne (tgt := 81) o (q_dm dm_X12_soonest 40 rfl) (by decide) ?_ ?_
    · refine qr_iconst o (q_dm dm_X12_soonest 43 rfl) ic_0 ?_
      refine qr_zast o (sh110 j r) (q_dm dm_X12_soonest 44 rfl) ?_
      refine qr_letm (fun m1 => ?_)
      refine qs_iincl2 (L' := fun x2 => [some (.inr (some 77)), none, none, none, some (.inl a4), some (.inl a5), some (.inl a6), some (.inl a7), some (.inl a8), some (.inl x2)]) o (q_dm dm_X12_soonest 45 rfl) rfl ic_1 (Nat.le_of_ble_eq_true rfl) (fun _ => rfl) (fun x2 => ?_)
      refine qr_goto (tgt := 59) o (q_dm dm_X12_soonest 46 rfl) (by decide) ?_
      exact qr_loc (q_leS (q_leN (q_leN (q_leN (q_leS (q_leS (q_leS (q_leS (q_leS (q_leS q_le0)))))))))) (hK59 a4 a5 a6 a7 a8 x2 m1)
    · refine qr_iconst o (q_dm dm_X12_soonest 41 rfl) ic_1 ?_
      refine qr_goto (tgt := 82) o (q_dm dm_X12_soonest 42 rfl) (by decide) ?_
      refine qr_zast o (sh110 j r) (q_dm dm_X12_soonest 44 rfl) ?_
      refine qr_letm (fun m3 => ?_)
      refine qs_iincl2 (L' := fun x4 => [some (.inr (some 77)), none, none, none, some (.inl a4), some (.inl a5), some (.inl a6), some (.inl a7), some (.inl a8), some (.inl x4)]) o (q_dm dm_X12_soonest 45 rfl) rfl ic_1 (Nat.le_of_ble_eq_true rfl) (fun _ => rfl) (fun x4 => ?_)
      refine qr_goto (tgt := 59) o (q_dm dm_X12_soonest 46 rfl) (by decide) ?_
      exact qr_loc (q_leS (q_leN (q_leN (q_leN (q_leS (q_leS (q_leS (q_leS (q_leS (q_leS q_le0)))))))))) (hK59 a4 a5 a6 a7 a8 x4 m3)

def f_X12_soonest_59 (n : Nat) : Nat → Int32 → Int32 → Int32 → Int32 → Int32 → Int32 → qM → qR
  | 0, _, _, _, _, _, _, _ => none
  | m + 1, a4, a5, a6, a7, a8, a9, M => b_X12_soonest_59 n (f_X12_soonest_59 n m) a4 a5 a6 a7 a8 a9 M
theorem w_X12_soonest_59 {g : qG} {k : qK} (n : Nat) (j r : Nat) (hj : q_isLaw j) (hr : q_isLaw r) (o : qOk g 5 zX12_soonest k) : ∀ (m : Nat) (a4 a5 a6 a7 a8 a9 : Int32) (M : qM), qAE g k zX12_soonest (qL j r) 59 [some (.inr (some 77)), none, none, none, some (.inl a4), some (.inl a5), some (.inl a6), some (.inl a7), some (.inl a8), some (.inl a9)] [] (qL j r, M) (f_X12_soonest_59 n m a4 a5 a6 a7 a8 a9 M) := by
  intro m
  induction m with
  | zero =>
    intro a4 a5 a6 a7 a8 a9 M
    exact qr_none
  | succ m ih =>
    intro a4 a5 a6 a7 a8 a9 M
    exact wb_X12_soonest_59 n j r hj hr o (f_X12_soonest_59 n m) ih a4 a5 a6 a7 a8 a9 M
def f_X12_soonest (n : Nat) (a1 a2 a3 a4 a5 : Int32) (M : qM) : qR :=
  qc (f_X12_areSome n a1 a2 a3 M) (fun r1 m2 => (if r1 = (0 : Int32) then some ((-1 : Int32), m2) else qc (f_X12_in n a4 (0 : Int32) (3 : Int32) m2) (fun r3 m4 => (if r3 = (0 : Int32) then some ((-1 : Int32), m4) else qc (f_X12_in n a5 (0 : Int32) (1 : Int32) m4) (fun r5 m6 => (if r5 = (0 : Int32) then some ((-1 : Int32), m6) else qc (f_X12_laysOwn n a1 a2 m6) (fun _ m7 => qc (f_X12_statesAll n  m7) (fun r8 m9 => qc (f_X12_placeOf n a3 m9) (fun r10 m11 => f_X12_soonest_59 n n a4 a5 r8 r10 (1000000000 : Int32) (0 : Int32) m11)))))))))
set_option maxRecDepth 4000 in
theorem w_X12_soonest {g : qG} {k : qK} (n : Nat) (j r : Nat) (hj : q_isLaw j) (hr : q_isLaw r) (o : qOk g 5 zX12_soonest k) (a1 a2 a3 a4 a5 : Int32) (M : qM) : qAE g k zX12_soonest (qL j r) 0 [some (.inr (some 77)), some (.inl a1), some (.inl a2), some (.inl a3), some (.inl a4), some (.inl a5), none, none, none, none] [] (qL j r, M) (f_X12_soonest n a1 a2 a3 a4 a5 M) := by
  unfold f_X12_soonest
  refine qr_aload_n o (q_dm dm_X12_soonest 0 rfl) rfl ?_
  refine qr_iload_n o (q_dm dm_X12_soonest 1 rfl) rfl ?_
  refine qr_iload_n o (q_dm dm_X12_soonest 2 rfl) rfl ?_
  refine qr_iload_n o (q_dm dm_X12_soonest 3 rfl) rfl ?_
  refine qr_callv_i (As := [.inl a1, .inl a2, .inl a3]) (S := []) o (a_X12_areSome g k.2.1 n j r hj hr a1 a2 a3 M) (Nat.le_of_ble_eq_true rfl) zv_X12_areSome rfl cf_X12 (sh77 j r) ml_X12_386 (Nat.le_of_ble_eq_true rfl) (q_dm dm_X12_soonest 4 rfl) (fun r1 m2 => ?_)
  refine qr_if_eq (tgt := 30) o (q_dm dm_X12_soonest 5 rfl) (by decide) ?_ ?_
  · refine qr_iconst o (q_dm dm_X12_soonest 16 rfl) ic_m1 ?_
    exact qr_iret o rfl rfl (q_dm dm_X12_soonest 17 rfl)
  · refine qr_iload o (q_dm dm_X12_soonest 6 rfl) rfl ?_
    refine qr_iconst o (q_dm dm_X12_soonest 7 rfl) ic_0 ?_
    refine qr_iconst o (q_dm dm_X12_soonest 8 rfl) ic_3 ?_
    refine qr_calls_i (As := [.inl a4, .inl (0 : Int32), .inl (3 : Int32)]) (S := []) o (a_X12_in g k.2.1 n j r hj hr a4 (0 : Int32) (3 : Int32) m2) (Nat.le_of_ble_eq_true rfl) zs_X12_in rfl ml_X12_153 (Nat.le_of_ble_eq_true rfl) (q_dm dm_X12_soonest 9 rfl) (fun r3 m4 => ?_)
    refine qr_if_eq (tgt := 30) o (q_dm dm_X12_soonest 10 rfl) (by decide) ?_ ?_
    · refine qr_iconst o (q_dm dm_X12_soonest 16 rfl) ic_m1 ?_
      exact qr_iret o rfl rfl (q_dm dm_X12_soonest 17 rfl)
    · refine qr_iload o (q_dm dm_X12_soonest 11 rfl) rfl ?_
      refine qr_iconst o (q_dm dm_X12_soonest 12 rfl) ic_0 ?_
      refine qr_iconst o (q_dm dm_X12_soonest 13 rfl) ic_1 ?_
      refine qr_calls_i (As := [.inl a5, .inl (0 : Int32), .inl (1 : Int32)]) (S := []) o (a_X12_in g k.2.1 n j r hj hr a5 (0 : Int32) (1 : Int32) m4) (Nat.le_of_ble_eq_true rfl) zs_X12_in rfl ml_X12_153 (Nat.le_of_ble_eq_true rfl) (q_dm dm_X12_soonest 14 rfl) (fun r5 m6 => ?_)
      refine qr_if_ne (tgt := 32) o (q_dm dm_X12_soonest 15 rfl) (by decide) ?_ ?_
      · refine qr_aload_n o (q_dm dm_X12_soonest 18 rfl) rfl ?_
        refine qr_iload_n o (q_dm dm_X12_soonest 19 rfl) rfl ?_
        refine qr_iload_n o (q_dm dm_X12_soonest 20 rfl) rfl ?_
        refine qr_callv_v (As := [.inl a1, .inl a2]) (S := []) o (a_X12_laysOwn g k.2.1 n j r hj hr a1 a2 m6) (Nat.le_of_ble_eq_true rfl) zv_X12_laysOwn rfl cf_X12 (sh77 j r) ml_X12_389 (Nat.le_of_ble_eq_true rfl) (q_dm dm_X12_soonest 21 rfl) (fun _ m7 => ?_)
        refine qr_aload_n o (q_dm dm_X12_soonest 22 rfl) rfl ?_
        refine qr_callv_i (As := []) (S := []) o (a_X12_statesAll g k.2.1 n j r hj hr  m7) (Nat.le_of_ble_eq_true rfl) zv_X12_statesAll rfl cf_X12 (sh77 j r) ml_X12_392 (Nat.le_of_ble_eq_true rfl) (q_dm dm_X12_soonest 23 rfl) (fun r8 m9 => ?_)
        refine qs_istore (L' := [some (.inr (some 77)), some (.inl a1), some (.inl a2), some (.inl a3), some (.inl a4), some (.inl a5), some (.inl r8), none, none, none]) o (q_dm dm_X12_soonest 24 rfl) (Nat.le_of_ble_eq_true rfl) rfl ?_
        refine qr_aload_n o (q_dm dm_X12_soonest 25 rfl) rfl ?_
        refine qr_iload_n o (q_dm dm_X12_soonest 26 rfl) rfl ?_
        refine qr_callv_i (As := [.inl a3]) (S := []) o (a_X12_placeOf g k.2.1 n j r hj hr a3 m9) (Nat.le_of_ble_eq_true rfl) zv_X12_placeOf rfl cf_X12 (sh77 j r) ml_X12_395 (Nat.le_of_ble_eq_true rfl) (q_dm dm_X12_soonest 27 rfl) (fun r10 m11 => ?_)
        refine qs_istore (L' := [some (.inr (some 77)), some (.inl a1), some (.inl a2), some (.inl a3), some (.inl a4), some (.inl a5), some (.inl r8), some (.inl r10), none, none]) o (q_dm dm_X12_soonest 28 rfl) (Nat.le_of_ble_eq_true rfl) rfl ?_
        refine qr_ldc_w o (q_dm dm_X12_soonest 29 rfl) kc_X12_398 ?_
        refine qs_istore (L' := [some (.inr (some 77)), some (.inl a1), some (.inl a2), some (.inl a3), some (.inl a4), some (.inl a5), some (.inl r8), some (.inl r10), some (.inl (1000000000 : Int32)), none]) o (q_dm dm_X12_soonest 30 rfl) (Nat.le_of_ble_eq_true rfl) rfl ?_
        refine qr_iconst o (q_dm dm_X12_soonest 31 rfl) ic_0 ?_
        refine qs_istore (L' := [some (.inr (some 77)), some (.inl a1), some (.inl a2), some (.inl a3), some (.inl a4), some (.inl a5), some (.inl r8), some (.inl r10), some (.inl (1000000000 : Int32)), some (.inl (0 : Int32))]) o (q_dm dm_X12_soonest 32 rfl) (Nat.le_of_ble_eq_true rfl) rfl ?_
        exact qr_loc (q_leS (q_leN (q_leN (q_leN (q_leS (q_leS (q_leS (q_leS (q_leS (q_leS q_le0)))))))))) (w_X12_soonest_59 n j r hj hr o n a4 a5 r8 r10 (1000000000 : Int32) (0 : Int32) m11)
      · refine qr_iconst o (q_dm dm_X12_soonest 16 rfl) ic_m1 ?_
        exact qr_iret o rfl rfl (q_dm dm_X12_soonest 17 rfl)

theorem a_X12_soonest (g : qG) (l : Launch) (n : Nat) (j r : Nat) (hj : q_isLaw j) (hr : q_isLaw r) (a1 a2 a3 a4 a5 : Int32) (M : qM) : qAM g l 5 zX12_soonest (qL j r) [.inr (some 77), .inl a1, .inl a2, .inl a3, .inl a4, .inl a5] (qL j r, M) (f_X12_soonest n a1 a2 a3 a4 a5 M) :=
  qAM.of zv_X12_soonest.1 (by show 6 ≤ 10; decide) (fun k hk o => w_X12_soonest n j r hj hr o a1 a2 a3 a4 a5 M)
def tb_X12_tried : List (Nat × Instr × Nat) := [(0, (.iload_n 1, 1)), (1, (.iconst 1, 1)), (2, (.bipush 60, 2)), (4, (.invokestatic 153, 3)), (7, (.ifCond .eq 34, 3)), (10, (.iload_n 2, 1)), (11, (.iconst 0, 1)), (12, (.iconst 5, 1)), (13, (.invokestatic 153, 3)), (16, (.ifCond .ne 27, 3)), (19, (.iload_n 2, 1)), (20, (.bipush 10, 2)), (22, (.bipush 17, 2)), (24, (.invokestatic 153, 3)), (27, (.ifCond .eq 14, 3)), (30, (.aload_n 0, 1)), (31, (.iload_n 2, 1)), (32, (.bipush 10, 2)), (34, (.isub, 1)), (35, (.invokevirtual 310, 3)), (38, (.ifCond .ne 5, 3)), (41, (.iconst (-1), 1)), (42, (.ireturn, 1)), (43, (.aload_n 0, 1)), (44, (.getfield 7, 3)), (47, (.aload_n 0, 1)), (48, (.getfield 13, 3)), (51, (.invokestatic 319, 3)), (54, (.aload_n 0, 1)), (55, (.iload_n 1, 1)), (56, (.invokevirtual 359, 3)), (59, (.iload_n 2, 1)), (60, (.tableswitch 88 0 5 #[40, 48, 56, 64, 72, 80], 40)), (100, (.aload_n 0, 1)), (101, (.getfield 335, 3)), (104, (.istore_n 3, 1)), (105, (.goto 71, 3)), (108, (.aload_n 0, 1)), (109, (.getfield 341, 3)), (112, (.istore_n 3, 1)), (113, (.goto 63, 3)), (116, (.aload_n 0, 1)), (117, (.getfield 344, 3)), (120, (.istore_n 3, 1)), (121, (.goto 55, 3)), (124, (.aload_n 0, 1)), (125, (.getfield 347, 3)), (128, (.istore_n 3, 1)), (129, (.goto 47, 3)), (132, (.aload_n 0, 1)), (133, (.getfield 350, 3)), (136, (.istore_n 3, 1)), (137, (.goto 39, 3)), (140, (.aload_n 0, 1)), (141, (.getfield 338, 3)), (144, (.istore_n 3, 1)), (145, (.goto 31, 3)), (148, (.aload_n 0, 1)), (149, (.getfield 7, 3)), (152, (.sipush 296, 3)), (155, (.iload_n 2, 1)), (156, (.iadd, 1)), (157, (.bipush 10, 2)), (159, (.isub, 1)), (160, (.iaload, 1)), (161, (.aload_n 0, 1)), (162, (.getfield 7, 3)), (165, (.sipush 304, 3)), (168, (.iload_n 2, 1)), (169, (.iadd, 1)), (170, (.bipush 10, 2)), (172, (.isub, 1)), (173, (.iaload, 1)), (174, (.isub, 1)), (175, (.istore_n 3, 1)), (176, (.aload_n 0, 1)), (177, (.getfield 13, 3)), (180, (.aload_n 0, 1)), (181, (.getfield 7, 3)), (184, (.invokestatic 319, 3)), (187, (.iload_n 3, 1)), (188, (.ireturn, 1))]
theorem dm_X12_tried : ∀ q ∈ tb_X12_tried, decode zX12_tried.2.1 q.1 = .ok q.2 := by decide +kernel
def f_X12_tried_176 (n : Nat) (a3 : Int32) (M : qM) : qR :=
  qc (f_X12_copies n 79 78 M) (fun _ m1 => some (a3, m1))
set_option maxRecDepth 4000 in
theorem w_X12_tried_176 {g : qG} {k : qK} (n : Nat) (j r : Nat) (hj : q_isLaw j) (hr : q_isLaw r) (o : qOk g 7 zX12_tried k) (a3 : Int32) (M : qM) : qAE g k zX12_tried (qL j r) 176 [some (.inr (some 77)), none, none, some (.inl a3)] [] (qL j r, M) (f_X12_tried_176 n a3 M) := by
  unfold f_X12_tried_176
  refine qr_aload_n o (q_dm dm_X12_tried 75 rfl) rfl ?_
  refine qr_getr (kf := 1) o cf_X12 (sh77 j r) rfl (Nat.le_of_ble_eq_true rfl) fl_X12_13 (q_dm dm_X12_tried 76 rfl) ?_
  refine qr_aload_n o (q_dm dm_X12_tried 77 rfl) rfl ?_
  refine qr_getr (kf := 0) o cf_X12 (sh77 j r) rfl (Nat.le_of_ble_eq_true rfl) fl_X12_7 (q_dm dm_X12_tried 78 rfl) ?_
  refine qr_calls_v (As := [.inr (some 79), .inr (some 78)]) (S := []) o (a_X12_copies g k.2.1 n j r hj hr (sh79 j r) (sh78 j r) M) (Nat.le_of_ble_eq_true rfl) zs_X12_copies rfl ml_X12_319 (Nat.le_of_ble_eq_true rfl) (q_dm dm_X12_tried 79 rfl) (fun _ m1 => ?_)
  refine qr_iload_n o (q_dm dm_X12_tried 80 rfl) rfl ?_
  exact qr_iret o rfl rfl (q_dm dm_X12_tried 81 rfl)

def f_X12_tried_43 (n : Nat) (a1 a2 : Int32) (M : qM) : qR :=
  qc (f_X12_copies n 78 79 M) (fun _ m1 => qc (f_X12_daysGo n a1 m1) (fun _ m2 => qsw a2 [((0 : Int32), ql (m2 77 37) (fun x4 => f_X12_tried_176 n x4 m2)), ((1 : Int32), ql (m2 77 38) (fun x5 => f_X12_tried_176 n x5 m2)), ((2 : Int32), ql (m2 77 40) (fun x6 => f_X12_tried_176 n x6 m2)), ((3 : Int32), ql (m2 77 41) (fun x7 => f_X12_tried_176 n x7 m2)), ((4 : Int32), ql (m2 77 42) (fun x8 => f_X12_tried_176 n x8 m2)), ((5 : Int32), ql (m2 77 39) (fun x9 => f_X12_tried_176 n x9 m2))] (qg (((296 : Int32) + a2) - (10 : Int32)) 954 (qg (((304 : Int32) + a2) - (10 : Int32)) 954 (ql ((m2 78 (((296 : Int32) + a2) - (10 : Int32)).toNatClampNeg) - (m2 78 (((304 : Int32) + a2) - (10 : Int32)).toNatClampNeg)) (fun x3 => f_X12_tried_176 n x3 m2))))))
set_option maxRecDepth 4000 in
theorem w_X12_tried_43 {g : qG} {k : qK} (n : Nat) (j r : Nat) (hj : q_isLaw j) (hr : q_isLaw r) (o : qOk g 7 zX12_tried k) (a1 a2 : Int32) (M : qM) : qAE g k zX12_tried (qL j r) 43 [some (.inr (some 77)), some (.inl a1), some (.inl a2), none] [] (qL j r, M) (f_X12_tried_43 n a1 a2 M) := by
  unfold f_X12_tried_43
  refine qr_aload_n o (q_dm dm_X12_tried 23 rfl) rfl ?_
  refine qr_getr (kf := 0) o cf_X12 (sh77 j r) rfl (Nat.le_of_ble_eq_true rfl) fl_X12_7 (q_dm dm_X12_tried 24 rfl) ?_
  refine qr_aload_n o (q_dm dm_X12_tried 25 rfl) rfl ?_
  refine qr_getr (kf := 1) o cf_X12 (sh77 j r) rfl (Nat.le_of_ble_eq_true rfl) fl_X12_13 (q_dm dm_X12_tried 26 rfl) ?_
  refine qr_calls_v (As := [.inr (some 78), .inr (some 79)]) (S := []) o (a_X12_copies g k.2.1 n j r hj hr (sh78 j r) (sh79 j r) M) (Nat.le_of_ble_eq_true rfl) zs_X12_copies rfl ml_X12_319 (Nat.le_of_ble_eq_true rfl) (q_dm dm_X12_tried 27 rfl) (fun _ m1 => ?_)
  refine qr_aload_n o (q_dm dm_X12_tried 28 rfl) rfl ?_
  refine qr_iload_n o (q_dm dm_X12_tried 29 rfl) rfl ?_
  refine qr_callv_v (As := [.inl a1]) (S := []) o (a_X12_daysGo g k.2.1 n j r hj hr a1 m1) (Nat.le_of_ble_eq_true rfl) zv_X12_daysGo rfl cf_X12 (sh77 j r) ml_X12_359 (Nat.le_of_ble_eq_true rfl) (q_dm dm_X12_tried 30 rfl) (fun _ m2 => ?_)
  refine qr_iload_n o (q_dm dm_X12_tried 31 rfl) rfl ?_
  refine qr_tablep (tgt := 148) o (q_dm dm_X12_tried 32 rfl) (by show (_ : Int) + (6 : Nat) = _; decide) (by decide) ?_ (q_tbc (40) 100 (by decide) rfl (by decide) ?_ (q_tbc (48) 108 (by decide) rfl (by decide) ?_ (q_tbc (56) 116 (by decide) rfl (by decide) ?_ (q_tbc (64) 124 (by decide) rfl (by decide) ?_ (q_tbc (72) 132 (by decide) rfl (by decide) ?_ (q_tbc (80) 140 (by decide) rfl (by decide) ?_ q_tbn))))))
  · refine qr_aload_n o (q_dm dm_X12_tried 57 rfl) rfl ?_
    refine qr_getr (kf := 0) o cf_X12 (sh77 j r) rfl (Nat.le_of_ble_eq_true rfl) fl_X12_7 (q_dm dm_X12_tried 58 rfl) ?_
    refine qr_sipush o (q_dm dm_X12_tried 59 rfl) si_296 ?_
    refine qr_iload_n o (q_dm dm_X12_tried 60 rfl) rfl ?_
    refine qr_iadd o (q_dm dm_X12_tried 61 rfl) ?_
    refine qr_bipush o (q_dm dm_X12_tried 62 rfl) bi_10 ?_
    refine qr_isub o (q_dm dm_X12_tried 63 rfl) ?_
    refine qr_iald o (sh78 j r) (q_dm dm_X12_tried 64 rfl) ?_
    refine qr_aload_n o (q_dm dm_X12_tried 65 rfl) rfl ?_
    refine qr_getr (kf := 0) o cf_X12 (sh77 j r) rfl (Nat.le_of_ble_eq_true rfl) fl_X12_7 (q_dm dm_X12_tried 66 rfl) ?_
    refine qr_sipush o (q_dm dm_X12_tried 67 rfl) si_304 ?_
    refine qr_iload_n o (q_dm dm_X12_tried 68 rfl) rfl ?_
    refine qr_iadd o (q_dm dm_X12_tried 69 rfl) ?_
    refine qr_bipush o (q_dm dm_X12_tried 70 rfl) bi_10 ?_
    refine qr_isub o (q_dm dm_X12_tried 71 rfl) ?_
    refine qr_iald o (sh78 j r) (q_dm dm_X12_tried 72 rfl) ?_
    refine qr_isub o (q_dm dm_X12_tried 73 rfl) ?_
    refine qr_lt (fun x3 => ?_)
    refine qs_istore_n (L' := [some (.inr (some 77)), some (.inl a1), some (.inl a2), some (.inl x3)]) o (q_dm dm_X12_tried 74 rfl) (Nat.le_of_ble_eq_true rfl) rfl ?_
    exact qr_loc (q_leS (q_leN (q_leN (q_leS q_le0)))) (w_X12_tried_176 n j r hj hr o x3 m2)
  · refine qr_aload_n o (q_dm dm_X12_tried 33 rfl) rfl ?_
    refine qr_getf (kf := 37) o cf_X12 (sh77 j r) rfl (Nat.le_of_ble_eq_true rfl) fl_X12_335 (q_dm dm_X12_tried 34 rfl) ?_
    refine qr_lt (fun x4 => ?_)
    refine qs_istore_n (L' := [some (.inr (some 77)), some (.inl a1), some (.inl a2), some (.inl x4)]) o (q_dm dm_X12_tried 35 rfl) (Nat.le_of_ble_eq_true rfl) rfl ?_
    refine qr_goto (tgt := 176) o (q_dm dm_X12_tried 36 rfl) (by decide) ?_
    exact qr_loc (q_leS (q_leN (q_leN (q_leS q_le0)))) (w_X12_tried_176 n j r hj hr o x4 m2)
  · refine qr_aload_n o (q_dm dm_X12_tried 37 rfl) rfl ?_
    refine qr_getf (kf := 38) o cf_X12 (sh77 j r) rfl (Nat.le_of_ble_eq_true rfl) fl_X12_341 (q_dm dm_X12_tried 38 rfl) ?_
    refine qr_lt (fun x5 => ?_)
    refine qs_istore_n (L' := [some (.inr (some 77)), some (.inl a1), some (.inl a2), some (.inl x5)]) o (q_dm dm_X12_tried 39 rfl) (Nat.le_of_ble_eq_true rfl) rfl ?_
    refine qr_goto (tgt := 176) o (q_dm dm_X12_tried 40 rfl) (by decide) ?_
    exact qr_loc (q_leS (q_leN (q_leN (q_leS q_le0)))) (w_X12_tried_176 n j r hj hr o x5 m2)
  · refine qr_aload_n o (q_dm dm_X12_tried 41 rfl) rfl ?_
    refine qr_getf (kf := 40) o cf_X12 (sh77 j r) rfl (Nat.le_of_ble_eq_true rfl) fl_X12_344 (q_dm dm_X12_tried 42 rfl) ?_
    refine qr_lt (fun x6 => ?_)
    refine qs_istore_n (L' := [some (.inr (some 77)), some (.inl a1), some (.inl a2), some (.inl x6)]) o (q_dm dm_X12_tried 43 rfl) (Nat.le_of_ble_eq_true rfl) rfl ?_
    refine qr_goto (tgt := 176) o (q_dm dm_X12_tried 44 rfl) (by decide) ?_
    exact qr_loc (q_leS (q_leN (q_leN (q_leS q_le0)))) (w_X12_tried_176 n j r hj hr o x6 m2)
  · refine qr_aload_n o (q_dm dm_X12_tried 45 rfl) rfl ?_
    refine qr_getf (kf := 41) o cf_X12 (sh77 j r) rfl (Nat.le_of_ble_eq_true rfl) fl_X12_347 (q_dm dm_X12_tried 46 rfl) ?_
    refine qr_lt (fun x7 => ?_)
    refine qs_istore_n (L' := [some (.inr (some 77)), some (.inl a1), some (.inl a2), some (.inl x7)]) o (q_dm dm_X12_tried 47 rfl) (Nat.le_of_ble_eq_true rfl) rfl ?_
    refine qr_goto (tgt := 176) o (q_dm dm_X12_tried 48 rfl) (by decide) ?_
    exact qr_loc (q_leS (q_leN (q_leN (q_leS q_le0)))) (w_X12_tried_176 n j r hj hr o x7 m2)
  · refine qr_aload_n o (q_dm dm_X12_tried 49 rfl) rfl ?_
    refine qr_getf (kf := 42) o cf_X12 (sh77 j r) rfl (Nat.le_of_ble_eq_true rfl) fl_X12_350 (q_dm dm_X12_tried 50 rfl) ?_
    refine qr_lt (fun x8 => ?_)
    refine qs_istore_n (L' := [some (.inr (some 77)), some (.inl a1), some (.inl a2), some (.inl x8)]) o (q_dm dm_X12_tried 51 rfl) (Nat.le_of_ble_eq_true rfl) rfl ?_
    refine qr_goto (tgt := 176) o (q_dm dm_X12_tried 52 rfl) (by decide) ?_
    exact qr_loc (q_leS (q_leN (q_leN (q_leS q_le0)))) (w_X12_tried_176 n j r hj hr o x8 m2)
  · refine qr_aload_n o (q_dm dm_X12_tried 53 rfl) rfl ?_
    refine qr_getf (kf := 39) o cf_X12 (sh77 j r) rfl (Nat.le_of_ble_eq_true rfl) fl_X12_338 (q_dm dm_X12_tried 54 rfl) ?_
    refine qr_lt (fun x9 => ?_)
    refine qs_istore_n (L' := [some (.inr (some 77)), some (.inl a1), some (.inl a2), some (.inl x9)]) o (q_dm dm_X12_tried 55 rfl) (Nat.le_of_ble_eq_true rfl) rfl ?_
    refine qr_goto (tgt := 176) o (q_dm dm_X12_tried 56 rfl) (by decide) ?_
    exact qr_loc (q_leS (q_leN (q_leN (q_leS q_le0)))) (w_X12_tried_176 n j r hj hr o x9 m2)

def f_X12_tried (n : Nat) (a1 a2 : Int32) (M : qM) : qR :=
  qc (f_X12_in n a1 (1 : Int32) (60 : Int32) M) (fun r1 m2 => (if r1 = (0 : Int32) then some ((-1 : Int32), m2) else qc (f_X12_in n a2 (0 : Int32) (5 : Int32) m2) (fun r3 m4 => (if r3 = (0 : Int32) then qc (f_X12_in n a2 (10 : Int32) (17 : Int32) m4) (fun r5 m6 => (if r5 = (0 : Int32) then some ((-1 : Int32), m6) else qc (f_X12_isPerson n (a2 - (10 : Int32)) m6) (fun r7 m8 => (if r7 = (0 : Int32) then some ((-1 : Int32), m8) else f_X12_tried_43 n a1 a2 m8)))) else f_X12_tried_43 n a1 a2 m4))))
set_option maxRecDepth 4000 in
theorem w_X12_tried {g : qG} {k : qK} (n : Nat) (j r : Nat) (hj : q_isLaw j) (hr : q_isLaw r) (o : qOk g 7 zX12_tried k) (a1 a2 : Int32) (M : qM) : qAE g k zX12_tried (qL j r) 0 [some (.inr (some 77)), some (.inl a1), some (.inl a2), none] [] (qL j r, M) (f_X12_tried n a1 a2 M) := by
  unfold f_X12_tried
  refine qr_iload_n o (q_dm dm_X12_tried 0 rfl) rfl ?_
  refine qr_iconst o (q_dm dm_X12_tried 1 rfl) ic_1 ?_
  refine qr_bipush o (q_dm dm_X12_tried 2 rfl) bi_60 ?_
  refine qr_calls_i (As := [.inl a1, .inl (1 : Int32), .inl (60 : Int32)]) (S := []) o (a_X12_in g k.2.1 n j r hj hr a1 (1 : Int32) (60 : Int32) M) (Nat.le_of_ble_eq_true rfl) zs_X12_in rfl ml_X12_153 (Nat.le_of_ble_eq_true rfl) (q_dm dm_X12_tried 3 rfl) (fun r1 m2 => ?_)
  refine qr_if_eq (tgt := 41) o (q_dm dm_X12_tried 4 rfl) (by decide) ?_ ?_
  · refine qr_iconst o (q_dm dm_X12_tried 21 rfl) ic_m1 ?_
    exact qr_iret o rfl rfl (q_dm dm_X12_tried 22 rfl)
  · refine qr_iload_n o (q_dm dm_X12_tried 5 rfl) rfl ?_
    refine qr_iconst o (q_dm dm_X12_tried 6 rfl) ic_0 ?_
    refine qr_iconst o (q_dm dm_X12_tried 7 rfl) ic_5 ?_
    refine qr_calls_i (As := [.inl a2, .inl (0 : Int32), .inl (5 : Int32)]) (S := []) o (a_X12_in g k.2.1 n j r hj hr a2 (0 : Int32) (5 : Int32) m2) (Nat.le_of_ble_eq_true rfl) zs_X12_in rfl ml_X12_153 (Nat.le_of_ble_eq_true rfl) (q_dm dm_X12_tried 8 rfl) (fun r3 m4 => ?_)
    refine qr_if_ne (tgt := 43) o (q_dm dm_X12_tried 9 rfl) (by decide) ?_ ?_
    · exact qr_loc (q_leS (q_leS (q_leS (q_leN q_le0)))) (w_X12_tried_43 n j r hj hr o a1 a2 m4)
    · refine qr_iload_n o (q_dm dm_X12_tried 10 rfl) rfl ?_
      refine qr_bipush o (q_dm dm_X12_tried 11 rfl) bi_10 ?_
      refine qr_bipush o (q_dm dm_X12_tried 12 rfl) bi_17 ?_
      refine qr_calls_i (As := [.inl a2, .inl (10 : Int32), .inl (17 : Int32)]) (S := []) o (a_X12_in g k.2.1 n j r hj hr a2 (10 : Int32) (17 : Int32) m4) (Nat.le_of_ble_eq_true rfl) zs_X12_in rfl ml_X12_153 (Nat.le_of_ble_eq_true rfl) (q_dm dm_X12_tried 13 rfl) (fun r5 m6 => ?_)
      refine qr_if_eq (tgt := 41) o (q_dm dm_X12_tried 14 rfl) (by decide) ?_ ?_
      · refine qr_iconst o (q_dm dm_X12_tried 21 rfl) ic_m1 ?_
        exact qr_iret o rfl rfl (q_dm dm_X12_tried 22 rfl)
      · refine qr_aload_n o (q_dm dm_X12_tried 15 rfl) rfl ?_
        refine qr_iload_n o (q_dm dm_X12_tried 16 rfl) rfl ?_
        refine qr_bipush o (q_dm dm_X12_tried 17 rfl) bi_10 ?_
        refine qr_isub o (q_dm dm_X12_tried 18 rfl) ?_
        refine qr_callv_i (As := [.inl (a2 - (10 : Int32))]) (S := []) o (a_X12_isPerson g k.2.1 n j r hj hr (a2 - (10 : Int32)) m6) (Nat.le_of_ble_eq_true rfl) zv_X12_isPerson rfl cf_X12 (sh77 j r) ml_X12_310 (Nat.le_of_ble_eq_true rfl) (q_dm dm_X12_tried 19 rfl) (fun r7 m8 => ?_)
        refine qr_if_ne (tgt := 43) o (q_dm dm_X12_tried 20 rfl) (by decide) ?_ ?_
        · exact qr_loc (q_leS (q_leS (q_leS (q_leN q_le0)))) (w_X12_tried_43 n j r hj hr o a1 a2 m8)
        · refine qr_iconst o (q_dm dm_X12_tried 21 rfl) ic_m1 ?_
          exact qr_iret o rfl rfl (q_dm dm_X12_tried 22 rfl)

theorem a_X12_tried (g : qG) (l : Launch) (n : Nat) (j r : Nat) (hj : q_isLaw j) (hr : q_isLaw r) (a1 a2 : Int32) (M : qM) : qAM g l 7 zX12_tried (qL j r) [.inr (some 77), .inl a1, .inl a2] (qL j r, M) (f_X12_tried n a1 a2 M) :=
  qAM.of zv_X12_tried.1 (by show 3 ≤ 4; decide) (fun k hk o => w_X12_tried n j r hj hr o a1 a2 M)
def tb_X12_tries : List (Nat × Instr × Nat) := [(0, (.aload_n 0, 1)), (1, (.iload_n 1, 1)), (2, (.invokevirtual 310, 3)), (5, (.ifCond .eq 29, 3)), (8, (.aload_n 0, 1)), (9, (.iload_n 2, 1)), (10, (.invokevirtual 157, 3)), (13, (.ifCond .eq 21, 3)), (16, (.iload_n 3, 1)), (17, (.iconst (-1), 1)), (18, (.if_icmp .eq 18, 3)), (21, (.aload_n 0, 1)), (22, (.iload_n 3, 1)), (23, (.invokevirtual 310, 3)), (26, (.ifCond .eq 8, 3)), (29, (.iload_n 3, 1)), (30, (.iload_n 1, 1)), (31, (.if_icmp .ne 5, 3)), (34, (.iconst (-1), 1)), (35, (.ireturn, 1)), (36, (.aload_n 0, 1)), (37, (.iload_n 1, 1)), (38, (.iload_n 2, 1)), (39, (.iload_n 3, 1)), (40, (.iconst (-1), 1)), (41, (.if_icmp .ne 8, 3)), (44, (.bipush 8, 2)), (46, (.goto 4, 3)), (49, (.iload_n 3, 1)), (50, (.invokevirtual 313, 3)), (53, (.ireturn, 1))]
theorem dm_X12_tries : ∀ q ∈ tb_X12_tries, decode zX12_tries.2.1 q.1 = .ok q.2 := by decide +kernel
def f_X12_tries_50 (n : Nat) (s1 s2 s3 : Int32) (M : qM) : qR :=
  qc (f_X12_triesNow n s1 s2 s3 M) (fun r1 m2 => some (r1, m2))
set_option maxRecDepth 4000 in
theorem w_X12_tries_50 {g : qG} {k : qK} (n : Nat) (j r : Nat) (hj : q_isLaw j) (hr : q_isLaw r) (o : qOk g 5 zX12_tries k) (s1 s2 s3 : Int32) (M : qM) : qAE g k zX12_tries (qL j r) 50 [none, none, none, none] [.inl s3, .inl s2, .inl s1, .inr (some 77)] (qL j r, M) (f_X12_tries_50 n s1 s2 s3 M) := by
  unfold f_X12_tries_50
  refine qr_callv_i (As := [.inl s1, .inl s2, .inl s3]) (S := []) o (a_X12_triesNow g k.2.1 n j r hj hr s1 s2 s3 M) (Nat.le_of_ble_eq_true rfl) zv_X12_triesNow rfl cf_X12 (sh77 j r) ml_X12_313 (Nat.le_of_ble_eq_true rfl) (q_dm dm_X12_tries 29 rfl) (fun r1 m2 => ?_)
  exact qr_iret o rfl rfl (q_dm dm_X12_tries 30 rfl)

def f_X12_tries_36 (n : Nat) (a1 a2 a3 : Int32) (M : qM) : qR :=
  (if a3 = (-1 : Int32) then f_X12_tries_50 n a1 a2 (8 : Int32) M else f_X12_tries_50 n a1 a2 a3 M)
set_option maxRecDepth 4000 in
theorem w_X12_tries_36 {g : qG} {k : qK} (n : Nat) (j r : Nat) (hj : q_isLaw j) (hr : q_isLaw r) (o : qOk g 5 zX12_tries k) (a1 a2 a3 : Int32) (M : qM) : qAE g k zX12_tries (qL j r) 36 [some (.inr (some 77)), some (.inl a1), some (.inl a2), some (.inl a3)] [] (qL j r, M) (f_X12_tries_36 n a1 a2 a3 M) := by
  unfold f_X12_tries_36
  refine qr_aload_n o (q_dm dm_X12_tries 20 rfl) rfl ?_
  refine qr_iload_n o (q_dm dm_X12_tries 21 rfl) rfl ?_
  refine qr_iload_n o (q_dm dm_X12_tries 22 rfl) rfl ?_
  refine qr_iload_n o (q_dm dm_X12_tries 23 rfl) rfl ?_
  refine qr_iconst o (q_dm dm_X12_tries 24 rfl) ic_m1 ?_
  refine qr_icmp_ne (tgt := 49) o (q_dm dm_X12_tries 25 rfl) (by decide) ?_ ?_
  · refine qr_iload_n o (q_dm dm_X12_tries 28 rfl) rfl ?_
    exact qr_loc (q_leN (q_leN (q_leN (q_leN q_le0)))) (w_X12_tries_50 n j r hj hr o a1 a2 a3 M)
  · refine qr_bipush o (q_dm dm_X12_tries 26 rfl) bi_8 ?_
    refine qr_goto (tgt := 50) o (q_dm dm_X12_tries 27 rfl) (by decide) ?_
    exact qr_loc (q_leN (q_leN (q_leN (q_leN q_le0)))) (w_X12_tries_50 n j r hj hr o a1 a2 (8 : Int32) M)

def f_X12_tries (n : Nat) (a1 a2 a3 : Int32) (M : qM) : qR :=
  qc (f_X12_isPerson n a1 M) (fun r1 m2 => (if r1 = (0 : Int32) then some ((-1 : Int32), m2) else qc (f_X12_isKind n a2 m2) (fun r3 m4 => (if r3 = (0 : Int32) then some ((-1 : Int32), m4) else (if a3 = (-1 : Int32) then f_X12_tries_36 n a1 a2 a3 m4 else qc (f_X12_isPerson n a3 m4) (fun r5 m6 => (if r5 = (0 : Int32) then some ((-1 : Int32), m6) else (if a3 = a1 then some ((-1 : Int32), m6) else f_X12_tries_36 n a1 a2 a3 m6))))))))
set_option maxRecDepth 4000 in
theorem w_X12_tries {g : qG} {k : qK} (n : Nat) (j r : Nat) (hj : q_isLaw j) (hr : q_isLaw r) (o : qOk g 5 zX12_tries k) (a1 a2 a3 : Int32) (M : qM) : qAE g k zX12_tries (qL j r) 0 [some (.inr (some 77)), some (.inl a1), some (.inl a2), some (.inl a3)] [] (qL j r, M) (f_X12_tries n a1 a2 a3 M) := by
  unfold f_X12_tries
  refine qr_aload_n o (q_dm dm_X12_tries 0 rfl) rfl ?_
  refine qr_iload_n o (q_dm dm_X12_tries 1 rfl) rfl ?_
  refine qr_callv_i (As := [.inl a1]) (S := []) o (a_X12_isPerson g k.2.1 n j r hj hr a1 M) (Nat.le_of_ble_eq_true rfl) zv_X12_isPerson rfl cf_X12 (sh77 j r) ml_X12_310 (Nat.le_of_ble_eq_true rfl) (q_dm dm_X12_tries 2 rfl) (fun r1 m2 => ?_)
  refine qr_if_eq (tgt := 34) o (q_dm dm_X12_tries 3 rfl) (by decide) ?_ ?_
  · refine qr_iconst o (q_dm dm_X12_tries 18 rfl) ic_m1 ?_
    exact qr_iret o rfl rfl (q_dm dm_X12_tries 19 rfl)
  · refine qr_aload_n o (q_dm dm_X12_tries 4 rfl) rfl ?_
    refine qr_iload_n o (q_dm dm_X12_tries 5 rfl) rfl ?_
    refine qr_callv_i (As := [.inl a2]) (S := []) o (a_X12_isKind g k.2.1 n j r hj hr a2 m2) (Nat.le_of_ble_eq_true rfl) zv_X12_isKind rfl cf_X12 (sh77 j r) ml_X12_157 (Nat.le_of_ble_eq_true rfl) (q_dm dm_X12_tries 6 rfl) (fun r3 m4 => ?_)
    refine qr_if_eq (tgt := 34) o (q_dm dm_X12_tries 7 rfl) (by decide) ?_ ?_
    · refine qr_iconst o (q_dm dm_X12_tries 18 rfl) ic_m1 ?_
      exact qr_iret o rfl rfl (q_dm dm_X12_tries 19 rfl)
    · refine qr_iload_n o (q_dm dm_X12_tries 8 rfl) rfl ?_
      refine qr_iconst o (q_dm dm_X12_tries 9 rfl) ic_m1 ?_
      refine qr_icmp_eq (tgt := 36) o (q_dm dm_X12_tries 10 rfl) (by decide) ?_ ?_
      · exact qr_loc (q_leS (q_leS (q_leS (q_leS q_le0)))) (w_X12_tries_36 n j r hj hr o a1 a2 a3 m4)
      · refine qr_aload_n o (q_dm dm_X12_tries 11 rfl) rfl ?_
        refine qr_iload_n o (q_dm dm_X12_tries 12 rfl) rfl ?_
        refine qr_callv_i (As := [.inl a3]) (S := []) o (a_X12_isPerson g k.2.1 n j r hj hr a3 m4) (Nat.le_of_ble_eq_true rfl) zv_X12_isPerson rfl cf_X12 (sh77 j r) ml_X12_310 (Nat.le_of_ble_eq_true rfl) (q_dm dm_X12_tries 13 rfl) (fun r5 m6 => ?_)
        refine qr_if_eq (tgt := 34) o (q_dm dm_X12_tries 14 rfl) (by decide) ?_ ?_
        · refine qr_iconst o (q_dm dm_X12_tries 18 rfl) ic_m1 ?_
          exact qr_iret o rfl rfl (q_dm dm_X12_tries 19 rfl)
        · refine qr_iload_n o (q_dm dm_X12_tries 15 rfl) rfl ?_
          refine qr_iload_n o (q_dm dm_X12_tries 16 rfl) rfl ?_
          refine qr_icmp_ne (tgt := 36) o (q_dm dm_X12_tries 17 rfl) (by decide) ?_ ?_
          · exact qr_loc (q_leS (q_leS (q_leS (q_leS q_le0)))) (w_X12_tries_36 n j r hj hr o a1 a2 a3 m6)
          · refine qr_iconst o (q_dm dm_X12_tries 18 rfl) ic_m1 ?_
            exact qr_iret o rfl rfl (q_dm dm_X12_tries 19 rfl)

theorem a_X12_tries (g : qG) (l : Launch) (n : Nat) (j r : Nat) (hj : q_isLaw j) (hr : q_isLaw r) (a1 a2 a3 : Int32) (M : qM) : qAM g l 5 zX12_tries (qL j r) [.inr (some 77), .inl a1, .inl a2, .inl a3] (qL j r, M) (f_X12_tries n a1 a2 a3 M) :=
  qAM.of zv_X12_tries.1 (by show 4 ≤ 4; decide) (fun k hk o => w_X12_tries n j r hj hr o a1 a2 a3 M)
def tb_X12_undo : List (Nat × Instr × Nat) := [(0, (.aload_n 0, 1)), (1, (.getfield 489, 3)), (4, (.ifCond .ne 5, 3)), (7, (.iconst 0, 1)), (8, (.ireturn, 1)), (9, (.aload_n 0, 1)), (10, (.getfield 16, 3)), (13, (.aload_n 0, 1)), (14, (.getfield 7, 3)), (17, (.invokestatic 319, 3)), (20, (.iconst 1, 1)), (21, (.ireturn, 1))]
theorem dm_X12_undo : ∀ q ∈ tb_X12_undo, decode zX12_undo.2.1 q.1 = .ok q.2 := by decide +kernel
def f_X12_undo (n : Nat) (M : qM) : qR :=
  (if (M 77 67) = (0 : Int32) then some ((0 : Int32), M) else qc (f_X12_copies n 80 78 M) (fun _ m1 => some ((1 : Int32), m1)))
set_option maxRecDepth 4000 in
theorem w_X12_undo {g : qG} {k : qK} (n : Nat) (j r : Nat) (hj : q_isLaw j) (hr : q_isLaw r) (o : qOk g 1 zX12_undo k) (M : qM) : qAE g k zX12_undo (qL j r) 0 [some (.inr (some 77))] [] (qL j r, M) (f_X12_undo n  M) := by
  unfold f_X12_undo
  refine qr_aload_n o (q_dm dm_X12_undo 0 rfl) rfl ?_
  refine qr_getf (kf := 67) o cf_X12 (sh77 j r) rfl (Nat.le_of_ble_eq_true rfl) fl_X12_489 (q_dm dm_X12_undo 1 rfl) ?_
  refine qr_if_ne (tgt := 9) o (q_dm dm_X12_undo 2 rfl) (by decide) ?_ ?_
  · refine qr_aload_n o (q_dm dm_X12_undo 5 rfl) rfl ?_
    refine qr_getr (kf := 2) o cf_X12 (sh77 j r) rfl (Nat.le_of_ble_eq_true rfl) fl_X12_16 (q_dm dm_X12_undo 6 rfl) ?_
    refine qr_aload_n o (q_dm dm_X12_undo 7 rfl) rfl ?_
    refine qr_getr (kf := 0) o cf_X12 (sh77 j r) rfl (Nat.le_of_ble_eq_true rfl) fl_X12_7 (q_dm dm_X12_undo 8 rfl) ?_
    refine qr_calls_v (As := [.inr (some 80), .inr (some 78)]) (S := []) o (a_X12_copies g k.2.1 n j r hj hr (sh80 j r) (sh78 j r) M) (Nat.le_of_ble_eq_true rfl) zs_X12_copies rfl ml_X12_319 (Nat.le_of_ble_eq_true rfl) (q_dm dm_X12_undo 9 rfl) (fun _ m1 => ?_)
    refine qr_iconst o (q_dm dm_X12_undo 10 rfl) ic_1 ?_
    exact qr_iret o rfl (by decide) (q_dm dm_X12_undo 11 rfl)
  · refine qr_iconst o (q_dm dm_X12_undo 3 rfl) ic_0 ?_
    exact qr_iret o rfl (by decide) (q_dm dm_X12_undo 4 rfl)

theorem a_X12_undo (g : qG) (l : Launch) (n : Nat) (j r : Nat) (hj : q_isLaw j) (hr : q_isLaw r) (M : qM) : qAM g l 1 zX12_undo (qL j r) [.inr (some 77)] (qL j r, M) (f_X12_undo n  M) :=
  qAM.of zv_X12_undo.1 (by show 1 ≤ 1; decide) (fun k hk o => w_X12_undo n j r hj hr o  M)
