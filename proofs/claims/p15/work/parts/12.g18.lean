def tb_X12_takesPast : List (Nat × Instr × Nat) := [(0, (.aload_n 0, 1)), (1, (.iload_n 1, 1)), (2, (.putfield 454, 3)), (5, (.iconst 0, 1)), (6, (.istore_n 3, 1)), (7, (.iload_n 3, 1)), (8, (.iload_n 1, 1)), (9, (.if_icmp .ge 69, 3)), (12, (.aload_n 0, 1)), (13, (.getfield 127, 3)), (16, (.iload_n 3, 1)), (17, (.aload_n 0, 1)), (18, (.getfield 28, 3)), (21, (.iload_n 3, 1)), (22, (.baload, 1)), (23, (.iastore, 1)), (24, (.aload_n 0, 1)), (25, (.aload_n 0, 1)), (26, (.getfield 127, 3)), (29, (.iload_n 3, 1)), (30, (.iaload, 1)), (31, (.invokevirtual 157, 3)), (34, (.ifCond .ne 5, 3)), (37, (.iconst 0, 1)), (38, (.ireturn, 1)), (39, (.iconst 0, 1)), (40, (.istore 4, 2)), (42, (.iload 4, 2)), (44, (.iload_n 3, 1)), (45, (.if_icmp .ge 27, 3)), (48, (.aload_n 0, 1)), (49, (.getfield 127, 3)), (52, (.iload 4, 2)), (54, (.iaload, 1)), (55, (.aload_n 0, 1)), (56, (.getfield 127, 3)), (59, (.iload_n 3, 1)), (60, (.iaload, 1)), (61, (.if_icmp .ne 5, 3)), (64, (.iconst 0, 1)), (65, (.ireturn, 1)), (66, (.iinc 4 1, 3)), (69, (.goto (-27), 3)), (72, (.iinc 3 1, 3)), (75, (.goto (-68), 3)), (78, (.iconst 0, 1)), (79, (.istore_n 3, 1)), (80, (.iload_n 3, 1)), (81, (.iload_n 2, 1)), (82, (.if_icmp .ge 51, 3)), (85, (.aload_n 0, 1)), (86, (.getfield 28, 3)), (89, (.iload_n 1, 1)), (90, (.iconst 2, 1)), (91, (.iload_n 3, 1)), (92, (.imul, 1)), (93, (.iadd, 1)), (94, (.baload, 1)), (95, (.iconst 0, 1)), (96, (.iload_n 1, 1)), (97, (.iconst 1, 1)), (98, (.isub, 1)), (99, (.invokestatic 153, 3)), (102, (.ifCond .eq 23, 3)), (105, (.aload_n 0, 1)), (106, (.getfield 28, 3)), (109, (.iload_n 1, 1)), (110, (.iconst 2, 1)), (111, (.iload_n 3, 1)), (112, (.imul, 1)), (113, (.iadd, 1)), (114, (.iconst 1, 1)), (115, (.iadd, 1)), (116, (.baload, 1)), (117, (.iconst 0, 1)), (118, (.iconst 1, 1)), (119, (.invokestatic 153, 3)), (122, (.ifCond .ne 5, 3)), (125, (.iconst 0, 1)), (126, (.ireturn, 1)), (127, (.iinc 3 1, 3)), (130, (.goto (-50), 3)), (133, (.iconst 0, 1)), (134, (.istore_n 3, 1)), (135, (.iload_n 3, 1)), (136, (.iload_n 1, 1)), (137, (.if_icmp .ge 68, 3)), (140, (.aload_n 0, 1)), (141, (.getfield 130, 3)), (144, (.iload_n 3, 1)), (145, (.iconst 0, 1)), (146, (.iastore, 1)), (147, (.iconst 0, 1)), (148, (.istore 4, 2)), (150, (.iload 4, 2)), (152, (.iload_n 1, 1)), (153, (.if_icmp .ge 46, 3)), (156, (.aload_n 0, 1)), (157, (.aload_n 0, 1)), (158, (.getfield 127, 3)), (161, (.iload_n 3, 1)), (162, (.iaload, 1)), (163, (.aload_n 0, 1)), (164, (.getfield 127, 3)), (167, (.iload 4, 2)), (169, (.iaload, 1)), (170, (.invokevirtual 279, 3)), (173, (.ifCond .eq 20, 3)), (176, (.aload_n 0, 1)), (177, (.getfield 130, 3)), (180, (.iload_n 3, 1)), (181, (.aload_n 0, 1)), (182, (.getfield 130, 3)), (185, (.iload_n 3, 1)), (186, (.iaload, 1)), (187, (.iconst 1, 1)), (188, (.iload 4, 2)), (190, (.ishl, 1)), (191, (.ior, 1)), (192, (.iastore, 1)), (193, (.iinc 4 1, 3)), (196, (.goto (-46), 3)), (199, (.iinc 3 1, 3)), (202, (.goto (-67), 3)), (205, (.iconst 1, 1)), (206, (.ireturn, 1))]
theorem dm_X12_takesPast : ∀ q ∈ tb_X12_takesPast, decode zX12_takesPast.2.1 q.1 = .ok q.2 := by decide +kernel
def b_X12_takesPast_150 (n : Nat) (K135 : Int32 → Int32 → qM → qR) (K150 : Int32 → Int32 → Int32 → qM → qR) (a1 a3 a4 : Int32) (M : qM) : qR :=
  (if a1 ≤ a4 then ql (a3 + (1 : Int32)) (fun x1 => K135 a1 x1 M) else qg a3 4 (qg a4 4 (qc (f_X12_isLike n (M 116 a3.toNatClampNeg) (M 116 a4.toNatClampNeg) M) (fun r2 m3 => (if r2 = (0 : Int32) then ql (a4 + (1 : Int32)) (fun x4 => K150 a1 a3 x4 m3) else qg a3 4 (qg a3 4 (qlm (mu m3 117 a3.toNatClampNeg ((m3 117 a3.toNatClampNeg) ||| ((1 : Int32) <<< (a4 &&& 31)))) (fun m5 => ql (a4 + (1 : Int32)) (fun x6 => K150 a1 a3 x6 m5)))))))))
set_option maxRecDepth 4000 in
theorem wb_X12_takesPast_150 {g : qG} {k : qK} (n : Nat) (j r : Nat) (hj : q_isLaw j) (hr : q_isLaw r) (o : qOk g 3 zX12_takesPast k) (K135 : Int32 → Int32 → qM → qR) (hK135 : ∀ (a1 a3 : Int32) (M : qM), qAE g k zX12_takesPast (qL j r) 135 [some (.inr (some 77)), some (.inl a1), none, some (.inl a3), none] [] (qL j r, M) (K135 a1 a3 M)) (K150 : Int32 → Int32 → Int32 → qM → qR) (hK150 : ∀ (a1 a3 a4 : Int32) (M : qM), qAE g k zX12_takesPast (qL j r) 150 [some (.inr (some 77)), some (.inl a1), none, some (.inl a3), some (.inl a4)] [] (qL j r, M) (K150 a1 a3 a4 M)) (a1 a3 a4 : Int32) (M : qM) : qAE g k zX12_takesPast (qL j r) 150 [some (.inr (some 77)), some (.inl a1), none, some (.inl a3), some (.inl a4)] [] (qL j r, M) (b_X12_takesPast_150 n K135 K150 a1 a3 a4 M) := by
  unfold b_X12_takesPast_150
  refine qr_iload o (q_dm dm_X12_takesPast 94 rfl) rfl ?_
  refine qr_iload_n o (q_dm dm_X12_takesPast 95 rfl) rfl ?_
  refine qr_icmp_ge (tgt := 199) o (q_dm dm_X12_takesPast 96 rfl) (by decide) ?_ ?_
  · refine qs_iincl2 (L' := fun x1 => [some (.inr (some 77)), some (.inl a1), none, some (.inl x1), some (.inl a4)]) o (q_dm dm_X12_takesPast 122 rfl) rfl ic_1 (Nat.le_of_ble_eq_true rfl) (fun _ => rfl) (fun x1 => ?_)
    refine qr_goto (tgt := 135) o (q_dm dm_X12_takesPast 123 rfl) (by decide) ?_
    exact qr_loc (q_leS (q_leS (q_leN (q_leS (q_leN q_le0))))) (hK135 a1 x1 M)
  · refine qr_aload_n o (q_dm dm_X12_takesPast 97 rfl) rfl ?_
    refine qr_aload_n o (q_dm dm_X12_takesPast 98 rfl) rfl ?_
    refine qr_getr (kf := 62) o cf_X12 (sh77 j r) rfl (Nat.le_of_ble_eq_true rfl) fl_X12_127 (q_dm dm_X12_takesPast 99 rfl) ?_
    refine qr_iload_n o (q_dm dm_X12_takesPast 100 rfl) rfl ?_
    refine qr_iald o (sh116 j r) (q_dm dm_X12_takesPast 101 rfl) ?_
    refine qr_aload_n o (q_dm dm_X12_takesPast 102 rfl) rfl ?_
    refine qr_getr (kf := 62) o cf_X12 (sh77 j r) rfl (Nat.le_of_ble_eq_true rfl) fl_X12_127 (q_dm dm_X12_takesPast 103 rfl) ?_
    refine qr_iload o (q_dm dm_X12_takesPast 104 rfl) rfl ?_
    refine qr_iald o (sh116 j r) (q_dm dm_X12_takesPast 105 rfl) ?_
    refine qr_callv_i (As := [.inl (M 116 a3.toNatClampNeg), .inl (M 116 a4.toNatClampNeg)]) (S := []) o (a_X12_isLike g k.2.1 n j r hj hr (M 116 a3.toNatClampNeg) (M 116 a4.toNatClampNeg) M) (Nat.le_of_ble_eq_true rfl) zv_X12_isLike rfl cf_X12 (sh77 j r) ml_X12_279 (Nat.le_of_ble_eq_true rfl) (q_dm dm_X12_takesPast 106 rfl) (fun r2 m3 => ?_)
    refine qr_if_eq (tgt := 193) o (q_dm dm_X12_takesPast 107 rfl) (by decide) ?_ ?_
    · refine qs_iincl2 (L' := fun x4 => [some (.inr (some 77)), some (.inl a1), none, some (.inl a3), some (.inl x4)]) o (q_dm dm_X12_takesPast 120 rfl) rfl ic_1 (Nat.le_of_ble_eq_true rfl) (fun _ => rfl) (fun x4 => ?_)
      refine qr_goto (tgt := 150) o (q_dm dm_X12_takesPast 121 rfl) (by decide) ?_
      exact qr_loc (q_leS (q_leS (q_leN (q_leS (q_leS q_le0))))) (hK150 a1 a3 x4 m3)
    · refine qr_aload_n o (q_dm dm_X12_takesPast 108 rfl) rfl ?_
      refine qr_getr (kf := 63) o cf_X12 (sh77 j r) rfl (Nat.le_of_ble_eq_true rfl) fl_X12_130 (q_dm dm_X12_takesPast 109 rfl) ?_
      refine qr_iload_n o (q_dm dm_X12_takesPast 110 rfl) rfl ?_
      refine qr_aload_n o (q_dm dm_X12_takesPast 111 rfl) rfl ?_
      refine qr_getr (kf := 63) o cf_X12 (sh77 j r) rfl (Nat.le_of_ble_eq_true rfl) fl_X12_130 (q_dm dm_X12_takesPast 112 rfl) ?_
      refine qr_iload_n o (q_dm dm_X12_takesPast 113 rfl) rfl ?_
      refine qr_iald o (sh117 j r) (q_dm dm_X12_takesPast 114 rfl) ?_
      refine qr_iconst o (q_dm dm_X12_takesPast 115 rfl) ic_1 ?_
      refine qr_iload o (q_dm dm_X12_takesPast 116 rfl) rfl ?_
      refine qr_ishl o (q_dm dm_X12_takesPast 117 rfl) ?_
      refine qr_ior o (q_dm dm_X12_takesPast 118 rfl) ?_
      refine qr_iast o (sh117 j r) (q_dm dm_X12_takesPast 119 rfl) ?_
      refine qr_letm (fun m5 => ?_)
      refine qs_iincl2 (L' := fun x6 => [some (.inr (some 77)), some (.inl a1), none, some (.inl a3), some (.inl x6)]) o (q_dm dm_X12_takesPast 120 rfl) rfl ic_1 (Nat.le_of_ble_eq_true rfl) (fun _ => rfl) (fun x6 => ?_)
      refine qr_goto (tgt := 150) o (q_dm dm_X12_takesPast 121 rfl) (by decide) ?_
      exact qr_loc (q_leS (q_leS (q_leN (q_leS (q_leS q_le0))))) (hK150 a1 a3 x6 m5)

def f_X12_takesPast_150 (n : Nat) (K135 : Int32 → Int32 → qM → qR) : Nat → Int32 → Int32 → Int32 → qM → qR
  | 0, _, _, _, _ => none
  | m + 1, a1, a3, a4, M => b_X12_takesPast_150 n K135 (f_X12_takesPast_150 n K135 m) a1 a3 a4 M
theorem w_X12_takesPast_150 {g : qG} {k : qK} (n : Nat) (j r : Nat) (hj : q_isLaw j) (hr : q_isLaw r) (o : qOk g 3 zX12_takesPast k) (K135 : Int32 → Int32 → qM → qR) (hK135 : ∀ (a1 a3 : Int32) (M : qM), qAE g k zX12_takesPast (qL j r) 135 [some (.inr (some 77)), some (.inl a1), none, some (.inl a3), none] [] (qL j r, M) (K135 a1 a3 M)) : ∀ (m : Nat) (a1 a3 a4 : Int32) (M : qM), qAE g k zX12_takesPast (qL j r) 150 [some (.inr (some 77)), some (.inl a1), none, some (.inl a3), some (.inl a4)] [] (qL j r, M) (f_X12_takesPast_150 n K135 m a1 a3 a4 M) := by
  intro m
  induction m with
  | zero =>
    intro a1 a3 a4 M
    exact qr_none
  | succ m ih =>
    intro a1 a3 a4 M
    exact wb_X12_takesPast_150 n j r hj hr o K135 hK135 (f_X12_takesPast_150 n K135 m) ih a1 a3 a4 M
def b_X12_takesPast_135 (n : Nat) (K135 : Int32 → Int32 → qM → qR) (a1 a3 : Int32) (M : qM) : qR :=
  (if a1 ≤ a3 then some ((1 : Int32), M) else qg a3 4 (qlm (mu M 117 a3.toNatClampNeg (0 : Int32)) (fun m1 => f_X12_takesPast_150 n K135 n a1 a3 (0 : Int32) m1)))
set_option maxRecDepth 4000 in
theorem wb_X12_takesPast_135 {g : qG} {k : qK} (n : Nat) (j r : Nat) (hj : q_isLaw j) (hr : q_isLaw r) (o : qOk g 3 zX12_takesPast k) (K135 : Int32 → Int32 → qM → qR) (hK135 : ∀ (a1 a3 : Int32) (M : qM), qAE g k zX12_takesPast (qL j r) 135 [some (.inr (some 77)), some (.inl a1), none, some (.inl a3), none] [] (qL j r, M) (K135 a1 a3 M)) (a1 a3 : Int32) (M : qM) : qAE g k zX12_takesPast (qL j r) 135 [some (.inr (some 77)), some (.inl a1), none, some (.inl a3), none] [] (qL j r, M) (b_X12_takesPast_135 n K135 a1 a3 M) := by
  unfold b_X12_takesPast_135
  refine qr_iload_n o (q_dm dm_X12_takesPast 84 rfl) rfl ?_
  refine qr_iload_n o (q_dm dm_X12_takesPast 85 rfl) rfl ?_
  refine qr_icmp_ge (tgt := 205) o (q_dm dm_X12_takesPast 86 rfl) (by decide) ?_ ?_
  · refine qr_iconst o (q_dm dm_X12_takesPast 124 rfl) ic_1 ?_
    exact qr_iret o rfl (by decide) (q_dm dm_X12_takesPast 125 rfl)
  · refine qr_aload_n o (q_dm dm_X12_takesPast 87 rfl) rfl ?_
    refine qr_getr (kf := 63) o cf_X12 (sh77 j r) rfl (Nat.le_of_ble_eq_true rfl) fl_X12_130 (q_dm dm_X12_takesPast 88 rfl) ?_
    refine qr_iload_n o (q_dm dm_X12_takesPast 89 rfl) rfl ?_
    refine qr_iconst o (q_dm dm_X12_takesPast 90 rfl) ic_0 ?_
    refine qr_iast o (sh117 j r) (q_dm dm_X12_takesPast 91 rfl) ?_
    refine qr_letm (fun m1 => ?_)
    refine qr_iconst o (q_dm dm_X12_takesPast 92 rfl) ic_0 ?_
    refine qs_istore (L' := [some (.inr (some 77)), some (.inl a1), none, some (.inl a3), some (.inl (0 : Int32))]) o (q_dm dm_X12_takesPast 93 rfl) (Nat.le_of_ble_eq_true rfl) rfl ?_
    exact qr_loc (q_leS (q_leS (q_leN (q_leS (q_leS q_le0))))) (w_X12_takesPast_150 n j r hj hr o K135 hK135 n a1 a3 (0 : Int32) m1)

def f_X12_takesPast_135 (n : Nat) : Nat → Int32 → Int32 → qM → qR
  | 0, _, _, _ => none
  | m + 1, a1, a3, M => b_X12_takesPast_135 n (f_X12_takesPast_135 n m) a1 a3 M
theorem w_X12_takesPast_135 {g : qG} {k : qK} (n : Nat) (j r : Nat) (hj : q_isLaw j) (hr : q_isLaw r) (o : qOk g 3 zX12_takesPast k) : ∀ (m : Nat) (a1 a3 : Int32) (M : qM), qAE g k zX12_takesPast (qL j r) 135 [some (.inr (some 77)), some (.inl a1), none, some (.inl a3), none] [] (qL j r, M) (f_X12_takesPast_135 n m a1 a3 M) := by
  intro m
  induction m with
  | zero =>
    intro a1 a3 M
    exact qr_none
  | succ m ih =>
    intro a1 a3 M
    exact wb_X12_takesPast_135 n j r hj hr o (f_X12_takesPast_135 n m) ih a1 a3 M
def b_X12_takesPast_80 (n : Nat) (K80 : Int32 → Int32 → Int32 → qM → qR) (a1 a2 a3 : Int32) (M : qM) : qR :=
  (if a2 ≤ a3 then f_X12_takesPast_135 n n a1 (0 : Int32) M else qg (a1 + ((2 : Int32) * a3)) 260 (qc (f_X12_in n (M 84 (a1 + ((2 : Int32) * a3)).toNatClampNeg) (0 : Int32) (a1 - (1 : Int32)) M) (fun r1 m2 => (if r1 = (0 : Int32) then some ((0 : Int32), m2) else qg ((a1 + ((2 : Int32) * a3)) + (1 : Int32)) 260 (qc (f_X12_in n (m2 84 ((a1 + ((2 : Int32) * a3)) + (1 : Int32)).toNatClampNeg) (0 : Int32) (1 : Int32) m2) (fun r3 m4 => (if r3 = (0 : Int32) then some ((0 : Int32), m4) else ql (a3 + (1 : Int32)) (fun x5 => K80 a1 a2 x5 m4))))))))
set_option maxRecDepth 4000 in
theorem wb_X12_takesPast_80 {g : qG} {k : qK} (n : Nat) (j r : Nat) (hj : q_isLaw j) (hr : q_isLaw r) (o : qOk g 3 zX12_takesPast k) (K80 : Int32 → Int32 → Int32 → qM → qR) (hK80 : ∀ (a1 a2 a3 : Int32) (M : qM), qAE g k zX12_takesPast (qL j r) 80 [some (.inr (some 77)), some (.inl a1), some (.inl a2), some (.inl a3), none] [] (qL j r, M) (K80 a1 a2 a3 M)) (a1 a2 a3 : Int32) (M : qM) : qAE g k zX12_takesPast (qL j r) 80 [some (.inr (some 77)), some (.inl a1), some (.inl a2), some (.inl a3), none] [] (qL j r, M) (b_X12_takesPast_80 n K80 a1 a2 a3 M) := by
  unfold b_X12_takesPast_80
  refine qr_iload_n o (q_dm dm_X12_takesPast 47 rfl) rfl ?_
  refine qr_iload_n o (q_dm dm_X12_takesPast 48 rfl) rfl ?_
  refine qr_icmp_ge (tgt := 133) o (q_dm dm_X12_takesPast 49 rfl) (by decide) ?_ ?_
  · refine qr_iconst o (q_dm dm_X12_takesPast 82 rfl) ic_0 ?_
    refine qs_istore_n (L' := [some (.inr (some 77)), some (.inl a1), some (.inl a2), some (.inl (0 : Int32)), none]) o (q_dm dm_X12_takesPast 83 rfl) (Nat.le_of_ble_eq_true rfl) rfl ?_
    exact qr_loc (q_leS (q_leS (q_leN (q_leS (q_leN q_le0))))) (w_X12_takesPast_135 n j r hj hr o n a1 (0 : Int32) M)
  · refine qr_aload_n o (q_dm dm_X12_takesPast 50 rfl) rfl ?_
    refine qr_getr (kf := 7) o cf_X12 (sh77 j r) rfl (Nat.le_of_ble_eq_true rfl) fl_X12_28 (q_dm dm_X12_takesPast 51 rfl) ?_
    refine qr_iload_n o (q_dm dm_X12_takesPast 52 rfl) rfl ?_
    refine qr_iconst o (q_dm dm_X12_takesPast 53 rfl) ic_2 ?_
    refine qr_iload_n o (q_dm dm_X12_takesPast 54 rfl) rfl ?_
    refine qr_imul o (q_dm dm_X12_takesPast 55 rfl) ?_
    refine qr_iadd o (q_dm dm_X12_takesPast 56 rfl) ?_
    refine qr_bald o (sh84 j r) (q_dm dm_X12_takesPast 57 rfl) ?_
    refine qr_iconst o (q_dm dm_X12_takesPast 58 rfl) ic_0 ?_
    refine qr_iload_n o (q_dm dm_X12_takesPast 59 rfl) rfl ?_
    refine qr_iconst o (q_dm dm_X12_takesPast 60 rfl) ic_1 ?_
    refine qr_isub o (q_dm dm_X12_takesPast 61 rfl) ?_
    refine qr_calls_i (As := [.inl (M 84 (a1 + ((2 : Int32) * a3)).toNatClampNeg), .inl (0 : Int32), .inl (a1 - (1 : Int32))]) (S := []) o (a_X12_in g k.2.1 n j r hj hr (M 84 (a1 + ((2 : Int32) * a3)).toNatClampNeg) (0 : Int32) (a1 - (1 : Int32)) M) (Nat.le_of_ble_eq_true rfl) zs_X12_in rfl ml_X12_153 (Nat.le_of_ble_eq_true rfl) (q_dm dm_X12_takesPast 62 rfl) (fun r1 m2 => ?_)
    refine qr_if_eq (tgt := 125) o (q_dm dm_X12_takesPast 63 rfl) (by decide) ?_ ?_
    · refine qr_iconst o (q_dm dm_X12_takesPast 78 rfl) ic_0 ?_
      exact qr_iret o rfl (by decide) (q_dm dm_X12_takesPast 79 rfl)
    · refine qr_aload_n o (q_dm dm_X12_takesPast 64 rfl) rfl ?_
      refine qr_getr (kf := 7) o cf_X12 (sh77 j r) rfl (Nat.le_of_ble_eq_true rfl) fl_X12_28 (q_dm dm_X12_takesPast 65 rfl) ?_
      refine qr_iload_n o (q_dm dm_X12_takesPast 66 rfl) rfl ?_
      refine qr_iconst o (q_dm dm_X12_takesPast 67 rfl) ic_2 ?_
      refine qr_iload_n o (q_dm dm_X12_takesPast 68 rfl) rfl ?_
      refine qr_imul o (q_dm dm_X12_takesPast 69 rfl) ?_
      refine qr_iadd o (q_dm dm_X12_takesPast 70 rfl) ?_
      refine qr_iconst o (q_dm dm_X12_takesPast 71 rfl) ic_1 ?_
      refine qr_iadd o (q_dm dm_X12_takesPast 72 rfl) ?_
      refine qr_bald o (sh84 j r) (q_dm dm_X12_takesPast 73 rfl) ?_
      refine qr_iconst o (q_dm dm_X12_takesPast 74 rfl) ic_0 ?_
      refine qr_iconst o (q_dm dm_X12_takesPast 75 rfl) ic_1 ?_
      refine qr_calls_i (As := [.inl (m2 84 ((a1 + ((2 : Int32) * a3)) + (1 : Int32)).toNatClampNeg), .inl (0 : Int32), .inl (1 : Int32)]) (S := []) o (a_X12_in g k.2.1 n j r hj hr (m2 84 ((a1 + ((2 : Int32) * a3)) + (1 : Int32)).toNatClampNeg) (0 : Int32) (1 : Int32) m2) (Nat.le_of_ble_eq_true rfl) zs_X12_in rfl ml_X12_153 (Nat.le_of_ble_eq_true rfl) (q_dm dm_X12_takesPast 76 rfl) (fun r3 m4 => ?_)
      refine qr_if_ne (tgt := 127) o (q_dm dm_X12_takesPast 77 rfl) (by decide) ?_ ?_
      · refine qs_iincl2 (L' := fun x5 => [some (.inr (some 77)), some (.inl a1), some (.inl a2), some (.inl x5), none]) o (q_dm dm_X12_takesPast 80 rfl) rfl ic_1 (Nat.le_of_ble_eq_true rfl) (fun _ => rfl) (fun x5 => ?_)
        refine qr_goto (tgt := 80) o (q_dm dm_X12_takesPast 81 rfl) (by decide) ?_
        exact qr_loc (q_leS (q_leS (q_leS (q_leS (q_leN q_le0))))) (hK80 a1 a2 x5 m4)
      · refine qr_iconst o (q_dm dm_X12_takesPast 78 rfl) ic_0 ?_
        exact qr_iret o rfl (by decide) (q_dm dm_X12_takesPast 79 rfl)

def f_X12_takesPast_80 (n : Nat) : Nat → Int32 → Int32 → Int32 → qM → qR
  | 0, _, _, _, _ => none
  | m + 1, a1, a2, a3, M => b_X12_takesPast_80 n (f_X12_takesPast_80 n m) a1 a2 a3 M
theorem w_X12_takesPast_80 {g : qG} {k : qK} (n : Nat) (j r : Nat) (hj : q_isLaw j) (hr : q_isLaw r) (o : qOk g 3 zX12_takesPast k) : ∀ (m : Nat) (a1 a2 a3 : Int32) (M : qM), qAE g k zX12_takesPast (qL j r) 80 [some (.inr (some 77)), some (.inl a1), some (.inl a2), some (.inl a3), none] [] (qL j r, M) (f_X12_takesPast_80 n m a1 a2 a3 M) := by
  intro m
  induction m with
  | zero =>
    intro a1 a2 a3 M
    exact qr_none
  | succ m ih =>
    intro a1 a2 a3 M
    exact wb_X12_takesPast_80 n j r hj hr o (f_X12_takesPast_80 n m) ih a1 a2 a3 M
def b_X12_takesPast_42 (n : Nat) (K7 : Int32 → Int32 → Int32 → qM → qR) (K42 : Int32 → Int32 → Int32 → Int32 → qM → qR) (a1 a2 a3 a4 : Int32) (M : qM) : qR :=
  (if a3 ≤ a4 then ql (a3 + (1 : Int32)) (fun x1 => K7 a1 a2 x1 M) else qg a4 4 (qg a3 4 ((if (M 116 a4.toNatClampNeg) = (M 116 a3.toNatClampNeg) then some ((0 : Int32), M) else ql (a4 + (1 : Int32)) (fun x2 => K42 a1 a2 a3 x2 M)))))
set_option maxRecDepth 4000 in
theorem wb_X12_takesPast_42 {g : qG} {k : qK} (n : Nat) (j r : Nat) (hj : q_isLaw j) (hr : q_isLaw r) (o : qOk g 3 zX12_takesPast k) (K7 : Int32 → Int32 → Int32 → qM → qR) (hK7 : ∀ (a1 a2 a3 : Int32) (M : qM), qAE g k zX12_takesPast (qL j r) 7 [some (.inr (some 77)), some (.inl a1), some (.inl a2), some (.inl a3), none] [] (qL j r, M) (K7 a1 a2 a3 M)) (K42 : Int32 → Int32 → Int32 → Int32 → qM → qR) (hK42 : ∀ (a1 a2 a3 a4 : Int32) (M : qM), qAE g k zX12_takesPast (qL j r) 42 [some (.inr (some 77)), some (.inl a1), some (.inl a2), some (.inl a3), some (.inl a4)] [] (qL j r, M) (K42 a1 a2 a3 a4 M)) (a1 a2 a3 a4 : Int32) (M : qM) : qAE g k zX12_takesPast (qL j r) 42 [some (.inr (some 77)), some (.inl a1), some (.inl a2), some (.inl a3), some (.inl a4)] [] (qL j r, M) (b_X12_takesPast_42 n K7 K42 a1 a2 a3 a4 M) := by
  unfold b_X12_takesPast_42
  refine qr_iload o (q_dm dm_X12_takesPast 27 rfl) rfl ?_
  refine qr_iload_n o (q_dm dm_X12_takesPast 28 rfl) rfl ?_
  refine qr_icmp_ge (tgt := 72) o (q_dm dm_X12_takesPast 29 rfl) (by decide) ?_ ?_
  · refine qs_iincl2 (L' := fun x1 => [some (.inr (some 77)), some (.inl a1), some (.inl a2), some (.inl x1), some (.inl a4)]) o (q_dm dm_X12_takesPast 43 rfl) rfl ic_1 (Nat.le_of_ble_eq_true rfl) (fun _ => rfl) (fun x1 => ?_)
    refine qr_goto (tgt := 7) o (q_dm dm_X12_takesPast 44 rfl) (by decide) ?_
    exact qr_loc (q_leS (q_leS (q_leS (q_leS (q_leN q_le0))))) (hK7 a1 a2 x1 M)
  · refine qr_aload_n o (q_dm dm_X12_takesPast 30 rfl) rfl ?_
    refine qr_getr (kf := 62) o cf_X12 (sh77 j r) rfl (Nat.le_of_ble_eq_true rfl) fl_X12_127 (q_dm dm_X12_takesPast 31 rfl) ?_
    refine qr_iload o (q_dm dm_X12_takesPast 32 rfl) rfl ?_
    refine qr_iald o (sh116 j r) (q_dm dm_X12_takesPast 33 rfl) ?_
    refine qr_aload_n o (q_dm dm_X12_takesPast 34 rfl) rfl ?_
    refine qr_getr (kf := 62) o cf_X12 (sh77 j r) rfl (Nat.le_of_ble_eq_true rfl) fl_X12_127 (q_dm dm_X12_takesPast 35 rfl) ?_
    refine qr_iload_n o (q_dm dm_X12_takesPast 36 rfl) rfl ?_
    refine qr_iald o (sh116 j r) (q_dm dm_X12_takesPast 37 rfl) ?_
    refine qr_icmp_ne (tgt := 66) o (q_dm dm_X12_takesPast 38 rfl) (by decide) ?_ ?_
    · refine qs_iincl2 (L' := fun x2 => [some (.inr (some 77)), some (.inl a1), some (.inl a2), some (.inl a3), some (.inl x2)]) o (q_dm dm_X12_takesPast 41 rfl) rfl ic_1 (Nat.le_of_ble_eq_true rfl) (fun _ => rfl) (fun x2 => ?_)
      refine qr_goto (tgt := 42) o (q_dm dm_X12_takesPast 42 rfl) (by decide) ?_
      exact qr_loc (q_leS (q_leS (q_leS (q_leS (q_leS q_le0))))) (hK42 a1 a2 a3 x2 M)
    · refine qr_iconst o (q_dm dm_X12_takesPast 39 rfl) ic_0 ?_
      exact qr_iret o rfl (by decide) (q_dm dm_X12_takesPast 40 rfl)

def f_X12_takesPast_42 (n : Nat) (K7 : Int32 → Int32 → Int32 → qM → qR) : Nat → Int32 → Int32 → Int32 → Int32 → qM → qR
  | 0, _, _, _, _, _ => none
  | m + 1, a1, a2, a3, a4, M => b_X12_takesPast_42 n K7 (f_X12_takesPast_42 n K7 m) a1 a2 a3 a4 M
theorem w_X12_takesPast_42 {g : qG} {k : qK} (n : Nat) (j r : Nat) (hj : q_isLaw j) (hr : q_isLaw r) (o : qOk g 3 zX12_takesPast k) (K7 : Int32 → Int32 → Int32 → qM → qR) (hK7 : ∀ (a1 a2 a3 : Int32) (M : qM), qAE g k zX12_takesPast (qL j r) 7 [some (.inr (some 77)), some (.inl a1), some (.inl a2), some (.inl a3), none] [] (qL j r, M) (K7 a1 a2 a3 M)) : ∀ (m : Nat) (a1 a2 a3 a4 : Int32) (M : qM), qAE g k zX12_takesPast (qL j r) 42 [some (.inr (some 77)), some (.inl a1), some (.inl a2), some (.inl a3), some (.inl a4)] [] (qL j r, M) (f_X12_takesPast_42 n K7 m a1 a2 a3 a4 M) := by
  intro m
  induction m with
  | zero =>
    intro a1 a2 a3 a4 M
    exact qr_none
  | succ m ih =>
    intro a1 a2 a3 a4 M
    exact wb_X12_takesPast_42 n j r hj hr o K7 hK7 (f_X12_takesPast_42 n K7 m) ih a1 a2 a3 a4 M
def b_X12_takesPast_7 (n : Nat) (K7 : Int32 → Int32 → Int32 → qM → qR) (a1 a2 a3 : Int32) (M : qM) : qR :=
  (if a1 ≤ a3 then f_X12_takesPast_80 n n a1 a2 (0 : Int32) M else qg a3 260 (qg a3 4 (qlm (mu M 116 a3.toNatClampNeg (M 84 a3.toNatClampNeg)) (fun m1 => qg a3 4 (qc (f_X12_isKind n (m1 116 a3.toNatClampNeg) m1) (fun r2 m3 => (if r2 = (0 : Int32) then some ((0 : Int32), m3) else f_X12_takesPast_42 n K7 n a1 a2 a3 (0 : Int32) m3)))))))
set_option maxRecDepth 4000 in
theorem wb_X12_takesPast_7 {g : qG} {k : qK} (n : Nat) (j r : Nat) (hj : q_isLaw j) (hr : q_isLaw r) (o : qOk g 3 zX12_takesPast k) (K7 : Int32 → Int32 → Int32 → qM → qR) (hK7 : ∀ (a1 a2 a3 : Int32) (M : qM), qAE g k zX12_takesPast (qL j r) 7 [some (.inr (some 77)), some (.inl a1), some (.inl a2), some (.inl a3), none] [] (qL j r, M) (K7 a1 a2 a3 M)) (a1 a2 a3 : Int32) (M : qM) : qAE g k zX12_takesPast (qL j r) 7 [some (.inr (some 77)), some (.inl a1), some (.inl a2), some (.inl a3), none] [] (qL j r, M) (b_X12_takesPast_7 n K7 a1 a2 a3 M) := by
  unfold b_X12_takesPast_7
  refine qr_iload_n o (q_dm dm_X12_takesPast 5 rfl) rfl ?_
  refine qr_iload_n o (q_dm dm_X12_takesPast 6 rfl) rfl ?_
  refine qr_icmp_ge (tgt := 78) o (q_dm dm_X12_takesPast 7 rfl) (by decide) ?_ ?_
  · refine qr_iconst o (q_dm dm_X12_takesPast 45 rfl) ic_0 ?_
    refine qs_istore_n (L' := [some (.inr (some 77)), some (.inl a1), some (.inl a2), some (.inl (0 : Int32)), none]) o (q_dm dm_X12_takesPast 46 rfl) (Nat.le_of_ble_eq_true rfl) rfl ?_
    exact qr_loc (q_leS (q_leS (q_leS (q_leS (q_leN q_le0))))) (w_X12_takesPast_80 n j r hj hr o n a1 a2 (0 : Int32) M)
  · refine qr_aload_n o (q_dm dm_X12_takesPast 8 rfl) rfl ?_
    refine qr_getr (kf := 62) o cf_X12 (sh77 j r) rfl (Nat.le_of_ble_eq_true rfl) fl_X12_127 (q_dm dm_X12_takesPast 9 rfl) ?_
    refine qr_iload_n o (q_dm dm_X12_takesPast 10 rfl) rfl ?_
    refine qr_aload_n o (q_dm dm_X12_takesPast 11 rfl) rfl ?_
    refine qr_getr (kf := 7) o cf_X12 (sh77 j r) rfl (Nat.le_of_ble_eq_true rfl) fl_X12_28 (q_dm dm_X12_takesPast 12 rfl) ?_
    refine qr_iload_n o (q_dm dm_X12_takesPast 13 rfl) rfl ?_
    refine qr_bald o (sh84 j r) (q_dm dm_X12_takesPast 14 rfl) ?_
    refine qr_iast o (sh116 j r) (q_dm dm_X12_takesPast 15 rfl) ?_
    refine qr_letm (fun m1 => ?_)
    refine qr_aload_n o (q_dm dm_X12_takesPast 16 rfl) rfl ?_
    refine qr_aload_n o (q_dm dm_X12_takesPast 17 rfl) rfl ?_
    refine qr_getr (kf := 62) o cf_X12 (sh77 j r) rfl (Nat.le_of_ble_eq_true rfl) fl_X12_127 (q_dm dm_X12_takesPast 18 rfl) ?_
    refine qr_iload_n o (q_dm dm_X12_takesPast 19 rfl) rfl ?_
    refine qr_iald o (sh116 j r) (q_dm dm_X12_takesPast 20 rfl) ?_
    refine qr_callv_i (As := [.inl (m1 116 a3.toNatClampNeg)]) (S := []) o (a_X12_isKind g k.2.1 n j r hj hr (m1 116 a3.toNatClampNeg) m1) (Nat.le_of_ble_eq_true rfl) zv_X12_isKind rfl cf_X12 (sh77 j r) ml_X12_157 (Nat.le_of_ble_eq_true rfl) (q_dm dm_X12_takesPast 21 rfl) (fun r2 m3 => ?_)
    refine qr_if_ne (tgt := 39) o (q_dm dm_X12_takesPast 22 rfl) (by decide) ?_ ?_
    · refine qr_iconst o (q_dm dm_X12_takesPast 25 rfl) ic_0 ?_
      refine qs_istore (L' := [some (.inr (some 77)), some (.inl a1), some (.inl a2), some (.inl a3), some (.inl (0 : Int32))]) o (q_dm dm_X12_takesPast 26 rfl) (Nat.le_of_ble_eq_true rfl) rfl ?_
      exact qr_loc (q_leS (q_leS (q_leS (q_leS (q_leS q_le0))))) (w_X12_takesPast_42 n j r hj hr o K7 hK7 n a1 a2 a3 (0 : Int32) m3)
    · refine qr_iconst o (q_dm dm_X12_takesPast 23 rfl) ic_0 ?_
      exact qr_iret o rfl (by decide) (q_dm dm_X12_takesPast 24 rfl)

def f_X12_takesPast_7 (n : Nat) : Nat → Int32 → Int32 → Int32 → qM → qR
  | 0, _, _, _, _ => none
  | m + 1, a1, a2, a3, M => b_X12_takesPast_7 n (f_X12_takesPast_7 n m) a1 a2 a3 M
theorem w_X12_takesPast_7 {g : qG} {k : qK} (n : Nat) (j r : Nat) (hj : q_isLaw j) (hr : q_isLaw r) (o : qOk g 3 zX12_takesPast k) : ∀ (m : Nat) (a1 a2 a3 : Int32) (M : qM), qAE g k zX12_takesPast (qL j r) 7 [some (.inr (some 77)), some (.inl a1), some (.inl a2), some (.inl a3), none] [] (qL j r, M) (f_X12_takesPast_7 n m a1 a2 a3 M) := by
  intro m
  induction m with
  | zero =>
    intro a1 a2 a3 M
    exact qr_none
  | succ m ih =>
    intro a1 a2 a3 M
    exact wb_X12_takesPast_7 n j r hj hr o (f_X12_takesPast_7 n m) ih a1 a2 a3 M
def f_X12_takesPast (n : Nat) (a1 a2 : Int32) (M : qM) : qR :=
  qlm (mu M 77 61 a1) (fun m1 => f_X12_takesPast_7 n n a1 a2 (0 : Int32) m1)
set_option maxRecDepth 4000 in
theorem w_X12_takesPast {g : qG} {k : qK} (n : Nat) (j r : Nat) (hj : q_isLaw j) (hr : q_isLaw r) (o : qOk g 3 zX12_takesPast k) (a1 a2 : Int32) (M : qM) : qAE g k zX12_takesPast (qL j r) 0 [some (.inr (some 77)), some (.inl a1), some (.inl a2), none, none] [] (qL j r, M) (f_X12_takesPast n a1 a2 M) := by
  unfold f_X12_takesPast
  refine qr_aload_n o (q_dm dm_X12_takesPast 0 rfl) rfl ?_
  refine qr_iload_n o (q_dm dm_X12_takesPast 1 rfl) rfl ?_
  refine qr_putf (kf := 61) o cf_X12 (sh77 j r) rfl (Nat.le_of_ble_eq_true rfl) fl_X12_454 rfl (by decide +kernel) (q_dm dm_X12_takesPast 2 rfl) ?_
  refine qr_letm (fun m1 => ?_)
  refine qr_iconst o (q_dm dm_X12_takesPast 3 rfl) ic_0 ?_
  refine qs_istore_n (L' := [some (.inr (some 77)), some (.inl a1), some (.inl a2), some (.inl (0 : Int32)), none]) o (q_dm dm_X12_takesPast 4 rfl) (Nat.le_of_ble_eq_true rfl) rfl ?_
  exact qr_loc (q_leS (q_leS (q_leS (q_leS (q_leN q_le0))))) (w_X12_takesPast_7 n j r hj hr o n a1 a2 (0 : Int32) m1)

theorem a_X12_takesPast (g : qG) (l : Launch) (n : Nat) (j r : Nat) (hj : q_isLaw j) (hr : q_isLaw r) (a1 a2 : Int32) (M : qM) : qAM g l 3 zX12_takesPast (qL j r) [.inr (some 77), .inl a1, .inl a2] (qL j r, M) (f_X12_takesPast n a1 a2 M) :=
  qAM.of zv_X12_takesPast.1 (by show 3 ≤ 5; decide) (fun k hk o => w_X12_takesPast n j r hj hr o a1 a2 M)
def tb_X12_histories : List (Nat × Instr × Nat) := [(0, (.iload_n 1, 1)), (1, (.iconst 1, 1)), (2, (.iconst 4, 1)), (3, (.invokestatic 153, 3)), (6, (.ifCond .eq 45, 3)), (9, (.iload_n 2, 1)), (10, (.iconst 0, 1)), (11, (.bipush 10, 2)), (13, (.invokestatic 153, 3)), (16, (.ifCond .eq 35, 3)), (19, (.iload_n 3, 1)), (20, (.iconst 0, 1)), (21, (.bipush 9, 2)), (23, (.invokestatic 153, 3)), (26, (.ifCond .eq 25, 3)), (29, (.iload 4, 2)), (31, (.iconst 0, 1)), (32, (.iconst 2, 1)), (33, (.invokestatic 153, 3)), (36, (.ifCond .eq 15, 3)), (39, (.iload_n 1, 1)), (40, (.iconst 2, 1)), (41, (.iload_n 2, 1)), (42, (.imul, 1)), (43, (.iadd, 1)), (44, (.aload_n 0, 1)), (45, (.getfield 162, 3)), (48, (.if_icmp .le 5, 3)), (51, (.iconst (-1), 1)), (52, (.ireturn, 1)), (53, (.aload_n 0, 1)), (54, (.iconst 0, 1)), (55, (.putfield 162, 3)), (58, (.aload_n 0, 1)), (59, (.iload_n 1, 1)), (60, (.iload_n 2, 1)), (61, (.invokevirtual 466, 3)), (64, (.ifCond .ne 6, 3)), (67, (.bipush (-3), 2)), (69, (.ireturn, 1)), (70, (.iconst 1, 1)), (71, (.iconst 2, 1)), (72, (.iload_n 1, 1)), (73, (.imul, 1)), (74, (.ishl, 1)), (75, (.istore 5, 2)), (77, (.iconst 0, 1)), (78, (.istore 6, 2)), (80, (.bipush (-2), 2)), (82, (.istore 7, 2)), (84, (.iconst 0, 1)), (85, (.istore 8, 2)), (87, (.iload 8, 2)), (89, (.iload 5, 2)), (91, (.if_icmp .ge 68, 3)), (94, (.aload_n 0, 1)), (95, (.getfield 136, 3)), (98, (.iload 8, 2)), (100, (.aload_n 0, 1)), (101, (.iload 8, 2)), (103, (.iload_n 2, 1)), (104, (.iload_n 3, 1)), (105, (.invokevirtual 463, 3)), (108, (.bastore, 1)), (109, (.aload_n 0, 1)), (110, (.getfield 136, 3)), (113, (.iload 8, 2)), (115, (.baload, 1)), (116, (.ifCond .eq 13, 3)), (119, (.iload 6, 2)), (121, (.ifCond .ne 8, 3)), (124, (.iload 8, 2)), (126, (.goto 5, 3)), (129, (.iload 7, 2)), (131, (.istore 7, 2)), (133, (.iload 6, 2)), (135, (.aload_n 0, 1)), (136, (.getfield 136, 3)), (139, (.iload 8, 2)), (141, (.baload, 1)), (142, (.ifCond .eq 7, 3)), (145, (.iconst 1, 1)), (146, (.goto 4, 3)), (149, (.iconst 0, 1)), (150, (.iadd, 1)), (151, (.istore 6, 2)), (153, (.iinc 8 1, 3)), (156, (.goto (-69), 3)), (159, (.iload 4, 2)), (161, (.iconst 2, 1)), (162, (.if_icmp .ge 16, 3)), (165, (.iload 4, 2)), (167, (.ifCond .ne 8, 3)), (170, (.iload 6, 2)), (172, (.goto 5, 3)), (175, (.iload 7, 2)), (177, (.ireturn, 1)), (178, (.iconst 0, 1)), (179, (.istore 8, 2)), (181, (.iconst 1, 1)), (182, (.istore 9, 2)), (184, (.iload 9, 2)), (186, (.iload_n 1, 1)), (187, (.if_icmp .ge 36, 3)), (190, (.aload_n 0, 1)), (191, (.iload 9, 2)), (193, (.iload 5, 2)), (195, (.iload_n 2, 1)), (196, (.iload_n 3, 1)), (197, (.invokevirtual 469, 3)), (200, (.aload_n 0, 1)), (201, (.iload 8, 2)), (203, (.iload 5, 2)), (205, (.iload_n 2, 1)), (206, (.iload_n 3, 1)), (207, (.invokevirtual 469, 3)), (210, (.if_icmp .ge 7, 3)), (213, (.iload 9, 2)), (215, (.istore 8, 2)), (217, (.iinc 9 1, 3)), (220, (.goto (-36), 3)), (223, (.iload 8, 2)), (225, (.ireturn, 1))]
theorem dm_X12_histories : ∀ q ∈ tb_X12_histories, decode zX12_histories.2.1 q.1 = .ok q.2 := by decide +kernel
def b_X12_histories_184 (n : Nat) (K184 : Int32 → Int32 → Int32 → Int32 → Int32 → Int32 → qM → qR) (a1 a2 a3 a5 a8 a9 : Int32) (M : qM) : qR :=
  (if a1 ≤ a9 then some (a8, M) else qc (f_X12_greaterBy n a9 a5 a2 a3 M) (fun r1 m2 => qc (f_X12_greaterBy n a8 a5 a2 a3 m2) (fun r3 m4 => (if r3 ≤ r1 then ql (a9 + (1 : Int32)) (fun x5 => K184 a1 a2 a3 a5 a8 x5 m4) else ql (a9 + (1 : Int32)) (fun x6 => K184 a1 a2 a3 a5 a9 x6 m4)))))
set_option maxRecDepth 4000 in
theorem wb_X12_histories_184 {g : qG} {k : qK} (n : Nat) (j r : Nat) (hj : q_isLaw j) (hr : q_isLaw r) (o : qOk g 4 zX12_histories k) (K184 : Int32 → Int32 → Int32 → Int32 → Int32 → Int32 → qM → qR) (hK184 : ∀ (a1 a2 a3 a5 a8 a9 : Int32) (M : qM), qAE g k zX12_histories (qL j r) 184 [some (.inr (some 77)), some (.inl a1), some (.inl a2), some (.inl a3), none, some (.inl a5), none, none, some (.inl a8), some (.inl a9)] [] (qL j r, M) (K184 a1 a2 a3 a5 a8 a9 M)) (a1 a2 a3 a5 a8 a9 : Int32) (M : qM) : qAE g k zX12_histories (qL j r) 184 [some (.inr (some 77)), some (.inl a1), some (.inl a2), some (.inl a3), none, some (.inl a5), none, none, some (.inl a8), some (.inl a9)] [] (qL j r, M) (b_X12_histories_184 n K184 a1 a2 a3 a5 a8 a9 M) := by
  unfold b_X12_histories_184
  refine qr_iload o (q_dm dm_X12_histories 101 rfl) rfl ?_
  refine qr_iload_n o (q_dm dm_X12_histories 102 rfl) rfl ?_
  refine qr_icmp_ge (tgt := 223) o (q_dm dm_X12_histories 103 rfl) (by decide) ?_ ?_
  · refine qr_iload o (q_dm dm_X12_histories 121 rfl) rfl ?_
    exact qr_iret o rfl rfl (q_dm dm_X12_histories 122 rfl)
  · refine qr_aload_n o (q_dm dm_X12_histories 104 rfl) rfl ?_
    refine qr_iload o (q_dm dm_X12_histories 105 rfl) rfl ?_
    refine qr_iload o (q_dm dm_X12_histories 106 rfl) rfl ?_
    refine qr_iload_n o (q_dm dm_X12_histories 107 rfl) rfl ?_
    refine qr_iload_n o (q_dm dm_X12_histories 108 rfl) rfl ?_
    refine qr_callv_i (As := [.inl a9, .inl a5, .inl a2, .inl a3]) (S := []) o (a_X12_greaterBy g k.2.1 n j r hj hr a9 a5 a2 a3 M) (Nat.le_of_ble_eq_true rfl) zv_X12_greaterBy rfl cf_X12 (sh77 j r) ml_X12_469 (Nat.le_of_ble_eq_true rfl) (q_dm dm_X12_histories 109 rfl) (fun r1 m2 => ?_)
    refine qr_aload_n o (q_dm dm_X12_histories 110 rfl) rfl ?_
    refine qr_iload o (q_dm dm_X12_histories 111 rfl) rfl ?_
    refine qr_iload o (q_dm dm_X12_histories 112 rfl) rfl ?_
    refine qr_iload_n o (q_dm dm_X12_histories 113 rfl) rfl ?_
    refine qr_iload_n o (q_dm dm_X12_histories 114 rfl) rfl ?_
    refine qr_callv_i (As := [.inl a8, .inl a5, .inl a2, .inl a3]) (S := [.inl r1]) o (a_X12_greaterBy g k.2.1 n j r hj hr a8 a5 a2 a3 m2) (Nat.le_of_ble_eq_true rfl) zv_X12_greaterBy rfl cf_X12 (sh77 j r) ml_X12_469 (Nat.le_of_ble_eq_true rfl) (q_dm dm_X12_histories 115 rfl) (fun r3 m4 => ?_)
    refine qr_icmp_ge (tgt := 217) o (q_dm dm_X12_histories 116 rfl) (by decide) ?_ ?_
    · refine qs_iincl2 (L' := fun x5 => [some (.inr (some 77)), some (.inl a1), some (.inl a2), some (.inl a3), none, some (.inl a5), none, none, some (.inl a8), some (.inl x5)]) o (q_dm dm_X12_histories 119 rfl) rfl ic_1 (Nat.le_of_ble_eq_true rfl) (fun _ => rfl) (fun x5 => ?_)
      refine qr_goto (tgt := 184) o (q_dm dm_X12_histories 120 rfl) (by decide) ?_
      exact qr_loc (q_leS (q_leS (q_leS (q_leS (q_leN (q_leS (q_leN (q_leN (q_leS (q_leS q_le0)))))))))) (hK184 a1 a2 a3 a5 a8 x5 m4)
    · refine qr_iload o (q_dm dm_X12_histories 117 rfl) rfl ?_
      refine qs_istore (L' := [some (.inr (some 77)), some (.inl a1), some (.inl a2), some (.inl a3), none, some (.inl a5), none, none, some (.inl a9), some (.inl a9)]) o (q_dm dm_X12_histories 118 rfl) (Nat.le_of_ble_eq_true rfl) rfl ?_
      refine qs_iincl2 (L' := fun x6 => [some (.inr (some 77)), some (.inl a1), some (.inl a2), some (.inl a3), none, some (.inl a5), none, none, some (.inl a9), some (.inl x6)]) o (q_dm dm_X12_histories 119 rfl) rfl ic_1 (Nat.le_of_ble_eq_true rfl) (fun _ => rfl) (fun x6 => ?_)
      refine qr_goto (tgt := 184) o (q_dm dm_X12_histories 120 rfl) (by decide) ?_
      exact qr_loc (q_leS (q_leS (q_leS (q_leS (q_leN (q_leS (q_leN (q_leN (q_leS (q_leS q_le0)))))))))) (hK184 a1 a2 a3 a5 a9 x6 m4)

def f_X12_histories_184 (n : Nat) : Nat → Int32 → Int32 → Int32 → Int32 → Int32 → Int32 → qM → qR
  | 0, _, _, _, _, _, _, _ => none
  | m + 1, a1, a2, a3, a5, a8, a9, M => b_X12_histories_184 n (f_X12_histories_184 n m) a1 a2 a3 a5 a8 a9 M
theorem w_X12_histories_184 {g : qG} {k : qK} (n : Nat) (j r : Nat) (hj : q_isLaw j) (hr : q_isLaw r) (o : qOk g 4 zX12_histories k) : ∀ (m : Nat) (a1 a2 a3 a5 a8 a9 : Int32) (M : qM), qAE g k zX12_histories (qL j r) 184 [some (.inr (some 77)), some (.inl a1), some (.inl a2), some (.inl a3), none, some (.inl a5), none, none, some (.inl a8), some (.inl a9)] [] (qL j r, M) (f_X12_histories_184 n m a1 a2 a3 a5 a8 a9 M) := by
  intro m
  induction m with
  | zero =>
    intro a1 a2 a3 a5 a8 a9 M
    exact qr_none
  | succ m ih =>
    intro a1 a2 a3 a5 a8 a9 M
    exact wb_X12_histories_184 n j r hj hr o (f_X12_histories_184 n m) ih a1 a2 a3 a5 a8 a9 M
def f_X12_histories_150 (n : Nat) (K87 : Int32 → Int32 → Int32 → Int32 → Int32 → Int32 → Int32 → Int32 → qM → qR) (a1 a2 a3 a4 a5 a7 a8 s0 s1 : Int32) (M : qM) : qR :=
  ql (s0 + s1) (fun x1 => ql (a8 + (1 : Int32)) (fun x2 => K87 a1 a2 a3 a4 a5 x1 a7 x2 M))
set_option maxRecDepth 4000 in
theorem w_X12_histories_150 {g : qG} {k : qK} (n : Nat) (j r : Nat) (hj : q_isLaw j) (hr : q_isLaw r) (o : qOk g 4 zX12_histories k) (K87 : Int32 → Int32 → Int32 → Int32 → Int32 → Int32 → Int32 → Int32 → qM → qR) (hK87 : ∀ (a1 a2 a3 a4 a5 a6 a7 a8 : Int32) (M : qM), qAE g k zX12_histories (qL j r) 87 [some (.inr (some 77)), some (.inl a1), some (.inl a2), some (.inl a3), some (.inl a4), some (.inl a5), some (.inl a6), some (.inl a7), some (.inl a8), none] [] (qL j r, M) (K87 a1 a2 a3 a4 a5 a6 a7 a8 M)) (a1 a2 a3 a4 a5 a7 a8 s0 s1 : Int32) (M : qM) : qAE g k zX12_histories (qL j r) 150 [some (.inr (some 77)), some (.inl a1), some (.inl a2), some (.inl a3), some (.inl a4), some (.inl a5), none, some (.inl a7), some (.inl a8), none] [.inl s1, .inl s0] (qL j r, M) (f_X12_histories_150 n K87 a1 a2 a3 a4 a5 a7 a8 s0 s1 M) := by
  unfold f_X12_histories_150
  refine qr_iadd o (q_dm dm_X12_histories 84 rfl) ?_
  refine qr_lt (fun x1 => ?_)
  refine qs_istore (L' := [some (.inr (some 77)), some (.inl a1), some (.inl a2), some (.inl a3), some (.inl a4), some (.inl a5), some (.inl x1), some (.inl a7), some (.inl a8), none]) o (q_dm dm_X12_histories 85 rfl) (Nat.le_of_ble_eq_true rfl) rfl ?_
  refine qs_iincl2 (L' := fun x2 => [some (.inr (some 77)), some (.inl a1), some (.inl a2), some (.inl a3), some (.inl a4), some (.inl a5), some (.inl x1), some (.inl a7), some (.inl x2), none]) o (q_dm dm_X12_histories 86 rfl) rfl ic_1 (Nat.le_of_ble_eq_true rfl) (fun _ => rfl) (fun x2 => ?_)
  refine qr_goto (tgt := 87) o (q_dm dm_X12_histories 87 rfl) (by decide) ?_
  exact qr_loc (q_leS (q_leS (q_leS (q_leS (q_leS (q_leS (q_leS (q_leS (q_leS (q_leN q_le0)))))))))) (hK87 a1 a2 a3 a4 a5 x1 a7 x2 M)

def f_X12_histories_131 (n : Nat) (K87 : Int32 → Int32 → Int32 → Int32 → Int32 → Int32 → Int32 → Int32 → qM → qR) (a1 a2 a3 a4 a5 a6 a8 s0 : Int32) (M : qM) : qR :=
  qg a8 256 ((if (M 119 a8.toNatClampNeg) = (0 : Int32) then f_X12_histories_150 n K87 a1 a2 a3 a4 a5 s0 a8 a6 (0 : Int32) M else f_X12_histories_150 n K87 a1 a2 a3 a4 a5 s0 a8 a6 (1 : Int32) M))
set_option maxRecDepth 4000 in
theorem w_X12_histories_131 {g : qG} {k : qK} (n : Nat) (j r : Nat) (hj : q_isLaw j) (hr : q_isLaw r) (o : qOk g 4 zX12_histories k) (K87 : Int32 → Int32 → Int32 → Int32 → Int32 → Int32 → Int32 → Int32 → qM → qR) (hK87 : ∀ (a1 a2 a3 a4 a5 a6 a7 a8 : Int32) (M : qM), qAE g k zX12_histories (qL j r) 87 [some (.inr (some 77)), some (.inl a1), some (.inl a2), some (.inl a3), some (.inl a4), some (.inl a5), some (.inl a6), some (.inl a7), some (.inl a8), none] [] (qL j r, M) (K87 a1 a2 a3 a4 a5 a6 a7 a8 M)) (a1 a2 a3 a4 a5 a6 a8 s0 : Int32) (M : qM) : qAE g k zX12_histories (qL j r) 131 [some (.inr (some 77)), some (.inl a1), some (.inl a2), some (.inl a3), some (.inl a4), some (.inl a5), some (.inl a6), none, some (.inl a8), none] [.inl s0] (qL j r, M) (f_X12_histories_131 n K87 a1 a2 a3 a4 a5 a6 a8 s0 M) := by
  unfold f_X12_histories_131
  refine qs_istore (L' := [some (.inr (some 77)), some (.inl a1), some (.inl a2), some (.inl a3), some (.inl a4), some (.inl a5), some (.inl a6), some (.inl s0), some (.inl a8), none]) o (q_dm dm_X12_histories 74 rfl) (Nat.le_of_ble_eq_true rfl) rfl ?_
  refine qr_iload o (q_dm dm_X12_histories 75 rfl) rfl ?_
  refine qr_aload_n o (q_dm dm_X12_histories 76 rfl) rfl ?_
  refine qr_getr (kf := 65) o cf_X12 (sh77 j r) rfl (Nat.le_of_ble_eq_true rfl) fl_X12_136 (q_dm dm_X12_histories 77 rfl) ?_
  refine qr_iload o (q_dm dm_X12_histories 78 rfl) rfl ?_
  refine qr_zald o (sh119 j r) (q_dm dm_X12_histories 79 rfl) ?_
  refine qr_if_eq (tgt := 149) o (q_dm dm_X12_histories 80 rfl) (by decide) ?_ ?_
  · refine qr_iconst o (q_dm dm_X12_histories 83 rfl) ic_0 ?_
    exact qr_loc (q_leS (q_leS (q_leS (q_leS (q_leS (q_leS (q_leN (q_leS (q_leS (q_leN q_le0)))))))))) (w_X12_histories_150 n j r hj hr o K87 hK87 a1 a2 a3 a4 a5 s0 a8 a6 (0 : Int32) M)
  · refine qr_iconst o (q_dm dm_X12_histories 81 rfl) ic_1 ?_
    refine qr_goto (tgt := 150) o (q_dm dm_X12_histories 82 rfl) (by decide) ?_
    exact qr_loc (q_leS (q_leS (q_leS (q_leS (q_leS (q_leS (q_leN (q_leS (q_leS (q_leN q_le0)))))))))) (w_X12_histories_150 n j r hj hr o K87 hK87 a1 a2 a3 a4 a5 s0 a8 a6 (1 : Int32) M)

def f_X12_histories_129 (n : Nat) (K87 : Int32 → Int32 → Int32 → Int32 → Int32 → Int32 → Int32 → Int32 → qM → qR) (a1 a2 a3 a4 a5 a6 a7 a8 : Int32) (M : qM) : qR :=
  f_X12_histories_131 n K87 a1 a2 a3 a4 a5 a6 a8 a7 M
set_option maxRecDepth 4000 in
theorem w_X12_histories_129 {g : qG} {k : qK} (n : Nat) (j r : Nat) (hj : q_isLaw j) (hr : q_isLaw r) (o : qOk g 4 zX12_histories k) (K87 : Int32 → Int32 → Int32 → Int32 → Int32 → Int32 → Int32 → Int32 → qM → qR) (hK87 : ∀ (a1 a2 a3 a4 a5 a6 a7 a8 : Int32) (M : qM), qAE g k zX12_histories (qL j r) 87 [some (.inr (some 77)), some (.inl a1), some (.inl a2), some (.inl a3), some (.inl a4), some (.inl a5), some (.inl a6), some (.inl a7), some (.inl a8), none] [] (qL j r, M) (K87 a1 a2 a3 a4 a5 a6 a7 a8 M)) (a1 a2 a3 a4 a5 a6 a7 a8 : Int32) (M : qM) : qAE g k zX12_histories (qL j r) 129 [some (.inr (some 77)), some (.inl a1), some (.inl a2), some (.inl a3), some (.inl a4), some (.inl a5), some (.inl a6), some (.inl a7), some (.inl a8), none] [] (qL j r, M) (f_X12_histories_129 n K87 a1 a2 a3 a4 a5 a6 a7 a8 M) := by
  unfold f_X12_histories_129
  refine qr_iload o (q_dm dm_X12_histories 73 rfl) rfl ?_
  exact qr_loc (q_leS (q_leS (q_leS (q_leS (q_leS (q_leS (q_leS (q_leN (q_leS (q_leN q_le0)))))))))) (w_X12_histories_131 n j r hj hr o K87 hK87 a1 a2 a3 a4 a5 a6 a8 a7 M)

def b_X12_histories_87 (n : Nat) (K87 : Int32 → Int32 → Int32 → Int32 → Int32 → Int32 → Int32 → Int32 → qM → qR) (a1 a2 a3 a4 a5 a6 a7 a8 : Int32) (M : qM) : qR :=
  (if a5 ≤ a8 then (if (2 : Int32) ≤ a4 then f_X12_histories_184 n n a1 a2 a3 a5 (0 : Int32) (1 : Int32) M else (if a4 = (0 : Int32) then some (a6, M) else some (a7, M))) else qc (f_X12_goesWith n a8 a2 a3 M) (fun r1 m2 => qg a8 256 (qlm (mu m2 119 a8.toNatClampNeg (vp_nar .boolean r1)) (fun m3 => qg a8 256 ((if (m3 119 a8.toNatClampNeg) = (0 : Int32) then f_X12_histories_129 n K87 a1 a2 a3 a4 a5 a6 a7 a8 m3 else (if a6 = (0 : Int32) then f_X12_histories_131 n K87 a1 a2 a3 a4 a5 a6 a8 a8 m3 else f_X12_histories_129 n K87 a1 a2 a3 a4 a5 a6 a7 a8 m3)))))))
set_option maxRecDepth 4000 in
theorem wb_X12_histories_87 {g : qG} {k : qK} (n : Nat) (j r : Nat) (hj : q_isLaw j) (hr : q_isLaw r) (o : qOk g 4 zX12_histories k) (K87 : Int32 → Int32 → Int32 → Int32 → Int32 → Int32 → Int32 → Int32 → qM → qR) (hK87 : ∀ (a1 a2 a3 a4 a5 a6 a7 a8 : Int32) (M : qM), qAE g k zX12_histories (qL j r) 87 [some (.inr (some 77)), some (.inl a1), some (.inl a2), some (.inl a3), some (.inl a4), some (.inl a5), some (.inl a6), some (.inl a7), some (.inl a8), none] [] (qL j r, M) (K87 a1 a2 a3 a4 a5 a6 a7 a8 M)) (a1 a2 a3 a4 a5 a6 a7 a8 : Int32) (M : qM) : qAE g k zX12_histories (qL j r) 87 [some (.inr (some 77)), some (.inl a1), some (.inl a2), some (.inl a3), some (.inl a4), some (.inl a5), some (.inl a6), some (.inl a7), some (.inl a8), none] [] (qL j r, M) (b_X12_histories_87 n K87 a1 a2 a3 a4 a5 a6 a7 a8 M) := by
  unfold b_X12_histories_87
  refine qr_iload o (q_dm dm_X12_histories 52 rfl) rfl ?_
  refine qr_iload o (q_dm dm_X12_histories 53 rfl) rfl ?_
  refine qr_icmp_ge (tgt := 159) o (q_dm dm_X12_histories 54 rfl) (by decide) ?_ ?_
  · refine qr_iload o (q_dm dm_X12_histories 88 rfl) rfl ?_
    refine qr_iconst o (q_dm dm_X12_histories 89 rfl) ic_2 ?_
    refine qr_icmp_ge (tgt := 178) o (q_dm dm_X12_histories 90 rfl) (by decide) ?_ ?_
    · refine qr_iconst o (q_dm dm_X12_histories 97 rfl) ic_0 ?_
      refine qs_istore (L' := [some (.inr (some 77)), some (.inl a1), some (.inl a2), some (.inl a3), some (.inl a4), some (.inl a5), some (.inl a6), some (.inl a7), some (.inl (0 : Int32)), none]) o (q_dm dm_X12_histories 98 rfl) (Nat.le_of_ble_eq_true rfl) rfl ?_
      refine qr_iconst o (q_dm dm_X12_histories 99 rfl) ic_1 ?_
      refine qs_istore (L' := [some (.inr (some 77)), some (.inl a1), some (.inl a2), some (.inl a3), some (.inl a4), some (.inl a5), some (.inl a6), some (.inl a7), some (.inl (0 : Int32)), some (.inl (1 : Int32))]) o (q_dm dm_X12_histories 100 rfl) (Nat.le_of_ble_eq_true rfl) rfl ?_
      exact qr_loc (q_leS (q_leS (q_leS (q_leS (q_leN (q_leS (q_leN (q_leN (q_leS (q_leS q_le0)))))))))) (w_X12_histories_184 n j r hj hr o n a1 a2 a3 a5 (0 : Int32) (1 : Int32) M)
    · refine qr_iload o (q_dm dm_X12_histories 91 rfl) rfl ?_
      refine qr_if_ne (tgt := 175) o (q_dm dm_X12_histories 92 rfl) (by decide) ?_ ?_
      · refine qr_iload o (q_dm dm_X12_histories 95 rfl) rfl ?_
        exact qr_iret o rfl rfl (q_dm dm_X12_histories 96 rfl)
      · refine qr_iload o (q_dm dm_X12_histories 93 rfl) rfl ?_
        refine qr_goto (tgt := 177) o (q_dm dm_X12_histories 94 rfl) (by decide) ?_
        exact qr_iret o rfl rfl (q_dm dm_X12_histories 96 rfl)
  · refine qr_aload_n o (q_dm dm_X12_histories 55 rfl) rfl ?_
    refine qr_getr (kf := 65) o cf_X12 (sh77 j r) rfl (Nat.le_of_ble_eq_true rfl) fl_X12_136 (q_dm dm_X12_histories 56 rfl) ?_
    refine qr_iload o (q_dm dm_X12_histories 57 rfl) rfl ?_
    refine qr_aload_n o (q_dm dm_X12_histories 58 rfl) rfl ?_
    refine qr_iload o (q_dm dm_X12_histories 59 rfl) rfl ?_
    refine qr_iload_n o (q_dm dm_X12_histories 60 rfl) rfl ?_
    refine qr_iload_n o (q_dm dm_X12_histories 61 rfl) rfl ?_
    refine qr_callv_i (As := [.inl a8, .inl a2, .inl a3]) (S := [.inl a8, .inr (some 119)]) o (a_X12_goesWith g k.2.1 n j r hj hr a8 a2 a3 M) (Nat.le_of_ble_eq_true rfl) zv_X12_goesWith rfl cf_X12 (sh77 j r) ml_X12_463 (Nat.le_of_ble_eq_true rfl) (q_dm dm_X12_histories 62 rfl) (fun r1 m2 => ?_)
    refine qr_zast o (sh119 j r) (q_dm dm_X12_histories 63 rfl) ?_
    refine qr_letm (fun m3 => ?_)
    refine qr_aload_n o (q_dm dm_X12_histories 64 rfl) rfl ?_
    refine qr_getr (kf := 65) o cf_X12 (sh77 j r) rfl (Nat.le_of_ble_eq_true rfl) fl_X12_136 (q_dm dm_X12_histories 65 rfl) ?_
    refine qr_iload o (q_dm dm_X12_histories 66 rfl) rfl ?_
    refine qr_zald o (sh119 j r) (q_dm dm_X12_histories 67 rfl) ?_
    refine qr_if_eq (tgt := 129) o (q_dm dm_X12_histories 68 rfl) (by decide) ?_ ?_
    · exact qr_loc (q_leS (q_leS (q_leS (q_leS (q_leS (q_leS (q_leS (q_leS (q_leS (q_leN q_le0)))))))))) (w_X12_histories_129 n j r hj hr o K87 hK87 a1 a2 a3 a4 a5 a6 a7 a8 m3)
    · refine qr_iload o (q_dm dm_X12_histories 69 rfl) rfl ?_
      refine qr_if_ne (tgt := 129) o (q_dm dm_X12_histories 70 rfl) (by decide) ?_ ?_
      · exact qr_loc (q_leS (q_leS (q_leS (q_leS (q_leS (q_leS (q_leS (q_leS (q_leS (q_leN q_le0)))))))))) (w_X12_histories_129 n j r hj hr o K87 hK87 a1 a2 a3 a4 a5 a6 a7 a8 m3)
      · refine qr_iload o (q_dm dm_X12_histories 71 rfl) rfl ?_
        refine qr_goto (tgt := 131) o (q_dm dm_X12_histories 72 rfl) (by decide) ?_
        exact qr_loc (q_leS (q_leS (q_leS (q_leS (q_leS (q_leS (q_leS (q_leN (q_leS (q_leN q_le0)))))))))) (w_X12_histories_131 n j r hj hr o K87 hK87 a1 a2 a3 a4 a5 a6 a8 a8 m3)

def f_X12_histories_87 (n : Nat) : Nat → Int32 → Int32 → Int32 → Int32 → Int32 → Int32 → Int32 → Int32 → qM → qR
  | 0, _, _, _, _, _, _, _, _, _ => none
  | m + 1, a1, a2, a3, a4, a5, a6, a7, a8, M => b_X12_histories_87 n (f_X12_histories_87 n m) a1 a2 a3 a4 a5 a6 a7 a8 M
theorem w_X12_histories_87 {g : qG} {k : qK} (n : Nat) (j r : Nat) (hj : q_isLaw j) (hr : q_isLaw r) (o : qOk g 4 zX12_histories k) : ∀ (m : Nat) (a1 a2 a3 a4 a5 a6 a7 a8 : Int32) (M : qM), qAE g k zX12_histories (qL j r) 87 [some (.inr (some 77)), some (.inl a1), some (.inl a2), some (.inl a3), some (.inl a4), some (.inl a5), some (.inl a6), some (.inl a7), some (.inl a8), none] [] (qL j r, M) (f_X12_histories_87 n m a1 a2 a3 a4 a5 a6 a7 a8 M) := by
  intro m
  induction m with
  | zero =>
    intro a1 a2 a3 a4 a5 a6 a7 a8 M
    exact qr_none
  | succ m ih =>
    intro a1 a2 a3 a4 a5 a6 a7 a8 M
    exact wb_X12_histories_87 n j r hj hr o (f_X12_histories_87 n m) ih a1 a2 a3 a4 a5 a6 a7 a8 M
def f_X12_histories (n : Nat) (a1 a2 a3 a4 : Int32) (M : qM) : qR :=
  qc (f_X12_in n a1 (1 : Int32) (4 : Int32) M) (fun r1 m2 => (if r1 = (0 : Int32) then some ((-1 : Int32), m2) else qc (f_X12_in n a2 (0 : Int32) (10 : Int32) m2) (fun r3 m4 => (if r3 = (0 : Int32) then some ((-1 : Int32), m4) else qc (f_X12_in n a3 (0 : Int32) (9 : Int32) m4) (fun r5 m6 => (if r5 = (0 : Int32) then some ((-1 : Int32), m6) else qc (f_X12_in n a4 (0 : Int32) (2 : Int32) m6) (fun r7 m8 => (if r7 = (0 : Int32) then some ((-1 : Int32), m8) else (if (a1 + ((2 : Int32) * a2)) ≤ (m8 77 8) then qlm (mu m8 77 8 (0 : Int32)) (fun m9 => qc (f_X12_takesPast n a1 a2 m9) (fun r10 m11 => (if r10 = (0 : Int32) then some ((-3 : Int32), m11) else ql ((1 : Int32) <<< (((2 : Int32) * a1) &&& 31)) (fun x12 => f_X12_histories_87 n n a1 a2 a3 a4 x12 (0 : Int32) (-2 : Int32) (0 : Int32) m11)))) else some ((-1 : Int32), m8))))))))))
set_option maxRecDepth 4000 in
theorem w_X12_histories {g : qG} {k : qK} (n : Nat) (j r : Nat) (hj : q_isLaw j) (hr : q_isLaw r) (o : qOk g 4 zX12_histories k) (a1 a2 a3 a4 : Int32) (M : qM) : qAE g k zX12_histories (qL j r) 0 [some (.inr (some 77)), some (.inl a1), some (.inl a2), some (.inl a3), some (.inl a4), none, none, none, none, none] [] (qL j r, M) (f_X12_histories n a1 a2 a3 a4 M) := by
  unfold f_X12_histories
  refine qr_iload_n o (q_dm dm_X12_histories 0 rfl) rfl ?_
  refine qr_iconst o (q_dm dm_X12_histories 1 rfl) ic_1 ?_
  refine qr_iconst o (q_dm dm_X12_histories 2 rfl) ic_4 ?_
  refine qr_calls_i (As := [.inl a1, .inl (1 : Int32), .inl (4 : Int32)]) (S := []) o (a_X12_in g k.2.1 n j r hj hr a1 (1 : Int32) (4 : Int32) M) (Nat.le_of_ble_eq_true rfl) zs_X12_in rfl ml_X12_153 (Nat.le_of_ble_eq_true rfl) (q_dm dm_X12_histories 3 rfl) (fun r1 m2 => ?_)
  refine qr_if_eq (tgt := 51) o (q_dm dm_X12_histories 4 rfl) (by decide) ?_ ?_
  · refine qr_iconst o (q_dm dm_X12_histories 28 rfl) ic_m1 ?_
    exact qr_iret o rfl rfl (q_dm dm_X12_histories 29 rfl)
  · refine qr_iload_n o (q_dm dm_X12_histories 5 rfl) rfl ?_
    refine qr_iconst o (q_dm dm_X12_histories 6 rfl) ic_0 ?_
    refine qr_bipush o (q_dm dm_X12_histories 7 rfl) bi_10 ?_
    refine qr_calls_i (As := [.inl a2, .inl (0 : Int32), .inl (10 : Int32)]) (S := []) o (a_X12_in g k.2.1 n j r hj hr a2 (0 : Int32) (10 : Int32) m2) (Nat.le_of_ble_eq_true rfl) zs_X12_in rfl ml_X12_153 (Nat.le_of_ble_eq_true rfl) (q_dm dm_X12_histories 8 rfl) (fun r3 m4 => ?_)
    refine qr_if_eq (tgt := 51) o (q_dm dm_X12_histories 9 rfl) (by decide) ?_ ?_
    · refine qr_iconst o (q_dm dm_X12_histories 28 rfl) ic_m1 ?_
      exact qr_iret o rfl rfl (q_dm dm_X12_histories 29 rfl)
    · refine qr_iload_n o (q_dm dm_X12_histories 10 rfl) rfl ?_
      refine qr_iconst o (q_dm dm_X12_histories 11 rfl) ic_0 ?_
      refine qr_bipush o (q_dm dm_X12_histories 12 rfl) bi_9 ?_
      refine qr_calls_i (As := [.inl a3, .inl (0 : Int32), .inl (9 : Int32)]) (S := []) o (a_X12_in g k.2.1 n j r hj hr a3 (0 : Int32) (9 : Int32) m4) (Nat.le_of_ble_eq_true rfl) zs_X12_in rfl ml_X12_153 (Nat.le_of_ble_eq_true rfl) (q_dm dm_X12_histories 13 rfl) (fun r5 m6 => ?_)
      refine qr_if_eq (tgt := 51) o (q_dm dm_X12_histories 14 rfl) (by decide) ?_ ?_
      · refine qr_iconst o (q_dm dm_X12_histories 28 rfl) ic_m1 ?_
        exact qr_iret o rfl rfl (q_dm dm_X12_histories 29 rfl)
      · refine qr_iload o (q_dm dm_X12_histories 15 rfl) rfl ?_
        refine qr_iconst o (q_dm dm_X12_histories 16 rfl) ic_0 ?_
        refine qr_iconst o (q_dm dm_X12_histories 17 rfl) ic_2 ?_
        refine qr_calls_i (As := [.inl a4, .inl (0 : Int32), .inl (2 : Int32)]) (S := []) o (a_X12_in g k.2.1 n j r hj hr a4 (0 : Int32) (2 : Int32) m6) (Nat.le_of_ble_eq_true rfl) zs_X12_in rfl ml_X12_153 (Nat.le_of_ble_eq_true rfl) (q_dm dm_X12_histories 18 rfl) (fun r7 m8 => ?_)
        refine qr_if_eq (tgt := 51) o (q_dm dm_X12_histories 19 rfl) (by decide) ?_ ?_
        · refine qr_iconst o (q_dm dm_X12_histories 28 rfl) ic_m1 ?_
          exact qr_iret o rfl rfl (q_dm dm_X12_histories 29 rfl)
        · refine qr_iload_n o (q_dm dm_X12_histories 20 rfl) rfl ?_
          refine qr_iconst o (q_dm dm_X12_histories 21 rfl) ic_2 ?_
          refine qr_iload_n o (q_dm dm_X12_histories 22 rfl) rfl ?_
          refine qr_imul o (q_dm dm_X12_histories 23 rfl) ?_
          refine qr_iadd o (q_dm dm_X12_histories 24 rfl) ?_
          refine qr_aload_n o (q_dm dm_X12_histories 25 rfl) rfl ?_
          refine qr_getf (kf := 8) o cf_X12 (sh77 j r) rfl (Nat.le_of_ble_eq_true rfl) fl_X12_162 (q_dm dm_X12_histories 26 rfl) ?_
          refine qr_icmp_le (tgt := 53) o (q_dm dm_X12_histories 27 rfl) (by decide) ?_ ?_
          · refine qr_aload_n o (q_dm dm_X12_histories 30 rfl) rfl ?_
            refine qr_iconst o (q_dm dm_X12_histories 31 rfl) ic_0 ?_
            refine qr_putf (kf := 8) o cf_X12 (sh77 j r) rfl (Nat.le_of_ble_eq_true rfl) fl_X12_162 rfl (by decide +kernel) (q_dm dm_X12_histories 32 rfl) ?_
            refine qr_letm (fun m9 => ?_)
            refine qr_aload_n o (q_dm dm_X12_histories 33 rfl) rfl ?_
            refine qr_iload_n o (q_dm dm_X12_histories 34 rfl) rfl ?_
            refine qr_iload_n o (q_dm dm_X12_histories 35 rfl) rfl ?_
            refine qr_callv_i (As := [.inl a1, .inl a2]) (S := []) o (a_X12_takesPast g k.2.1 n j r hj hr a1 a2 m9) (Nat.le_of_ble_eq_true rfl) zv_X12_takesPast rfl cf_X12 (sh77 j r) ml_X12_466 (Nat.le_of_ble_eq_true rfl) (q_dm dm_X12_histories 36 rfl) (fun r10 m11 => ?_)
            refine qr_if_ne (tgt := 70) o (q_dm dm_X12_histories 37 rfl) (by decide) ?_ ?_
            · refine qr_iconst o (q_dm dm_X12_histories 40 rfl) ic_1 ?_
              refine qr_iconst o (q_dm dm_X12_histories 41 rfl) ic_2 ?_
              refine qr_iload_n o (q_dm dm_X12_histories 42 rfl) rfl ?_
              refine qr_imul o (q_dm dm_X12_histories 43 rfl) ?_
              refine qr_ishl o (q_dm dm_X12_histories 44 rfl) ?_
              refine qr_lt (fun x12 => ?_)
              refine qs_istore (L' := [some (.inr (some 77)), some (.inl a1), some (.inl a2), some (.inl a3), some (.inl a4), some (.inl x12), none, none, none, none]) o (q_dm dm_X12_histories 45 rfl) (Nat.le_of_ble_eq_true rfl) rfl ?_
              refine qr_iconst o (q_dm dm_X12_histories 46 rfl) ic_0 ?_
              refine qs_istore (L' := [some (.inr (some 77)), some (.inl a1), some (.inl a2), some (.inl a3), some (.inl a4), some (.inl x12), some (.inl (0 : Int32)), none, none, none]) o (q_dm dm_X12_histories 47 rfl) (Nat.le_of_ble_eq_true rfl) rfl ?_
              refine qr_bipush o (q_dm dm_X12_histories 48 rfl) bi_m2 ?_
              refine qs_istore (L' := [some (.inr (some 77)), some (.inl a1), some (.inl a2), some (.inl a3), some (.inl a4), some (.inl x12), some (.inl (0 : Int32)), some (.inl (-2 : Int32)), none, none]) o (q_dm dm_X12_histories 49 rfl) (Nat.le_of_ble_eq_true rfl) rfl ?_
              refine qr_iconst o (q_dm dm_X12_histories 50 rfl) ic_0 ?_
              refine qs_istore (L' := [some (.inr (some 77)), some (.inl a1), some (.inl a2), some (.inl a3), some (.inl a4), some (.inl x12), some (.inl (0 : Int32)), some (.inl (-2 : Int32)), some (.inl (0 : Int32)), none]) o (q_dm dm_X12_histories 51 rfl) (Nat.le_of_ble_eq_true rfl) rfl ?_
              exact qr_loc (q_leS (q_leS (q_leS (q_leS (q_leS (q_leS (q_leS (q_leS (q_leS (q_leN q_le0)))))))))) (w_X12_histories_87 n j r hj hr o n a1 a2 a3 a4 x12 (0 : Int32) (-2 : Int32) (0 : Int32) m11)
            · refine qr_bipush o (q_dm dm_X12_histories 38 rfl) bi_m3 ?_
              exact qr_iret o rfl rfl (q_dm dm_X12_histories 39 rfl)
          · refine qr_iconst o (q_dm dm_X12_histories 28 rfl) ic_m1 ?_
            exact qr_iret o rfl rfl (q_dm dm_X12_histories 29 rfl)

theorem a_X12_histories (g : qG) (l : Launch) (n : Nat) (j r : Nat) (hj : q_isLaw j) (hr : q_isLaw r) (a1 a2 a3 a4 : Int32) (M : qM) : qAM g l 4 zX12_histories (qL j r) [.inr (some 77), .inl a1, .inl a2, .inl a3, .inl a4] (qL j r, M) (f_X12_histories n a1 a2 a3 a4 M) :=
  qAM.of zv_X12_histories.1 (by show 5 ≤ 10; decide) (fun k hk o => w_X12_histories n j r hj hr o a1 a2 a3 a4 M)
def tb_X12_jobCounts : List (Nat × Instr × Nat) := [(0, (.iconst 0, 1)), (1, (.istore_n 3, 1)), (2, (.iconst 0, 1)), (3, (.istore 4, 2)), (5, (.iload 4, 2)), (7, (.bipush 12, 2)), (9, (.if_icmp .ge 47, 3)), (12, (.aload_n 0, 1)), (13, (.getfield 118, 3)), (16, (.iload_n 2, 1)), (17, (.iaload, 1)), (18, (.iload 4, 2)), (20, (.invokestatic 149, 3)), (23, (.ifCond .eq 27, 3)), (26, (.iload_n 3, 1)), (27, (.aload_n 0, 1)), (28, (.getfield 7, 3)), (31, (.iconst 0, 1)), (32, (.iload_n 1, 1)), (33, (.iload 4, 2)), (35, (.invokestatic 282, 3)), (38, (.iadd, 1)), (39, (.iaload, 1)), (40, (.iadd, 1)), (41, (.aload_n 0, 1)), (42, (.getfield 121, 3)), (45, (.iload 4, 2)), (47, (.iaload, 1)), (48, (.iadd, 1)), (49, (.istore_n 3, 1)), (50, (.iinc 4 1, 3)), (53, (.goto (-48), 3)), (56, (.aload_n 0, 1)), (57, (.iload_n 1, 1)), (58, (.iload_n 2, 1)), (59, (.bipush 8, 2)), (61, (.invokevirtual 288, 3)), (64, (.aload_n 0, 1)), (65, (.getfield 68, 3)), (68, (.bipush 9, 2)), (70, (.aload_n 0, 1)), (71, (.getfield 68, 3)), (74, (.bipush 9, 2)), (76, (.iaload, 1)), (77, (.aload_n 0, 1)), (78, (.getfield 121, 3)), (81, (.iload_n 2, 1)), (82, (.iaload, 1)), (83, (.iadd, 1)), (84, (.iastore, 1)), (85, (.aload_n 0, 1)), (86, (.getfield 68, 3)), (89, (.bipush 10, 2)), (91, (.aload_n 0, 1)), (92, (.getfield 68, 3)), (95, (.bipush 10, 2)), (97, (.iaload, 1)), (98, (.aload_n 0, 1)), (99, (.getfield 121, 3)), (102, (.iload_n 2, 1)), (103, (.iaload, 1)), (104, (.iadd, 1)), (105, (.iastore, 1)), (106, (.aload_n 0, 1)), (107, (.getfield 68, 3)), (110, (.bipush 11, 2)), (112, (.aload_n 0, 1)), (113, (.getfield 68, 3)), (116, (.bipush 11, 2)), (118, (.iaload, 1)), (119, (.aload_n 0, 1)), (120, (.getfield 124, 3)), (123, (.iload_n 2, 1)), (124, (.iaload, 1)), (125, (.iadd, 1)), (126, (.iastore, 1)), (127, (.aload_n 0, 1)), (128, (.getfield 121, 3)), (131, (.iload_n 2, 1)), (132, (.aload_n 0, 1)), (133, (.getfield 121, 3)), (136, (.iload_n 2, 1)), (137, (.iaload, 1)), (138, (.iconst 1, 1)), (139, (.iadd, 1)), (140, (.iastore, 1)), (141, (.iload_n 3, 1)), (142, (.aload_n 0, 1)), (143, (.bipush 118, 2)), (145, (.bipush 99, 2)), (147, (.iconst 1, 1)), (148, (.invokevirtual 292, 3)), (151, (.if_icmp .lt 7, 3)), (154, (.iconst 1, 1)), (155, (.goto 4, 3)), (158, (.iconst 0, 1)), (159, (.ireturn, 1))]
theorem dm_X12_jobCounts : ∀ q ∈ tb_X12_jobCounts, decode zX12_jobCounts.2.1 q.1 = .ok q.2 := by decide +kernel
def b_X12_jobCounts_5 (n : Nat) (K5 : Int32 → Int32 → Int32 → Int32 → qM → qR) (a1 a2 a3 a4 : Int32) (M : qM) : qR :=
  (if (12 : Int32) ≤ a4 then qc (f_X12_feels n a1 a2 (8 : Int32) M) (fun _ m1 => qg a2 12 (qlm (mu m1 97 9 ((m1 97 9) + (m1 114 a2.toNatClampNeg))) (fun m2 => qg a2 12 (qlm (mu m2 97 10 ((m2 97 10) + (m2 114 a2.toNatClampNeg))) (fun m3 => qg a2 12 (qlm (mu m3 97 11 ((m3 97 11) + (m3 115 a2.toNatClampNeg))) (fun m4 => qg a2 12 (qg a2 12 (qlm (mu m4 114 a2.toNatClampNeg ((m4 114 a2.toNatClampNeg) + (1 : Int32))) (fun m5 => qc (f_X12_byLaw n (118 : Int32) (99 : Int32) (1 : Int32) m5) (fun r6 m7 => (if a3 < r6 then some ((0 : Int32), m7) else some ((1 : Int32), m7))))))))))))) else qg a2 12 (qc (f_X12_has0 n (M 113 a2.toNatClampNeg) a4 M) (fun r8 m9 => (if r8 = (0 : Int32) then ql (a4 + (1 : Int32)) (fun x10 => K5 a1 a2 a3 x10 m9) else qc (f_X12_at n a1 a4 m9) (fun r11 m12 => qg ((0 : Int32) + r11) 954 (qg a4 12 (ql ((a3 + (m12 78 ((0 : Int32) + r11).toNatClampNeg)) + (m12 114 a4.toNatClampNeg)) (fun x13 => ql (a4 + (1 : Int32)) (fun x14 => K5 a1 a2 x13 x14 m12)))))))))
set_option maxRecDepth 4000 in
theorem wb_X12_jobCounts_5 {g : qG} {k : qK} (n : Nat) (j r : Nat) (hj : q_isLaw j) (hr : q_isLaw r) (o : qOk g 3 zX12_jobCounts k) (K5 : Int32 → Int32 → Int32 → Int32 → qM → qR) (hK5 : ∀ (a1 a2 a3 a4 : Int32) (M : qM), qAE g k zX12_jobCounts (qL j r) 5 [some (.inr (some 77)), some (.inl a1), some (.inl a2), some (.inl a3), some (.inl a4)] [] (qL j r, M) (K5 a1 a2 a3 a4 M)) (a1 a2 a3 a4 : Int32) (M : qM) : qAE g k zX12_jobCounts (qL j r) 5 [some (.inr (some 77)), some (.inl a1), some (.inl a2), some (.inl a3), some (.inl a4)] [] (qL j r, M) (b_X12_jobCounts_5 n K5 a1 a2 a3 a4 M) := by
  unfold b_X12_jobCounts_5
  refine qr_iload o (q_dm dm_X12_jobCounts 4 rfl) rfl ?_
  refine qr_bipush o (q_dm dm_X12_jobCounts 5 rfl) bi_12 ?_
  refine qr_icmp_ge (tgt := 56) o (q_dm dm_X12_jobCounts 6 rfl) (by decide) ?_ ?_
  · refine qr_aload_n o (q_dm dm_X12_jobCounts 32 rfl) rfl ?_
    refine qr_iload_n o (q_dm dm_X12_jobCounts 33 rfl) rfl ?_
    refine qr_iload_n o (q_dm dm_X12_jobCounts 34 rfl) rfl ?_
    refine qr_bipush o (q_dm dm_X12_jobCounts 35 rfl) bi_8 ?_
    refine qr_callv_v (As := [.inl a1, .inl a2, .inl (8 : Int32)]) (S := []) o (a_X12_feels g k.2.1 n j r hj hr a1 a2 (8 : Int32) M) (Nat.le_of_ble_eq_true rfl) zv_X12_feels rfl cf_X12 (sh77 j r) ml_X12_288 (Nat.le_of_ble_eq_true rfl) (q_dm dm_X12_jobCounts 36 rfl) (fun _ m1 => ?_)
    refine qr_aload_n o (q_dm dm_X12_jobCounts 37 rfl) rfl ?_
    refine qr_getr (kf := 30) o cf_X12 (sh77 j r) rfl (Nat.le_of_ble_eq_true rfl) fl_X12_68 (q_dm dm_X12_jobCounts 38 rfl) ?_
    refine qr_bipush o (q_dm dm_X12_jobCounts 39 rfl) bi_9 ?_
    refine qr_aload_n o (q_dm dm_X12_jobCounts 40 rfl) rfl ?_
    refine qr_getr (kf := 30) o cf_X12 (sh77 j r) rfl (Nat.le_of_ble_eq_true rfl) fl_X12_68 (q_dm dm_X12_jobCounts 41 rfl) ?_
    refine qr_bipush o (q_dm dm_X12_jobCounts 42 rfl) bi_9 ?_
    refine qr_iald0 (c := 9) o (sh97 j r) (by decide) (by decide) (q_dm dm_X12_jobCounts 43 rfl) ?_
    refine qr_aload_n o (q_dm dm_X12_jobCounts 44 rfl) rfl ?_
    refine qr_getr (kf := 57) o cf_X12 (sh77 j r) rfl (Nat.le_of_ble_eq_true rfl) fl_X12_121 (q_dm dm_X12_jobCounts 45 rfl) ?_
    refine qr_iload_n o (q_dm dm_X12_jobCounts 46 rfl) rfl ?_
    refine qr_iald o (sh114 j r) (q_dm dm_X12_jobCounts 47 rfl) ?_
    refine qr_iadd o (q_dm dm_X12_jobCounts 48 rfl) ?_
    refine qr_iast0 (c := 9) o (sh97 j r) (by decide) (by decide) (q_dm dm_X12_jobCounts 49 rfl) ?_
    refine qr_letm (fun m2 => ?_)
    refine qr_aload_n o (q_dm dm_X12_jobCounts 50 rfl) rfl ?_
    refine qr_getr (kf := 30) o cf_X12 (sh77 j r) rfl (Nat.le_of_ble_eq_true rfl) fl_X12_68 (q_dm dm_X12_jobCounts 51 rfl) ?_
    refine qr_bipush o (q_dm dm_X12_jobCounts 52 rfl) bi_10 ?_
    refine qr_aload_n o (q_dm dm_X12_jobCounts 53 rfl) rfl ?_
    refine qr_getr (kf := 30) o cf_X12 (sh77 j r) rfl (Nat.le_of_ble_eq_true rfl) fl_X12_68 (q_dm dm_X12_jobCounts 54 rfl) ?_
    refine qr_bipush o (q_dm dm_X12_jobCounts 55 rfl) bi_10 ?_
    refine qr_iald0 (c := 10) o (sh97 j r) (by decide) (by decide) (q_dm dm_X12_jobCounts 56 rfl) ?_
    refine qr_aload_n o (q_dm dm_X12_jobCounts 57 rfl) rfl ?_
    refine qr_getr (kf := 57) o cf_X12 (sh77 j r) rfl (Nat.le_of_ble_eq_true rfl) fl_X12_121 (q_dm dm_X12_jobCounts 58 rfl) ?_
    refine qr_iload_n o (q_dm dm_X12_jobCounts 59 rfl) rfl ?_
    refine qr_iald o (sh114 j r) (q_dm dm_X12_jobCounts 60 rfl) ?_
    refine qr_iadd o (q_dm dm_X12_jobCounts 61 rfl) ?_
    refine qr_iast0 (c := 10) o (sh97 j r) (by decide) (by decide) (q_dm dm_X12_jobCounts 62 rfl) ?_
    refine qr_letm (fun m3 => ?_)
    refine qr_aload_n o (q_dm dm_X12_jobCounts 63 rfl) rfl ?_
    refine qr_getr (kf := 30) o cf_X12 (sh77 j r) rfl (Nat.le_of_ble_eq_true rfl) fl_X12_68 (q_dm dm_X12_jobCounts 64 rfl) ?_
    refine qr_bipush o (q_dm dm_X12_jobCounts 65 rfl) bi_11 ?_
    refine qr_aload_n o (q_dm dm_X12_jobCounts 66 rfl) rfl ?_
    refine qr_getr (kf := 30) o cf_X12 (sh77 j r) rfl (Nat.le_of_ble_eq_true rfl) fl_X12_68 (q_dm dm_X12_jobCounts 67 rfl) ?_
    refine qr_bipush o (q_dm dm_X12_jobCounts 68 rfl) bi_11 ?_
    refine qr_iald0 (c := 11) o (sh97 j r) (by decide) (by decide) (q_dm dm_X12_jobCounts 69 rfl) ?_
    refine qr_aload_n o (q_dm dm_X12_jobCounts 70 rfl) rfl ?_
    refine qr_getr (kf := 58) o cf_X12 (sh77 j r) rfl (Nat.le_of_ble_eq_true rfl) fl_X12_124 (q_dm dm_X12_jobCounts 71 rfl) ?_
    refine qr_iload_n o (q_dm dm_X12_jobCounts 72 rfl) rfl ?_
    refine qr_iald o (sh115 j r) (q_dm dm_X12_jobCounts 73 rfl) ?_
    refine qr_iadd o (q_dm dm_X12_jobCounts 74 rfl) ?_
    refine qr_iast0 (c := 11) o (sh97 j r) (by decide) (by decide) (q_dm dm_X12_jobCounts 75 rfl) ?_
    refine qr_letm (fun m4 => ?_)
    refine qr_aload_n o (q_dm dm_X12_jobCounts 76 rfl) rfl ?_
    refine qr_getr (kf := 57) o cf_X12 (sh77 j r) rfl (Nat.le_of_ble_eq_true rfl) fl_X12_121 (q_dm dm_X12_jobCounts 77 rfl) ?_
    refine qr_iload_n o (q_dm dm_X12_jobCounts 78 rfl) rfl ?_
    refine qr_aload_n o (q_dm dm_X12_jobCounts 79 rfl) rfl ?_
    refine qr_getr (kf := 57) o cf_X12 (sh77 j r) rfl (Nat.le_of_ble_eq_true rfl) fl_X12_121 (q_dm dm_X12_jobCounts 80 rfl) ?_
    refine qr_iload_n o (q_dm dm_X12_jobCounts 81 rfl) rfl ?_
    refine qr_iald o (sh114 j r) (q_dm dm_X12_jobCounts 82 rfl) ?_
    refine qr_iconst o (q_dm dm_X12_jobCounts 83 rfl) ic_1 ?_
    refine qr_iadd o (q_dm dm_X12_jobCounts 84 rfl) ?_
    refine qr_iast o (sh114 j r) (q_dm dm_X12_jobCounts 85 rfl) ?_
    refine qr_letm (fun m5 => ?_)
    refine qr_iload_n o (q_dm dm_X12_jobCounts 86 rfl) rfl ?_
    refine qr_aload_n o (q_dm dm_X12_jobCounts 87 rfl) rfl ?_
    refine qr_bipush o (q_dm dm_X12_jobCounts 88 rfl) bi_118 ?_
    refine qr_bipush o (q_dm dm_X12_jobCounts 89 rfl) bi_99 ?_
    refine qr_iconst o (q_dm dm_X12_jobCounts 90 rfl) ic_1 ?_
    refine qr_callv_i (As := [.inl (118 : Int32), .inl (99 : Int32), .inl (1 : Int32)]) (S := [.inl a3]) o (a_X12_byLaw g k.2.1 n j r hj hr (118 : Int32) (99 : Int32) (1 : Int32) m5) (Nat.le_of_ble_eq_true rfl) zv_X12_byLaw rfl cf_X12 (sh77 j r) ml_X12_292 (Nat.le_of_ble_eq_true rfl) (q_dm dm_X12_jobCounts 91 rfl) (fun r6 m7 => ?_)
    refine qr_icmp_lt (tgt := 158) o (q_dm dm_X12_jobCounts 92 rfl) (by decide) ?_ ?_
    · refine qr_iconst o (q_dm dm_X12_jobCounts 95 rfl) ic_0 ?_
      exact qr_iret o rfl (by decide) (q_dm dm_X12_jobCounts 96 rfl)
    · refine qr_iconst o (q_dm dm_X12_jobCounts 93 rfl) ic_1 ?_
      refine qr_goto (tgt := 159) o (q_dm dm_X12_jobCounts 94 rfl) (by decide) ?_
      exact qr_iret o rfl (by decide) (q_dm dm_X12_jobCounts 96 rfl)
  · refine qr_aload_n o (q_dm dm_X12_jobCounts 7 rfl) rfl ?_
    refine qr_getr (kf := 56) o cf_X12 (sh77 j r) rfl (Nat.le_of_ble_eq_true rfl) fl_X12_118 (q_dm dm_X12_jobCounts 8 rfl) ?_
    refine qr_iload_n o (q_dm dm_X12_jobCounts 9 rfl) rfl ?_
    refine qr_iald o (sh113 j r) (q_dm dm_X12_jobCounts 10 rfl) ?_
    refine qr_iload o (q_dm dm_X12_jobCounts 11 rfl) rfl ?_
    refine qr_calls_i (As := [.inl (M 113 a2.toNatClampNeg), .inl a4]) (S := []) o (a_X12_has0 g k.2.1 n j r hj hr (M 113 a2.toNatClampNeg) a4 M) (Nat.le_of_ble_eq_true rfl) zs_X12_has0 rfl ml_X12_149 (Nat.le_of_ble_eq_true rfl) (q_dm dm_X12_jobCounts 12 rfl) (fun r8 m9 => ?_)
    refine qr_if_eq (tgt := 50) o (q_dm dm_X12_jobCounts 13 rfl) (by decide) ?_ ?_
    · refine qs_iincl2 (L' := fun x10 => [some (.inr (some 77)), some (.inl a1), some (.inl a2), some (.inl a3), some (.inl x10)]) o (q_dm dm_X12_jobCounts 30 rfl) rfl ic_1 (Nat.le_of_ble_eq_true rfl) (fun _ => rfl) (fun x10 => ?_)
      refine qr_goto (tgt := 5) o (q_dm dm_X12_jobCounts 31 rfl) (by decide) ?_
      exact qr_loc (q_leS (q_leS (q_leS (q_leS (q_leS q_le0))))) (hK5 a1 a2 a3 x10 m9)
    · refine qr_iload_n o (q_dm dm_X12_jobCounts 14 rfl) rfl ?_
      refine qr_aload_n o (q_dm dm_X12_jobCounts 15 rfl) rfl ?_
      refine qr_getr (kf := 0) o cf_X12 (sh77 j r) rfl (Nat.le_of_ble_eq_true rfl) fl_X12_7 (q_dm dm_X12_jobCounts 16 rfl) ?_
      refine qr_iconst o (q_dm dm_X12_jobCounts 17 rfl) ic_0 ?_
      refine qr_iload_n o (q_dm dm_X12_jobCounts 18 rfl) rfl ?_
      refine qr_iload o (q_dm dm_X12_jobCounts 19 rfl) rfl ?_
      refine qr_calls_i (As := [.inl a1, .inl a4]) (S := [.inl (0 : Int32), .inr (some 78), .inl a3]) o (a_X12_at g k.2.1 n j r hj hr a1 a4 m9) (Nat.le_of_ble_eq_true rfl) zs_X12_at rfl ml_X12_282 (Nat.le_of_ble_eq_true rfl) (q_dm dm_X12_jobCounts 20 rfl) (fun r11 m12 => ?_)
      refine qr_iadd o (q_dm dm_X12_jobCounts 21 rfl) ?_
      refine qr_iald o (sh78 j r) (q_dm dm_X12_jobCounts 22 rfl) ?_
      refine qr_iadd o (q_dm dm_X12_jobCounts 23 rfl) ?_
      refine qr_aload_n o (q_dm dm_X12_jobCounts 24 rfl) rfl ?_
      refine qr_getr (kf := 57) o cf_X12 (sh77 j r) rfl (Nat.le_of_ble_eq_true rfl) fl_X12_121 (q_dm dm_X12_jobCounts 25 rfl) ?_
      refine qr_iload o (q_dm dm_X12_jobCounts 26 rfl) rfl ?_
      refine qr_iald o (sh114 j r) (q_dm dm_X12_jobCounts 27 rfl) ?_
      refine qr_iadd o (q_dm dm_X12_jobCounts 28 rfl) ?_
      refine qr_lt (fun x13 => ?_)
      refine qs_istore_n (L' := [some (.inr (some 77)), some (.inl a1), some (.inl a2), some (.inl x13), some (.inl a4)]) o (q_dm dm_X12_jobCounts 29 rfl) (Nat.le_of_ble_eq_true rfl) rfl ?_
      refine qs_iincl2 (L' := fun x14 => [some (.inr (some 77)), some (.inl a1), some (.inl a2), some (.inl x13), some (.inl x14)]) o (q_dm dm_X12_jobCounts 30 rfl) rfl ic_1 (Nat.le_of_ble_eq_true rfl) (fun _ => rfl) (fun x14 => ?_)
      refine qr_goto (tgt := 5) o (q_dm dm_X12_jobCounts 31 rfl) (by decide) ?_
      exact qr_loc (q_leS (q_leS (q_leS (q_leS (q_leS q_le0))))) (hK5 a1 a2 x13 x14 m12)

def f_X12_jobCounts_5 (n : Nat) : Nat → Int32 → Int32 → Int32 → Int32 → qM → qR
  | 0, _, _, _, _, _ => none
  | m + 1, a1, a2, a3, a4, M => b_X12_jobCounts_5 n (f_X12_jobCounts_5 n m) a1 a2 a3 a4 M
theorem w_X12_jobCounts_5 {g : qG} {k : qK} (n : Nat) (j r : Nat) (hj : q_isLaw j) (hr : q_isLaw r) (o : qOk g 3 zX12_jobCounts k) : ∀ (m : Nat) (a1 a2 a3 a4 : Int32) (M : qM), qAE g k zX12_jobCounts (qL j r) 5 [some (.inr (some 77)), some (.inl a1), some (.inl a2), some (.inl a3), some (.inl a4)] [] (qL j r, M) (f_X12_jobCounts_5 n m a1 a2 a3 a4 M) := by
  intro m
  induction m with
  | zero =>
    intro a1 a2 a3 a4 M
    exact qr_none
  | succ m ih =>
    intro a1 a2 a3 a4 M
    exact wb_X12_jobCounts_5 n j r hj hr o (f_X12_jobCounts_5 n m) ih a1 a2 a3 a4 M
def f_X12_jobCounts (n : Nat) (a1 a2 : Int32) (M : qM) : qR :=
  f_X12_jobCounts_5 n n a1 a2 (0 : Int32) (0 : Int32) M
set_option maxRecDepth 4000 in
theorem w_X12_jobCounts {g : qG} {k : qK} (n : Nat) (j r : Nat) (hj : q_isLaw j) (hr : q_isLaw r) (o : qOk g 3 zX12_jobCounts k) (a1 a2 : Int32) (M : qM) : qAE g k zX12_jobCounts (qL j r) 0 [some (.inr (some 77)), some (.inl a1), some (.inl a2), none, none] [] (qL j r, M) (f_X12_jobCounts n a1 a2 M) := by
  unfold f_X12_jobCounts
  refine qr_iconst o (q_dm dm_X12_jobCounts 0 rfl) ic_0 ?_
  refine qs_istore_n (L' := [some (.inr (some 77)), some (.inl a1), some (.inl a2), some (.inl (0 : Int32)), none]) o (q_dm dm_X12_jobCounts 1 rfl) (Nat.le_of_ble_eq_true rfl) rfl ?_
  refine qr_iconst o (q_dm dm_X12_jobCounts 2 rfl) ic_0 ?_
  refine qs_istore (L' := [some (.inr (some 77)), some (.inl a1), some (.inl a2), some (.inl (0 : Int32)), some (.inl (0 : Int32))]) o (q_dm dm_X12_jobCounts 3 rfl) (Nat.le_of_ble_eq_true rfl) rfl ?_
  exact qr_loc (q_leS (q_leS (q_leS (q_leS (q_leS q_le0))))) (w_X12_jobCounts_5 n j r hj hr o n a1 a2 (0 : Int32) (0 : Int32) M)

theorem a_X12_jobCounts (g : qG) (l : Launch) (n : Nat) (j r : Nat) (hj : q_isLaw j) (hr : q_isLaw r) (a1 a2 : Int32) (M : qM) : qAM g l 3 zX12_jobCounts (qL j r) [.inr (some 77), .inl a1, .inl a2] (qL j r, M) (f_X12_jobCounts n a1 a2 M) :=
  qAM.of zv_X12_jobCounts.1 (by show 3 ≤ 5; decide) (fun k hk o => w_X12_jobCounts n j r hj hr o a1 a2 M)
def tb_X12_jobNeeds : List (Nat × Instr × Nat) := [(0, (.iconst 0, 1)), (1, (.istore_n 3, 1)), (2, (.iload_n 3, 1)), (3, (.bipush 12, 2)), (5, (.if_icmp .ge 48, 3)), (8, (.aload_n 0, 1)), (9, (.getfield 25, 3)), (12, (.iload_n 2, 1)), (13, (.iaload, 1)), (14, (.iload_n 3, 1)), (15, (.invokestatic 149, 3)), (18, (.ifCond .eq 29, 3)), (21, (.aload_n 0, 1)), (22, (.getfield 7, 3)), (25, (.sipush 192, 3)), (28, (.iload_n 1, 1)), (29, (.iload_n 3, 1)), (30, (.invokestatic 282, 3)), (33, (.iadd, 1)), (34, (.iaload, 1)), (35, (.aload_n 0, 1)), (36, (.getfield 124, 3)), (39, (.iload_n 3, 1)), (40, (.iaload, 1)), (41, (.iadd, 1)), (42, (.ifCond .ne 5, 3)), (45, (.iconst 0, 1)), (46, (.ireturn, 1)), (47, (.iinc 3 1, 3)), (50, (.goto (-48), 3)), (53, (.iconst 1, 1)), (54, (.ireturn, 1))]
theorem dm_X12_jobNeeds : ∀ q ∈ tb_X12_jobNeeds, decode zX12_jobNeeds.2.1 q.1 = .ok q.2 := by decide +kernel
def b_X12_jobNeeds_2 (n : Nat) (K2 : Int32 → Int32 → Int32 → qM → qR) (a1 a2 a3 : Int32) (M : qM) : qR :=
  (if (12 : Int32) ≤ a3 then some ((1 : Int32), M) else qg a2 13 (qc (f_X12_has0 n (M 83 a2.toNatClampNeg) a3 M) (fun r1 m2 => (if r1 = (0 : Int32) then ql (a3 + (1 : Int32)) (fun x3 => K2 a1 a2 x3 m2) else qc (f_X12_at n a1 a3 m2) (fun r4 m5 => qg ((192 : Int32) + r4) 954 (qg a3 12 ((if ((m5 78 ((192 : Int32) + r4).toNatClampNeg) + (m5 115 a3.toNatClampNeg)) = (0 : Int32) then some ((0 : Int32), m5) else ql (a3 + (1 : Int32)) (fun x6 => K2 a1 a2 x6 m5)))))))))
set_option maxRecDepth 4000 in
theorem wb_X12_jobNeeds_2 {g : qG} {k : qK} (n : Nat) (j r : Nat) (hj : q_isLaw j) (hr : q_isLaw r) (o : qOk g 1 zX12_jobNeeds k) (K2 : Int32 → Int32 → Int32 → qM → qR) (hK2 : ∀ (a1 a2 a3 : Int32) (M : qM), qAE g k zX12_jobNeeds (qL j r) 2 [some (.inr (some 77)), some (.inl a1), some (.inl a2), some (.inl a3)] [] (qL j r, M) (K2 a1 a2 a3 M)) (a1 a2 a3 : Int32) (M : qM) : qAE g k zX12_jobNeeds (qL j r) 2 [some (.inr (some 77)), some (.inl a1), some (.inl a2), some (.inl a3)] [] (qL j r, M) (b_X12_jobNeeds_2 n K2 a1 a2 a3 M) := by
  unfold b_X12_jobNeeds_2
  refine qr_iload_n o (q_dm dm_X12_jobNeeds 2 rfl) rfl ?_
  refine qr_bipush o (q_dm dm_X12_jobNeeds 3 rfl) bi_12 ?_
  refine qr_icmp_ge (tgt := 53) o (q_dm dm_X12_jobNeeds 4 rfl) (by decide) ?_ ?_
  · refine qr_iconst o (q_dm dm_X12_jobNeeds 30 rfl) ic_1 ?_
    exact qr_iret o rfl (by decide) (q_dm dm_X12_jobNeeds 31 rfl)
  · refine qr_aload_n o (q_dm dm_X12_jobNeeds 5 rfl) rfl ?_
    refine qr_getr (kf := 5) o cf_X12 (sh77 j r) rfl (Nat.le_of_ble_eq_true rfl) fl_X12_25 (q_dm dm_X12_jobNeeds 6 rfl) ?_
    refine qr_iload_n o (q_dm dm_X12_jobNeeds 7 rfl) rfl ?_
    refine qr_iald o (sh83 j r) (q_dm dm_X12_jobNeeds 8 rfl) ?_
    refine qr_iload_n o (q_dm dm_X12_jobNeeds 9 rfl) rfl ?_
    refine qr_calls_i (As := [.inl (M 83 a2.toNatClampNeg), .inl a3]) (S := []) o (a_X12_has0 g k.2.1 n j r hj hr (M 83 a2.toNatClampNeg) a3 M) (Nat.le_of_ble_eq_true rfl) zs_X12_has0 rfl ml_X12_149 (Nat.le_of_ble_eq_true rfl) (q_dm dm_X12_jobNeeds 10 rfl) (fun r1 m2 => ?_)
    refine qr_if_eq (tgt := 47) o (q_dm dm_X12_jobNeeds 11 rfl) (by decide) ?_ ?_
    · refine qs_iincl2 (L' := fun x3 => [some (.inr (some 77)), some (.inl a1), some (.inl a2), some (.inl x3)]) o (q_dm dm_X12_jobNeeds 28 rfl) rfl ic_1 (Nat.le_of_ble_eq_true rfl) (fun _ => rfl) (fun x3 => ?_)
      refine qr_goto (tgt := 2) o (q_dm dm_X12_jobNeeds 29 rfl) (by decide) ?_
      exact qr_loc (q_leS (q_leS (q_leS (q_leS q_le0)))) (hK2 a1 a2 x3 m2)
    · refine qr_aload_n o (q_dm dm_X12_jobNeeds 12 rfl) rfl ?_
      refine qr_getr (kf := 0) o cf_X12 (sh77 j r) rfl (Nat.le_of_ble_eq_true rfl) fl_X12_7 (q_dm dm_X12_jobNeeds 13 rfl) ?_
      refine qr_sipush o (q_dm dm_X12_jobNeeds 14 rfl) si_192 ?_
      refine qr_iload_n o (q_dm dm_X12_jobNeeds 15 rfl) rfl ?_
      refine qr_iload_n o (q_dm dm_X12_jobNeeds 16 rfl) rfl ?_
      refine qr_calls_i (As := [.inl a1, .inl a3]) (S := [.inl (192 : Int32), .inr (some 78)]) o (a_X12_at g k.2.1 n j r hj hr a1 a3 m2) (Nat.le_of_ble_eq_true rfl) zs_X12_at rfl ml_X12_282 (Nat.le_of_ble_eq_true rfl) (q_dm dm_X12_jobNeeds 17 rfl) (fun r4 m5 => ?_)
      refine qr_iadd o (q_dm dm_X12_jobNeeds 18 rfl) ?_
      refine qr_iald o (sh78 j r) (q_dm dm_X12_jobNeeds 19 rfl) ?_
      refine qr_aload_n o (q_dm dm_X12_jobNeeds 20 rfl) rfl ?_
      refine qr_getr (kf := 58) o cf_X12 (sh77 j r) rfl (Nat.le_of_ble_eq_true rfl) fl_X12_124 (q_dm dm_X12_jobNeeds 21 rfl) ?_
      refine qr_iload_n o (q_dm dm_X12_jobNeeds 22 rfl) rfl ?_
      refine qr_iald o (sh115 j r) (q_dm dm_X12_jobNeeds 23 rfl) ?_
      refine qr_iadd o (q_dm dm_X12_jobNeeds 24 rfl) ?_
      refine qr_if_ne (tgt := 47) o (q_dm dm_X12_jobNeeds 25 rfl) (by decide) ?_ ?_
      · refine qs_iincl2 (L' := fun x6 => [some (.inr (some 77)), some (.inl a1), some (.inl a2), some (.inl x6)]) o (q_dm dm_X12_jobNeeds 28 rfl) rfl ic_1 (Nat.le_of_ble_eq_true rfl) (fun _ => rfl) (fun x6 => ?_)
        refine qr_goto (tgt := 2) o (q_dm dm_X12_jobNeeds 29 rfl) (by decide) ?_
        exact qr_loc (q_leS (q_leS (q_leS (q_leS q_le0)))) (hK2 a1 a2 x6 m5)
      · refine qr_iconst o (q_dm dm_X12_jobNeeds 26 rfl) ic_0 ?_
        exact qr_iret o rfl (by decide) (q_dm dm_X12_jobNeeds 27 rfl)

def f_X12_jobNeeds_2 (n : Nat) : Nat → Int32 → Int32 → Int32 → qM → qR
  | 0, _, _, _, _ => none
  | m + 1, a1, a2, a3, M => b_X12_jobNeeds_2 n (f_X12_jobNeeds_2 n m) a1 a2 a3 M
theorem w_X12_jobNeeds_2 {g : qG} {k : qK} (n : Nat) (j r : Nat) (hj : q_isLaw j) (hr : q_isLaw r) (o : qOk g 1 zX12_jobNeeds k) : ∀ (m : Nat) (a1 a2 a3 : Int32) (M : qM), qAE g k zX12_jobNeeds (qL j r) 2 [some (.inr (some 77)), some (.inl a1), some (.inl a2), some (.inl a3)] [] (qL j r, M) (f_X12_jobNeeds_2 n m a1 a2 a3 M) := by
  intro m
  induction m with
  | zero =>
    intro a1 a2 a3 M
    exact qr_none
  | succ m ih =>
    intro a1 a2 a3 M
    exact wb_X12_jobNeeds_2 n j r hj hr o (f_X12_jobNeeds_2 n m) ih a1 a2 a3 M
def f_X12_jobNeeds (n : Nat) (a1 a2 : Int32) (M : qM) : qR :=
  f_X12_jobNeeds_2 n n a1 a2 (0 : Int32) M
set_option maxRecDepth 4000 in
theorem w_X12_jobNeeds {g : qG} {k : qK} (n : Nat) (j r : Nat) (hj : q_isLaw j) (hr : q_isLaw r) (o : qOk g 1 zX12_jobNeeds k) (a1 a2 : Int32) (M : qM) : qAE g k zX12_jobNeeds (qL j r) 0 [some (.inr (some 77)), some (.inl a1), some (.inl a2), none] [] (qL j r, M) (f_X12_jobNeeds n a1 a2 M) := by
  unfold f_X12_jobNeeds
  refine qr_iconst o (q_dm dm_X12_jobNeeds 0 rfl) ic_0 ?_
  refine qs_istore_n (L' := [some (.inr (some 77)), some (.inl a1), some (.inl a2), some (.inl (0 : Int32))]) o (q_dm dm_X12_jobNeeds 1 rfl) (Nat.le_of_ble_eq_true rfl) rfl ?_
  exact qr_loc (q_leS (q_leS (q_leS (q_leS q_le0)))) (w_X12_jobNeeds_2 n j r hj hr o n a1 a2 (0 : Int32) M)

theorem a_X12_jobNeeds (g : qG) (l : Launch) (n : Nat) (j r : Nat) (hj : q_isLaw j) (hr : q_isLaw r) (a1 a2 : Int32) (M : qM) : qAM g l 1 zX12_jobNeeds (qL j r) [.inr (some 77), .inl a1, .inl a2] (qL j r, M) (f_X12_jobNeeds n a1 a2 M) :=
  qAM.of zv_X12_jobNeeds.1 (by show 3 ≤ 4; decide) (fun k hk o => w_X12_jobNeeds n j r hj hr o a1 a2 M)
def tb_X12_whoDoes : List (Nat × Instr × Nat) := [(0, (.iload_n 1, 1)), (1, (.istore_n 3, 1)), (2, (.aload_n 0, 1)), (3, (.getfield 423, 3)), (6, (.iconst 1, 1)), (7, (.isub, 1)), (8, (.istore 4, 2)), (10, (.iload 4, 2)), (12, (.iload_n 2, 1)), (13, (.if_icmp .le 16, 3)), (16, (.iload_n 3, 1)), (17, (.aload_n 0, 1)), (18, (.getfield 435, 3)), (21, (.idiv, 1)), (22, (.istore_n 3, 1)), (23, (.iinc 4 (-1), 3)), (26, (.goto (-16), 3)), (29, (.iload_n 3, 1)), (30, (.aload_n 0, 1)), (31, (.getfield 435, 3)), (34, (.irem, 1)), (35, (.ireturn, 1))]
theorem dm_X12_whoDoes : ∀ q ∈ tb_X12_whoDoes, decode zX12_whoDoes.2.1 q.1 = .ok q.2 := by decide +kernel
def b_X12_whoDoes_10 (n : Nat) (K10 : Int32 → Int32 → Int32 → qM → qR) (a2 a3 a4 : Int32) (M : qM) : qR :=
  (if a4 ≤ a2 then qd (M 77 60) (some ((a3 - a3 / (M 77 60) * (M 77 60)), M)) else qd (M 77 60) (ql (a3 / (M 77 60)) (fun x1 => ql (a4 + (-1 : Int32)) (fun x2 => K10 a2 x1 x2 M))))
set_option maxRecDepth 4000 in
theorem wb_X12_whoDoes_10 {g : qG} {k : qK} (n : Nat) (j r : Nat) (hj : q_isLaw j) (hr : q_isLaw r) (o : qOk g 0 zX12_whoDoes k) (K10 : Int32 → Int32 → Int32 → qM → qR) (hK10 : ∀ (a2 a3 a4 : Int32) (M : qM), qAE g k zX12_whoDoes (qL j r) 10 [some (.inr (some 77)), none, some (.inl a2), some (.inl a3), some (.inl a4)] [] (qL j r, M) (K10 a2 a3 a4 M)) (a2 a3 a4 : Int32) (M : qM) : qAE g k zX12_whoDoes (qL j r) 10 [some (.inr (some 77)), none, some (.inl a2), some (.inl a3), some (.inl a4)] [] (qL j r, M) (b_X12_whoDoes_10 n K10 a2 a3 a4 M) := by
  unfold b_X12_whoDoes_10
  refine qr_iload o (q_dm dm_X12_whoDoes 7 rfl) rfl ?_
  refine qr_iload_n o (q_dm dm_X12_whoDoes 8 rfl) rfl ?_
  refine qr_icmp_le (tgt := 29) o (q_dm dm_X12_whoDoes 9 rfl) (by decide) ?_ ?_
  · refine qr_iload_n o (q_dm dm_X12_whoDoes 17 rfl) rfl ?_
    refine qr_aload_n o (q_dm dm_X12_whoDoes 18 rfl) rfl ?_
    refine qr_getf (kf := 60) o cf_X12 (sh77 j r) rfl (Nat.le_of_ble_eq_true rfl) fl_X12_435 (q_dm dm_X12_whoDoes 19 rfl) ?_
    refine qr_irem o (q_dm dm_X12_whoDoes 20 rfl) ?_
    exact qr_iret o rfl rfl (q_dm dm_X12_whoDoes 21 rfl)
  · refine qr_iload_n o (q_dm dm_X12_whoDoes 10 rfl) rfl ?_
    refine qr_aload_n o (q_dm dm_X12_whoDoes 11 rfl) rfl ?_
    refine qr_getf (kf := 60) o cf_X12 (sh77 j r) rfl (Nat.le_of_ble_eq_true rfl) fl_X12_435 (q_dm dm_X12_whoDoes 12 rfl) ?_
    refine qr_idiv o (q_dm dm_X12_whoDoes 13 rfl) ?_
    refine qr_lt (fun x1 => ?_)
    refine qs_istore_n (L' := [some (.inr (some 77)), none, some (.inl a2), some (.inl x1), some (.inl a4)]) o (q_dm dm_X12_whoDoes 14 rfl) (Nat.le_of_ble_eq_true rfl) rfl ?_
    refine qs_iincl2 (L' := fun x2 => [some (.inr (some 77)), none, some (.inl a2), some (.inl x1), some (.inl x2)]) o (q_dm dm_X12_whoDoes 15 rfl) rfl ic_m1 (Nat.le_of_ble_eq_true rfl) (fun _ => rfl) (fun x2 => ?_)
    refine qr_goto (tgt := 10) o (q_dm dm_X12_whoDoes 16 rfl) (by decide) ?_
    exact qr_loc (q_leS (q_leN (q_leS (q_leS (q_leS q_le0))))) (hK10 a2 x1 x2 M)

def f_X12_whoDoes_10 (n : Nat) : Nat → Int32 → Int32 → Int32 → qM → qR
  | 0, _, _, _, _ => none
  | m + 1, a2, a3, a4, M => b_X12_whoDoes_10 n (f_X12_whoDoes_10 n m) a2 a3 a4 M
theorem w_X12_whoDoes_10 {g : qG} {k : qK} (n : Nat) (j r : Nat) (hj : q_isLaw j) (hr : q_isLaw r) (o : qOk g 0 zX12_whoDoes k) : ∀ (m : Nat) (a2 a3 a4 : Int32) (M : qM), qAE g k zX12_whoDoes (qL j r) 10 [some (.inr (some 77)), none, some (.inl a2), some (.inl a3), some (.inl a4)] [] (qL j r, M) (f_X12_whoDoes_10 n m a2 a3 a4 M) := by
  intro m
  induction m with
  | zero =>
    intro a2 a3 a4 M
    exact qr_none
  | succ m ih =>
    intro a2 a3 a4 M
    exact wb_X12_whoDoes_10 n j r hj hr o (f_X12_whoDoes_10 n m) ih a2 a3 a4 M
def f_X12_whoDoes (n : Nat) (a1 a2 : Int32) (M : qM) : qR :=
  ql ((M 77 59) - (1 : Int32)) (fun x1 => f_X12_whoDoes_10 n n a2 a1 x1 M)
set_option maxRecDepth 4000 in
theorem w_X12_whoDoes {g : qG} {k : qK} (n : Nat) (j r : Nat) (hj : q_isLaw j) (hr : q_isLaw r) (o : qOk g 0 zX12_whoDoes k) (a1 a2 : Int32) (M : qM) : qAE g k zX12_whoDoes (qL j r) 0 [some (.inr (some 77)), some (.inl a1), some (.inl a2), none, none] [] (qL j r, M) (f_X12_whoDoes n a1 a2 M) := by
  unfold f_X12_whoDoes
  refine qr_iload_n o (q_dm dm_X12_whoDoes 0 rfl) rfl ?_
  refine qs_istore_n (L' := [some (.inr (some 77)), some (.inl a1), some (.inl a2), some (.inl a1), none]) o (q_dm dm_X12_whoDoes 1 rfl) (Nat.le_of_ble_eq_true rfl) rfl ?_
  refine qr_aload_n o (q_dm dm_X12_whoDoes 2 rfl) rfl ?_
  refine qr_getf (kf := 59) o cf_X12 (sh77 j r) rfl (Nat.le_of_ble_eq_true rfl) fl_X12_423 (q_dm dm_X12_whoDoes 3 rfl) ?_
  refine qr_iconst o (q_dm dm_X12_whoDoes 4 rfl) ic_1 ?_
  refine qr_isub o (q_dm dm_X12_whoDoes 5 rfl) ?_
  refine qr_lt (fun x1 => ?_)
  refine qs_istore (L' := [some (.inr (some 77)), some (.inl a1), some (.inl a2), some (.inl a1), some (.inl x1)]) o (q_dm dm_X12_whoDoes 6 rfl) (Nat.le_of_ble_eq_true rfl) rfl ?_
  exact qr_loc (q_leS (q_leN (q_leS (q_leS (q_leS q_le0))))) (w_X12_whoDoes_10 n j r hj hr o n a2 a1 x1 M)

theorem a_X12_whoDoes (g : qG) (l : Launch) (n : Nat) (j r : Nat) (hj : q_isLaw j) (hr : q_isLaw r) (a1 a2 : Int32) (M : qM) : qAM g l 0 zX12_whoDoes (qL j r) [.inr (some 77), .inl a1, .inl a2] (qL j r, M) (f_X12_whoDoes n a1 a2 M) :=
  qAM.of zv_X12_whoDoes.1 (by show 3 ≤ 5; decide) (fun k hk o => w_X12_whoDoes n j r hj hr o a1 a2 M)
def tb_X12_hoursBy : List (Nat × Instr × Nat) := [(0, (.aload_n 0, 1)), (1, (.getfield 115, 3)), (4, (.iload_n 1, 1)), (5, (.iaload, 1)), (6, (.istore_n 3, 1)), (7, (.iconst 0, 1)), (8, (.istore 4, 2)), (10, (.iconst 0, 1)), (11, (.istore 5, 2)), (13, (.iload 5, 2)), (15, (.bipush 12, 2)), (17, (.if_icmp .ge 25, 3)), (20, (.aload_n 0, 1)), (21, (.getfield 121, 3)), (24, (.iload 5, 2)), (26, (.iconst 0, 1)), (27, (.iastore, 1)), (28, (.aload_n 0, 1)), (29, (.getfield 124, 3)), (32, (.iload 5, 2)), (34, (.iconst 0, 1)), (35, (.iastore, 1)), (36, (.iinc 5 1, 3)), (39, (.goto (-26), 3)), (42, (.iconst 0, 1)), (43, (.istore 5, 2)), (45, (.iload 5, 2)), (47, (.aload_n 0, 1)), (48, (.getfield 423, 3)), (51, (.if_icmp .ge 117, 3)), (54, (.aload_n 0, 1)), (55, (.iload_n 2, 1)), (56, (.iload 5, 2)), (58, (.invokevirtual 426, 3)), (61, (.iload_n 1, 1)), (62, (.if_icmp .eq 6, 3)), (65, (.goto 97, 3)), (68, (.aload_n 0, 1)), (69, (.getfield 112, 3)), (72, (.iload 5, 2)), (74, (.iaload, 1)), (75, (.istore 6, 2)), (77, (.aload_n 0, 1)), (78, (.iload_n 3, 1)), (79, (.iload 6, 2)), (81, (.invokevirtual 429, 3)), (84, (.ifCond .ne 7, 3)), (87, (.ldc_w 398, 3)), (90, (.ireturn, 1)), (91, (.iconst 1, 1)), (92, (.istore 7, 2)), (94, (.iload 7, 2)), (96, (.bipush 20, 2)), (98, (.if_icmp .gt 22, 3)), (101, (.aload_n 0, 1)), (102, (.iload_n 3, 1)), (103, (.iload 6, 2)), (105, (.invokevirtual 432, 3)), (108, (.ifCond .ne 12, 3)), (111, (.iload 7, 2)), (113, (.iconst 1, 1)), (114, (.iadd, 1)), (115, (.istore 7, 2)), (117, (.goto (-23), 3)), (120, (.iload 7, 2)), (122, (.bipush 20, 2)), (124, (.if_icmp .le 7, 3)), (127, (.ldc_w 398, 3)), (130, (.ireturn, 1)), (131, (.aload_n 0, 1)), (132, (.getfield 124, 3)), (135, (.iload 6, 2)), (137, (.aload_n 0, 1)), (138, (.getfield 124, 3)), (141, (.iload 6, 2)), (143, (.iaload, 1)), (144, (.iconst 1, 1)), (145, (.iadd, 1)), (146, (.iastore, 1)), (147, (.iload 4, 2)), (149, (.iload 7, 2)), (151, (.aload_n 0, 1)), (152, (.getfield 19, 3)), (155, (.iload 6, 2)), (157, (.iaload, 1)), (158, (.imul, 1)), (159, (.iadd, 1)), (160, (.istore 4, 2)), (162, (.iinc 5 1, 3)), (165, (.goto (-120), 3)), (168, (.iload 4, 2)), (170, (.ireturn, 1))]
theorem dm_X12_hoursBy : ∀ q ∈ tb_X12_hoursBy, decode zX12_hoursBy.2.1 q.1 = .ok q.2 := by decide +kernel
def f_X12_hoursBy_120 (n : Nat) (K45 : Int32 → Int32 → Int32 → Int32 → Int32 → qM → qR) (a1 a2 a3 a4 a5 a6 a7 : Int32) (M : qM) : qR :=
  (if a7 ≤ (20 : Int32) then qg a6 12 (qg a6 12 (qlm (mu M 115 a6.toNatClampNeg ((M 115 a6.toNatClampNeg) + (1 : Int32))) (fun m1 => qg a6 13 (ql (a4 + (a7 * (m1 81 a6.toNatClampNeg))) (fun x2 => ql (a5 + (1 : Int32)) (fun x3 => K45 a1 a2 a3 x2 x3 m1)))))) else some ((1000000000 : Int32), M))
set_option maxRecDepth 4000 in
theorem w_X12_hoursBy_120 {g : qG} {k : qK} (n : Nat) (j r : Nat) (hj : q_isLaw j) (hr : q_isLaw r) (o : qOk g 4 zX12_hoursBy k) (K45 : Int32 → Int32 → Int32 → Int32 → Int32 → qM → qR) (hK45 : ∀ (a1 a2 a3 a4 a5 : Int32) (M : qM), qAE g k zX12_hoursBy (qL j r) 45 [some (.inr (some 77)), some (.inl a1), some (.inl a2), some (.inl a3), some (.inl a4), some (.inl a5), none, none] [] (qL j r, M) (K45 a1 a2 a3 a4 a5 M)) (a1 a2 a3 a4 a5 a6 a7 : Int32) (M : qM) : qAE g k zX12_hoursBy (qL j r) 120 [some (.inr (some 77)), some (.inl a1), some (.inl a2), some (.inl a3), some (.inl a4), some (.inl a5), some (.inl a6), some (.inl a7)] [] (qL j r, M) (f_X12_hoursBy_120 n K45 a1 a2 a3 a4 a5 a6 a7 M) := by
  unfold f_X12_hoursBy_120
  refine qr_iload o (q_dm dm_X12_hoursBy 64 rfl) rfl ?_
  refine qr_bipush o (q_dm dm_X12_hoursBy 65 rfl) bi_20 ?_
  refine qr_icmp_le (tgt := 131) o (q_dm dm_X12_hoursBy 66 rfl) (by decide) ?_ ?_
  · refine qr_aload_n o (q_dm dm_X12_hoursBy 69 rfl) rfl ?_
    refine qr_getr (kf := 58) o cf_X12 (sh77 j r) rfl (Nat.le_of_ble_eq_true rfl) fl_X12_124 (q_dm dm_X12_hoursBy 70 rfl) ?_
    refine qr_iload o (q_dm dm_X12_hoursBy 71 rfl) rfl ?_
    refine qr_aload_n o (q_dm dm_X12_hoursBy 72 rfl) rfl ?_
    refine qr_getr (kf := 58) o cf_X12 (sh77 j r) rfl (Nat.le_of_ble_eq_true rfl) fl_X12_124 (q_dm dm_X12_hoursBy 73 rfl) ?_
    refine qr_iload o (q_dm dm_X12_hoursBy 74 rfl) rfl ?_
    refine qr_iald o (sh115 j r) (q_dm dm_X12_hoursBy 75 rfl) ?_
    refine qr_iconst o (q_dm dm_X12_hoursBy 76 rfl) ic_1 ?_
    refine qr_iadd o (q_dm dm_X12_hoursBy 77 rfl) ?_
    refine qr_iast o (sh115 j r) (q_dm dm_X12_hoursBy 78 rfl) ?_
    refine qr_letm (fun m1 => ?_)
    refine qr_iload o (q_dm dm_X12_hoursBy 79 rfl) rfl ?_
    refine qr_iload o (q_dm dm_X12_hoursBy 80 rfl) rfl ?_
    refine qr_aload_n o (q_dm dm_X12_hoursBy 81 rfl) rfl ?_
    refine qr_getr (kf := 3) o cf_X12 (sh77 j r) rfl (Nat.le_of_ble_eq_true rfl) fl_X12_19 (q_dm dm_X12_hoursBy 82 rfl) ?_
    refine qr_iload o (q_dm dm_X12_hoursBy 83 rfl) rfl ?_
    refine qr_iald o (sh81 j r) (q_dm dm_X12_hoursBy 84 rfl) ?_
    refine qr_imul o (q_dm dm_X12_hoursBy 85 rfl) ?_
    refine qr_iadd o (q_dm dm_X12_hoursBy 86 rfl) ?_
    refine qr_lt (fun x2 => ?_)
    refine qs_istore (L' := [some (.inr (some 77)), some (.inl a1), some (.inl a2), some (.inl a3), some (.inl x2), some (.inl a5), some (.inl a6), some (.inl a7)]) o (q_dm dm_X12_hoursBy 87 rfl) (Nat.le_of_ble_eq_true rfl) rfl ?_
    refine qs_iincl2 (L' := fun x3 => [some (.inr (some 77)), some (.inl a1), some (.inl a2), some (.inl a3), some (.inl x2), some (.inl x3), some (.inl a6), some (.inl a7)]) o (q_dm dm_X12_hoursBy 88 rfl) rfl ic_1 (Nat.le_of_ble_eq_true rfl) (fun _ => rfl) (fun x3 => ?_)
    refine qr_goto (tgt := 45) o (q_dm dm_X12_hoursBy 89 rfl) (by decide) ?_
    exact qr_loc (q_leS (q_leS (q_leS (q_leS (q_leS (q_leS (q_leN (q_leN q_le0)))))))) (hK45 a1 a2 a3 x2 x3 m1)
  · refine qr_ldc_w o (q_dm dm_X12_hoursBy 67 rfl) kc_X12_398 ?_
    exact qr_iret o rfl rfl (q_dm dm_X12_hoursBy 68 rfl)

def b_X12_hoursBy_94 (n : Nat) (K45 : Int32 → Int32 → Int32 → Int32 → Int32 → qM → qR) (K94 : Int32 → Int32 → Int32 → Int32 → Int32 → Int32 → Int32 → qM → qR) (a1 a2 a3 a4 a5 a6 a7 : Int32) (M : qM) : qR :=
  (if (20 : Int32) < a7 then f_X12_hoursBy_120 n K45 a1 a2 a3 a4 a5 a6 a7 M else qc (f_X12_jobCounts n a3 a6 M) (fun r1 m2 => (if r1 = (0 : Int32) then ql (a7 + (1 : Int32)) (fun x3 => K94 a1 a2 a3 a4 a5 a6 x3 m2) else f_X12_hoursBy_120 n K45 a1 a2 a3 a4 a5 a6 a7 m2)))
set_option maxRecDepth 4000 in
theorem wb_X12_hoursBy_94 {g : qG} {k : qK} (n : Nat) (j r : Nat) (hj : q_isLaw j) (hr : q_isLaw r) (o : qOk g 4 zX12_hoursBy k) (K45 : Int32 → Int32 → Int32 → Int32 → Int32 → qM → qR) (hK45 : ∀ (a1 a2 a3 a4 a5 : Int32) (M : qM), qAE g k zX12_hoursBy (qL j r) 45 [some (.inr (some 77)), some (.inl a1), some (.inl a2), some (.inl a3), some (.inl a4), some (.inl a5), none, none] [] (qL j r, M) (K45 a1 a2 a3 a4 a5 M)) (K94 : Int32 → Int32 → Int32 → Int32 → Int32 → Int32 → Int32 → qM → qR) (hK94 : ∀ (a1 a2 a3 a4 a5 a6 a7 : Int32) (M : qM), qAE g k zX12_hoursBy (qL j r) 94 [some (.inr (some 77)), some (.inl a1), some (.inl a2), some (.inl a3), some (.inl a4), some (.inl a5), some (.inl a6), some (.inl a7)] [] (qL j r, M) (K94 a1 a2 a3 a4 a5 a6 a7 M)) (a1 a2 a3 a4 a5 a6 a7 : Int32) (M : qM) : qAE g k zX12_hoursBy (qL j r) 94 [some (.inr (some 77)), some (.inl a1), some (.inl a2), some (.inl a3), some (.inl a4), some (.inl a5), some (.inl a6), some (.inl a7)] [] (qL j r, M) (b_X12_hoursBy_94 n K45 K94 a1 a2 a3 a4 a5 a6 a7 M) := by
  unfold b_X12_hoursBy_94
  refine qr_iload o (q_dm dm_X12_hoursBy 51 rfl) rfl ?_
  refine qr_bipush o (q_dm dm_X12_hoursBy 52 rfl) bi_20 ?_
  refine qr_icmp_gt (tgt := 120) o (q_dm dm_X12_hoursBy 53 rfl) (by decide) ?_ ?_
  · exact qr_loc (q_leS (q_leS (q_leS (q_leS (q_leS (q_leS (q_leS (q_leS q_le0)))))))) (w_X12_hoursBy_120 n j r hj hr o K45 hK45 a1 a2 a3 a4 a5 a6 a7 M)
  · refine qr_aload_n o (q_dm dm_X12_hoursBy 54 rfl) rfl ?_
    refine qr_iload_n o (q_dm dm_X12_hoursBy 55 rfl) rfl ?_
    refine qr_iload o (q_dm dm_X12_hoursBy 56 rfl) rfl ?_
    refine qr_callv_i (As := [.inl a3, .inl a6]) (S := []) o (a_X12_jobCounts g k.2.1 n j r hj hr a3 a6 M) (Nat.le_of_ble_eq_true rfl) zv_X12_jobCounts rfl cf_X12 (sh77 j r) ml_X12_432 (Nat.le_of_ble_eq_true rfl) (q_dm dm_X12_hoursBy 57 rfl) (fun r1 m2 => ?_)
    refine qr_if_ne (tgt := 120) o (q_dm dm_X12_hoursBy 58 rfl) (by decide) ?_ ?_
    · exact qr_loc (q_leS (q_leS (q_leS (q_leS (q_leS (q_leS (q_leS (q_leS q_le0)))))))) (w_X12_hoursBy_120 n j r hj hr o K45 hK45 a1 a2 a3 a4 a5 a6 a7 m2)
    · refine qr_iload o (q_dm dm_X12_hoursBy 59 rfl) rfl ?_
      refine qr_iconst o (q_dm dm_X12_hoursBy 60 rfl) ic_1 ?_
      refine qr_iadd o (q_dm dm_X12_hoursBy 61 rfl) ?_
      refine qr_lt (fun x3 => ?_)
      refine qs_istore (L' := [some (.inr (some 77)), some (.inl a1), some (.inl a2), some (.inl a3), some (.inl a4), some (.inl a5), some (.inl a6), some (.inl x3)]) o (q_dm dm_X12_hoursBy 62 rfl) (Nat.le_of_ble_eq_true rfl) rfl ?_
      refine qr_goto (tgt := 94) o (q_dm dm_X12_hoursBy 63 rfl) (by decide) ?_
      exact qr_loc (q_leS (q_leS (q_leS (q_leS (q_leS (q_leS (q_leS (q_leS q_le0)))))))) (hK94 a1 a2 a3 a4 a5 a6 x3 m2)

def f_X12_hoursBy_94 (n : Nat) (K45 : Int32 → Int32 → Int32 → Int32 → Int32 → qM → qR) : Nat → Int32 → Int32 → Int32 → Int32 → Int32 → Int32 → Int32 → qM → qR
  | 0, _, _, _, _, _, _, _, _ => none
  | m + 1, a1, a2, a3, a4, a5, a6, a7, M => b_X12_hoursBy_94 n K45 (f_X12_hoursBy_94 n K45 m) a1 a2 a3 a4 a5 a6 a7 M
theorem w_X12_hoursBy_94 {g : qG} {k : qK} (n : Nat) (j r : Nat) (hj : q_isLaw j) (hr : q_isLaw r) (o : qOk g 4 zX12_hoursBy k) (K45 : Int32 → Int32 → Int32 → Int32 → Int32 → qM → qR) (hK45 : ∀ (a1 a2 a3 a4 a5 : Int32) (M : qM), qAE g k zX12_hoursBy (qL j r) 45 [some (.inr (some 77)), some (.inl a1), some (.inl a2), some (.inl a3), some (.inl a4), some (.inl a5), none, none] [] (qL j r, M) (K45 a1 a2 a3 a4 a5 M)) : ∀ (m : Nat) (a1 a2 a3 a4 a5 a6 a7 : Int32) (M : qM), qAE g k zX12_hoursBy (qL j r) 94 [some (.inr (some 77)), some (.inl a1), some (.inl a2), some (.inl a3), some (.inl a4), some (.inl a5), some (.inl a6), some (.inl a7)] [] (qL j r, M) (f_X12_hoursBy_94 n K45 m a1 a2 a3 a4 a5 a6 a7 M) := by
  intro m
  induction m with
  | zero =>
    intro a1 a2 a3 a4 a5 a6 a7 M
    exact qr_none
  | succ m ih =>
    intro a1 a2 a3 a4 a5 a6 a7 M
    exact wb_X12_hoursBy_94 n j r hj hr o K45 hK45 (f_X12_hoursBy_94 n K45 m) ih a1 a2 a3 a4 a5 a6 a7 M
def b_X12_hoursBy_45 (n : Nat) (K45 : Int32 → Int32 → Int32 → Int32 → Int32 → qM → qR) (a1 a2 a3 a4 a5 : Int32) (M : qM) : qR :=
  (if (M 77 59) ≤ a5 then some (a4, M) else qc (f_X12_whoDoes n a2 a5 M) (fun r1 m2 => (if r1 = a1 then qg a5 8 (ql (m2 111 a5.toNatClampNeg) (fun x3 => qc (f_X12_jobNeeds n a3 x3 m2) (fun r4 m5 => (if r4 = (0 : Int32) then some ((1000000000 : Int32), m5) else f_X12_hoursBy_94 n K45 n a1 a2 a3 a4 a5 x3 (1 : Int32) m5)))) else ql (a5 + (1 : Int32)) (fun x6 => K45 a1 a2 a3 a4 x6 m2))))
set_option maxRecDepth 4000 in
theorem wb_X12_hoursBy_45 {g : qG} {k : qK} (n : Nat) (j r : Nat) (hj : q_isLaw j) (hr : q_isLaw r) (o : qOk g 4 zX12_hoursBy k) (K45 : Int32 → Int32 → Int32 → Int32 → Int32 → qM → qR) (hK45 : ∀ (a1 a2 a3 a4 a5 : Int32) (M : qM), qAE g k zX12_hoursBy (qL j r) 45 [some (.inr (some 77)), some (.inl a1), some (.inl a2), some (.inl a3), some (.inl a4), some (.inl a5), none, none] [] (qL j r, M) (K45 a1 a2 a3 a4 a5 M)) (a1 a2 a3 a4 a5 : Int32) (M : qM) : qAE g k zX12_hoursBy (qL j r) 45 [some (.inr (some 77)), some (.inl a1), some (.inl a2), some (.inl a3), some (.inl a4), some (.inl a5), none, none] [] (qL j r, M) (b_X12_hoursBy_45 n K45 a1 a2 a3 a4 a5 M) := by
  unfold b_X12_hoursBy_45
  refine qr_iload o (q_dm dm_X12_hoursBy 26 rfl) rfl ?_
  refine qr_aload_n o (q_dm dm_X12_hoursBy 27 rfl) rfl ?_
  refine qr_getf (kf := 59) o cf_X12 (sh77 j r) rfl (Nat.le_of_ble_eq_true rfl) fl_X12_423 (q_dm dm_X12_hoursBy 28 rfl) ?_
  refine qr_icmp_ge (tgt := 168) o (q_dm dm_X12_hoursBy 29 rfl) (by decide) ?_ ?_
  · refine qr_iload o (q_dm dm_X12_hoursBy 90 rfl) rfl ?_
    exact qr_iret o rfl rfl (q_dm dm_X12_hoursBy 91 rfl)
  · refine qr_aload_n o (q_dm dm_X12_hoursBy 30 rfl) rfl ?_
    refine qr_iload_n o (q_dm dm_X12_hoursBy 31 rfl) rfl ?_
    refine qr_iload o (q_dm dm_X12_hoursBy 32 rfl) rfl ?_
    refine qr_callv_i (As := [.inl a2, .inl a5]) (S := []) o (a_X12_whoDoes g k.2.1 n j r hj hr a2 a5 M) (Nat.le_of_ble_eq_true rfl) zv_X12_whoDoes rfl cf_X12 (sh77 j r) ml_X12_426 (Nat.le_of_ble_eq_true rfl) (q_dm dm_X12_hoursBy 33 rfl) (fun r1 m2 => ?_)
    refine qr_iload_n o (q_dm dm_X12_hoursBy 34 rfl) rfl ?_
    refine qr_icmp_eq (tgt := 68) o (q_dm dm_X12_hoursBy 35 rfl) (by decide) ?_ ?_
    · refine qr_aload_n o (q_dm dm_X12_hoursBy 37 rfl) rfl ?_
      refine qr_getr (kf := 54) o cf_X12 (sh77 j r) rfl (Nat.le_of_ble_eq_true rfl) fl_X12_112 (q_dm dm_X12_hoursBy 38 rfl) ?_
      refine qr_iload o (q_dm dm_X12_hoursBy 39 rfl) rfl ?_
      refine qr_iald o (sh111 j r) (q_dm dm_X12_hoursBy 40 rfl) ?_
      refine qr_lt (fun x3 => ?_)
      refine qs_istore (L' := [some (.inr (some 77)), some (.inl a1), some (.inl a2), some (.inl a3), some (.inl a4), some (.inl a5), some (.inl x3), none]) o (q_dm dm_X12_hoursBy 41 rfl) (Nat.le_of_ble_eq_true rfl) rfl ?_
      refine qr_aload_n o (q_dm dm_X12_hoursBy 42 rfl) rfl ?_
      refine qr_iload_n o (q_dm dm_X12_hoursBy 43 rfl) rfl ?_
      refine qr_iload o (q_dm dm_X12_hoursBy 44 rfl) rfl ?_
      refine qr_callv_i (As := [.inl a3, .inl x3]) (S := []) o (a_X12_jobNeeds g k.2.1 n j r hj hr a3 x3 m2) (Nat.le_of_ble_eq_true rfl) zv_X12_jobNeeds rfl cf_X12 (sh77 j r) ml_X12_429 (Nat.le_of_ble_eq_true rfl) (q_dm dm_X12_hoursBy 45 rfl) (fun r4 m5 => ?_)
      refine qr_if_ne (tgt := 91) o (q_dm dm_X12_hoursBy 46 rfl) (by decide) ?_ ?_
      · refine qr_iconst o (q_dm dm_X12_hoursBy 49 rfl) ic_1 ?_
        refine qs_istore (L' := [some (.inr (some 77)), some (.inl a1), some (.inl a2), some (.inl a3), some (.inl a4), some (.inl a5), some (.inl x3), some (.inl (1 : Int32))]) o (q_dm dm_X12_hoursBy 50 rfl) (Nat.le_of_ble_eq_true rfl) rfl ?_
        exact qr_loc (q_leS (q_leS (q_leS (q_leS (q_leS (q_leS (q_leS (q_leS q_le0)))))))) (w_X12_hoursBy_94 n j r hj hr o K45 hK45 n a1 a2 a3 a4 a5 x3 (1 : Int32) m5)
      · refine qr_ldc_w o (q_dm dm_X12_hoursBy 47 rfl) kc_X12_398 ?_
        exact qr_iret o rfl rfl (q_dm dm_X12_hoursBy 48 rfl)
    · refine qr_goto (tgt := 162) o (q_dm dm_X12_hoursBy 36 rfl) (by decide) ?_
      refine qs_iincl2 (L' := fun x6 => [some (.inr (some 77)), some (.inl a1), some (.inl a2), some (.inl a3), some (.inl a4), some (.inl x6), none, none]) o (q_dm dm_X12_hoursBy 88 rfl) rfl ic_1 (Nat.le_of_ble_eq_true rfl) (fun _ => rfl) (fun x6 => ?_)
      refine qr_goto (tgt := 45) o (q_dm dm_X12_hoursBy 89 rfl) (by decide) ?_
      exact qr_loc (q_leS (q_leS (q_leS (q_leS (q_leS (q_leS (q_leN (q_leN q_le0)))))))) (hK45 a1 a2 a3 a4 x6 m2)

def f_X12_hoursBy_45 (n : Nat) : Nat → Int32 → Int32 → Int32 → Int32 → Int32 → qM → qR
  | 0, _, _, _, _, _, _ => none
  | m + 1, a1, a2, a3, a4, a5, M => b_X12_hoursBy_45 n (f_X12_hoursBy_45 n m) a1 a2 a3 a4 a5 M
theorem w_X12_hoursBy_45 {g : qG} {k : qK} (n : Nat) (j r : Nat) (hj : q_isLaw j) (hr : q_isLaw r) (o : qOk g 4 zX12_hoursBy k) : ∀ (m : Nat) (a1 a2 a3 a4 a5 : Int32) (M : qM), qAE g k zX12_hoursBy (qL j r) 45 [some (.inr (some 77)), some (.inl a1), some (.inl a2), some (.inl a3), some (.inl a4), some (.inl a5), none, none] [] (qL j r, M) (f_X12_hoursBy_45 n m a1 a2 a3 a4 a5 M) := by
  intro m
  induction m with
  | zero =>
    intro a1 a2 a3 a4 a5 M
    exact qr_none
  | succ m ih =>
    intro a1 a2 a3 a4 a5 M
    exact wb_X12_hoursBy_45 n j r hj hr o (f_X12_hoursBy_45 n m) ih a1 a2 a3 a4 a5 M
def b_X12_hoursBy_13 (n : Nat) (K13 : Int32 → Int32 → Int32 → Int32 → Int32 → qM → qR) (a1 a2 a3 a4 a5 : Int32) (M : qM) : qR :=
  (if (12 : Int32) ≤ a5 then f_X12_hoursBy_45 n n a1 a2 a3 a4 (0 : Int32) M else qg a5 12 (qlm (mu M 114 a5.toNatClampNeg (0 : Int32)) (fun m1 => qg a5 12 (qlm (mu m1 115 a5.toNatClampNeg (0 : Int32)) (fun m2 => ql (a5 + (1 : Int32)) (fun x3 => K13 a1 a2 a3 a4 x3 m2))))))
set_option maxRecDepth 4000 in
theorem wb_X12_hoursBy_13 {g : qG} {k : qK} (n : Nat) (j r : Nat) (hj : q_isLaw j) (hr : q_isLaw r) (o : qOk g 4 zX12_hoursBy k) (K13 : Int32 → Int32 → Int32 → Int32 → Int32 → qM → qR) (hK13 : ∀ (a1 a2 a3 a4 a5 : Int32) (M : qM), qAE g k zX12_hoursBy (qL j r) 13 [some (.inr (some 77)), some (.inl a1), some (.inl a2), some (.inl a3), some (.inl a4), some (.inl a5), none, none] [] (qL j r, M) (K13 a1 a2 a3 a4 a5 M)) (a1 a2 a3 a4 a5 : Int32) (M : qM) : qAE g k zX12_hoursBy (qL j r) 13 [some (.inr (some 77)), some (.inl a1), some (.inl a2), some (.inl a3), some (.inl a4), some (.inl a5), none, none] [] (qL j r, M) (b_X12_hoursBy_13 n K13 a1 a2 a3 a4 a5 M) := by
  unfold b_X12_hoursBy_13
  refine qr_iload o (q_dm dm_X12_hoursBy 9 rfl) rfl ?_
  refine qr_bipush o (q_dm dm_X12_hoursBy 10 rfl) bi_12 ?_
  refine qr_icmp_ge (tgt := 42) o (q_dm dm_X12_hoursBy 11 rfl) (by decide) ?_ ?_
  · refine qr_iconst o (q_dm dm_X12_hoursBy 24 rfl) ic_0 ?_
    refine qs_istore (L' := [some (.inr (some 77)), some (.inl a1), some (.inl a2), some (.inl a3), some (.inl a4), some (.inl (0 : Int32)), none, none]) o (q_dm dm_X12_hoursBy 25 rfl) (Nat.le_of_ble_eq_true rfl) rfl ?_
    exact qr_loc (q_leS (q_leS (q_leS (q_leS (q_leS (q_leS (q_leN (q_leN q_le0)))))))) (w_X12_hoursBy_45 n j r hj hr o n a1 a2 a3 a4 (0 : Int32) M)
  · refine qr_aload_n o (q_dm dm_X12_hoursBy 12 rfl) rfl ?_
    refine qr_getr (kf := 57) o cf_X12 (sh77 j r) rfl (Nat.le_of_ble_eq_true rfl) fl_X12_121 (q_dm dm_X12_hoursBy 13 rfl) ?_
    refine qr_iload o (q_dm dm_X12_hoursBy 14 rfl) rfl ?_
    refine qr_iconst o (q_dm dm_X12_hoursBy 15 rfl) ic_0 ?_
    refine qr_iast o (sh114 j r) (q_dm dm_X12_hoursBy 16 rfl) ?_
    refine qr_letm (fun m1 => ?_)
    refine qr_aload_n o (q_dm dm_X12_hoursBy 17 rfl) rfl ?_
    refine qr_getr (kf := 58) o cf_X12 (sh77 j r) rfl (Nat.le_of_ble_eq_true rfl) fl_X12_124 (q_dm dm_X12_hoursBy 18 rfl) ?_
    refine qr_iload o (q_dm dm_X12_hoursBy 19 rfl) rfl ?_
    refine qr_iconst o (q_dm dm_X12_hoursBy 20 rfl) ic_0 ?_
    refine qr_iast o (sh115 j r) (q_dm dm_X12_hoursBy 21 rfl) ?_
    refine qr_letm (fun m2 => ?_)
    refine qs_iincl2 (L' := fun x3 => [some (.inr (some 77)), some (.inl a1), some (.inl a2), some (.inl a3), some (.inl a4), some (.inl x3), none, none]) o (q_dm dm_X12_hoursBy 22 rfl) rfl ic_1 (Nat.le_of_ble_eq_true rfl) (fun _ => rfl) (fun x3 => ?_)
    refine qr_goto (tgt := 13) o (q_dm dm_X12_hoursBy 23 rfl) (by decide) ?_
    exact qr_loc (q_leS (q_leS (q_leS (q_leS (q_leS (q_leS (q_leN (q_leN q_le0)))))))) (hK13 a1 a2 a3 a4 x3 m2)

def f_X12_hoursBy_13 (n : Nat) : Nat → Int32 → Int32 → Int32 → Int32 → Int32 → qM → qR
  | 0, _, _, _, _, _, _ => none
  | m + 1, a1, a2, a3, a4, a5, M => b_X12_hoursBy_13 n (f_X12_hoursBy_13 n m) a1 a2 a3 a4 a5 M
theorem w_X12_hoursBy_13 {g : qG} {k : qK} (n : Nat) (j r : Nat) (hj : q_isLaw j) (hr : q_isLaw r) (o : qOk g 4 zX12_hoursBy k) : ∀ (m : Nat) (a1 a2 a3 a4 a5 : Int32) (M : qM), qAE g k zX12_hoursBy (qL j r) 13 [some (.inr (some 77)), some (.inl a1), some (.inl a2), some (.inl a3), some (.inl a4), some (.inl a5), none, none] [] (qL j r, M) (f_X12_hoursBy_13 n m a1 a2 a3 a4 a5 M) := by
  intro m
  induction m with
  | zero =>
    intro a1 a2 a3 a4 a5 M
    exact qr_none
  | succ m ih =>
    intro a1 a2 a3 a4 a5 M
    exact wb_X12_hoursBy_13 n j r hj hr o (f_X12_hoursBy_13 n m) ih a1 a2 a3 a4 a5 M
def f_X12_hoursBy (n : Nat) (a1 a2 : Int32) (M : qM) : qR :=
  qg a1 3 (ql (M 112 a1.toNatClampNeg) (fun x1 => f_X12_hoursBy_13 n n a1 a2 x1 (0 : Int32) (0 : Int32) M))
set_option maxRecDepth 4000 in
theorem w_X12_hoursBy {g : qG} {k : qK} (n : Nat) (j r : Nat) (hj : q_isLaw j) (hr : q_isLaw r) (o : qOk g 4 zX12_hoursBy k) (a1 a2 : Int32) (M : qM) : qAE g k zX12_hoursBy (qL j r) 0 [some (.inr (some 77)), some (.inl a1), some (.inl a2), none, none, none, none, none] [] (qL j r, M) (f_X12_hoursBy n a1 a2 M) := by
  unfold f_X12_hoursBy
  refine qr_aload_n o (q_dm dm_X12_hoursBy 0 rfl) rfl ?_
  refine qr_getr (kf := 55) o cf_X12 (sh77 j r) rfl (Nat.le_of_ble_eq_true rfl) fl_X12_115 (q_dm dm_X12_hoursBy 1 rfl) ?_
  refine qr_iload_n o (q_dm dm_X12_hoursBy 2 rfl) rfl ?_
  refine qr_iald o (sh112 j r) (q_dm dm_X12_hoursBy 3 rfl) ?_
  refine qr_lt (fun x1 => ?_)
  refine qs_istore_n (L' := [some (.inr (some 77)), some (.inl a1), some (.inl a2), some (.inl x1), none, none, none, none]) o (q_dm dm_X12_hoursBy 4 rfl) (Nat.le_of_ble_eq_true rfl) rfl ?_
  refine qr_iconst o (q_dm dm_X12_hoursBy 5 rfl) ic_0 ?_
  refine qs_istore (L' := [some (.inr (some 77)), some (.inl a1), some (.inl a2), some (.inl x1), some (.inl (0 : Int32)), none, none, none]) o (q_dm dm_X12_hoursBy 6 rfl) (Nat.le_of_ble_eq_true rfl) rfl ?_
  refine qr_iconst o (q_dm dm_X12_hoursBy 7 rfl) ic_0 ?_
  refine qs_istore (L' := [some (.inr (some 77)), some (.inl a1), some (.inl a2), some (.inl x1), some (.inl (0 : Int32)), some (.inl (0 : Int32)), none, none]) o (q_dm dm_X12_hoursBy 8 rfl) (Nat.le_of_ble_eq_true rfl) rfl ?_
  exact qr_loc (q_leS (q_leS (q_leS (q_leS (q_leS (q_leS (q_leN (q_leN q_le0)))))))) (w_X12_hoursBy_13 n j r hj hr o n a1 a2 x1 (0 : Int32) (0 : Int32) M)

theorem a_X12_hoursBy (g : qG) (l : Launch) (n : Nat) (j r : Nat) (hj : q_isLaw j) (hr : q_isLaw r) (a1 a2 : Int32) (M : qM) : qAM g l 4 zX12_hoursBy (qL j r) [.inr (some 77), .inl a1, .inl a2] (qL j r, M) (f_X12_hoursBy n a1 a2 M) :=
  qAM.of zv_X12_hoursBy.1 (by show 3 ≤ 8; decide) (fun k hk o => w_X12_hoursBy n j r hj hr o a1 a2 M)
