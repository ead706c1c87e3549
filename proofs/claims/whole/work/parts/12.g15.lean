def tb_X12_forgets : List (Nat × Instr × Nat) := [(0, (.iconst 0, 1)), (1, (.istore_n 3, 1)), (2, (.iload_n 3, 1)), (3, (.bipush 12, 2)), (5, (.if_icmp .ge 122, 3)), (8, (.iload_n 1, 1)), (9, (.iload_n 3, 1)), (10, (.invokestatic 282, 3)), (13, (.istore 4, 2)), (15, (.aload_n 0, 1)), (16, (.iload_n 3, 1)), (17, (.invokevirtual 157, 3)), (20, (.ifCond .eq 101, 3)), (23, (.aload_n 0, 1)), (24, (.getfield 7, 3)), (27, (.iconst 0, 1)), (28, (.iload 4, 2)), (30, (.iadd, 1)), (31, (.iaload, 1)), (32, (.ifCond .eq 89, 3)), (35, (.aload_n 0, 1)), (36, (.iload_n 2, 1)), (37, (.iload_n 3, 1)), (38, (.invokevirtual 279, 3)), (41, (.ifCond .ne 6, 3)), (44, (.goto 77, 3)), (47, (.aload_n 0, 1)), (48, (.iload_n 1, 1)), (49, (.iload_n 3, 1)), (50, (.bipush 8, 2)), (52, (.invokevirtual 288, 3)), (55, (.aload_n 0, 1)), (56, (.bipush 102, 2)), (58, (.sipush 999, 3)), (61, (.iconst 0, 1)), (62, (.invokevirtual 292, 3)), (65, (.istore 5, 2)), (67, (.iload 5, 2)), (69, (.ifCond .eq 52, 3)), (72, (.aload_n 0, 1)), (73, (.getfield 7, 3)), (76, (.sipush 313, 3)), (79, (.iaload, 1)), (80, (.aload_n 0, 1)), (81, (.getfield 7, 3)), (84, (.bipush 96, 2)), (86, (.iload 4, 2)), (88, (.iadd, 1)), (89, (.iaload, 1)), (90, (.isub, 1)), (91, (.iload 5, 2)), (93, (.if_icmp .ge 6, 3)), (96, (.goto 25, 3)), (99, (.aload_n 0, 1)), (100, (.getfield 7, 3)), (103, (.iconst 0, 1)), (104, (.iload 4, 2)), (106, (.iadd, 1)), (107, (.iconst 0, 1)), (108, (.iastore, 1)), (109, (.aload_n 0, 1)), (110, (.getfield 7, 3)), (113, (.bipush 96, 2)), (115, (.iload 4, 2)), (117, (.iadd, 1)), (118, (.bipush (-2), 2)), (120, (.iastore, 1)), (121, (.iinc 3 1, 3)), (124, (.goto (-122), 3)), (127, (.return_, 1))]
theorem dm_X12_forgets : ∀ q ∈ tb_X12_forgets, decode zX12_forgets.2.1 q.1 = .ok q.2 := by decide +kernel
def b_X12_forgets_2 (n : Nat) (K2 : Int32 → Int32 → Int32 → qM → qR) (a1 a2 a3 : Int32) (M : qM) : qR :=
  (if (12 : Int32) ≤ a3 then some (0, M) else qc (f_X12_at n a1 a3 M) (fun r1 m2 => qc (f_X12_isKind n a3 m2) (fun r3 m4 => (if r3 = (0 : Int32) then ql (a3 + (1 : Int32)) (fun x5 => K2 a1 a2 x5 m4) else qg ((0 : Int32) + r1) 954 ((if (m4 78 ((0 : Int32) + r1).toNatClampNeg) = (0 : Int32) then ql (a3 + (1 : Int32)) (fun x6 => K2 a1 a2 x6 m4) else qc (f_X12_isLike n a2 a3 m4) (fun r7 m8 => (if r7 = (0 : Int32) then ql (a3 + (1 : Int32)) (fun x17 => K2 a1 a2 x17 m8) else qc (f_X12_feels n a1 a3 (8 : Int32) m8) (fun _ m9 => qc (f_X12_byLaw n (102 : Int32) (999 : Int32) (0 : Int32) m9) (fun r10 m11 => (if r10 = (0 : Int32) then ql (a3 + (1 : Int32)) (fun x12 => K2 a1 a2 x12 m11) else qg ((96 : Int32) + r1) 954 ((if r10 ≤ ((m11 78 313) - (m11 78 ((96 : Int32) + r1).toNatClampNeg)) then qg ((0 : Int32) + r1) 954 (qlm (mu m11 78 ((0 : Int32) + r1).toNatClampNeg (0 : Int32)) (fun m13 => qg ((96 : Int32) + r1) 954 (qlm (mu m13 78 ((96 : Int32) + r1).toNatClampNeg (-2 : Int32)) (fun m14 => ql (a3 + (1 : Int32)) (fun x15 => K2 a1 a2 x15 m14))))) else ql (a3 + (1 : Int32)) (fun x16 => K2 a1 a2 x16 m11))))))))))))))
set_option maxRecDepth 4000 in
theorem wb_X12_forgets_2 {g : qG} {k : qK} (n : Nat) (j r : Nat) (hj : q_isLaw j) (hr : q_isLaw r) (o : qOk g 3 zX12_forgets k) (K2 : Int32 → Int32 → Int32 → qM → qR) (hK2 : ∀ (a1 a2 a3 : Int32) (M : qM), qAE g k zX12_forgets (qL j r) 2 [some (.inr (some 77)), some (.inl a1), some (.inl a2), some (.inl a3), none, none] [] (qL j r, M) (K2 a1 a2 a3 M)) (a1 a2 a3 : Int32) (M : qM) : qAE g k zX12_forgets (qL j r) 2 [some (.inr (some 77)), some (.inl a1), some (.inl a2), some (.inl a3), none, none] [] (qL j r, M) (b_X12_forgets_2 n K2 a1 a2 a3 M) := by
  unfold b_X12_forgets_2
  refine qr_iload_n o (q_dm dm_X12_forgets 2 rfl) rfl ?_
  refine qr_bipush o (q_dm dm_X12_forgets 3 rfl) bi_12 ?_
  refine qr_icmp_ge (tgt := 127) o (q_dm dm_X12_forgets 4 rfl) (by decide) ?_ ?_
  · exact qr_vret o rfl (q_dm dm_X12_forgets 69 rfl)
  · refine qr_iload_n o (q_dm dm_X12_forgets 5 rfl) rfl ?_
    refine qr_iload_n o (q_dm dm_X12_forgets 6 rfl) rfl ?_
    refine qr_calls_i (As := [.inl a1, .inl a3]) (S := []) o (a_X12_at g k.2.1 n j r hj hr a1 a3 M) (Nat.le_of_ble_eq_true rfl) zs_X12_at rfl ml_X12_282 (Nat.le_of_ble_eq_true rfl) (q_dm dm_X12_forgets 7 rfl) (fun r1 m2 => ?_)
    refine qs_istore (L' := [some (.inr (some 77)), some (.inl a1), some (.inl a2), some (.inl a3), some (.inl r1), none]) o (q_dm dm_X12_forgets 8 rfl) (Nat.le_of_ble_eq_true rfl) rfl ?_
    refine qr_aload_n o (q_dm dm_X12_forgets 9 rfl) rfl ?_
    refine qr_iload_n o (q_dm dm_X12_forgets 10 rfl) rfl ?_
    refine qr_callv_i (As := [.inl a3]) (S := []) o (a_X12_isKind g k.2.1 n j r hj hr a3 m2) (Nat.le_of_ble_eq_true rfl) zv_X12_isKind rfl cf_X12 (sh77 j r) ml_X12_157 (Nat.le_of_ble_eq_true rfl) (q_dm dm_X12_forgets 11 rfl) (fun r3 m4 => ?_)
    refine qr_if_eq (tgt := 121) o (q_dm dm_X12_forgets 12 rfl) (by decide) ?_ ?_
    · refine qs_iincl2 (L' := fun x5 => [some (.inr (some 77)), some (.inl a1), some (.inl a2), some (.inl x5), some (.inl r1), none]) o (q_dm dm_X12_forgets 67 rfl) rfl ic_1 (Nat.le_of_ble_eq_true rfl) (fun _ => rfl) (fun x5 => ?_)
      refine qr_goto (tgt := 2) o (q_dm dm_X12_forgets 68 rfl) (by decide) ?_
      exact qr_loc (q_leS (q_leS (q_leS (q_leS (q_leN (q_leN q_le0)))))) (hK2 a1 a2 x5 m4)
    · refine qr_aload_n o (q_dm dm_X12_forgets 13 rfl) rfl ?_
      refine qr_getr (kf := 0) o cf_X12 (sh77 j r) rfl (Nat.le_of_ble_eq_true rfl) fl_X12_7 (q_dm dm_X12_forgets 14 rfl) ?_
      refine qr_iconst o (q_dm dm_X12_forgets 15 rfl) ic_0 ?_
      refine qr_iload o (q_dm dm_X12_forgets 16 rfl) rfl ?_
      refine qr_iadd o (q_dm dm_X12_forgets 17 rfl) ?_
      refine qr_iald o (sh78 j r) (q_dm dm_X12_forgets 18 rfl) ?_
      refine qr_if_eq (tgt := 121) o (q_dm dm_X12_forgets 19 rfl) (by decide) ?_ ?_
      · refine qs_iincl2 (L' := fun x6 => [some (.inr (some 77)), some (.inl a1), some (.inl a2), some (.inl x6), some (.inl r1), none]) o (q_dm dm_X12_forgets 67 rfl) rfl ic_1 (Nat.le_of_ble_eq_true rfl) (fun _ => rfl) (fun x6 => ?_)
        refine qr_goto (tgt := 2) o (q_dm dm_X12_forgets 68 rfl) (by decide) ?_
        exact qr_loc (q_leS (q_leS (q_leS (q_leS (q_leN (q_leN q_le0)))))) (hK2 a1 a2 x6 m4)
      · refine qr_aload_n o (q_dm dm_X12_forgets 20 rfl) rfl ?_
        refine qr_iload_n o (q_dm dm_X12_forgets 21 rfl) rfl ?_
        refine qr_iload_n o (q_dm dm_X12_forgets 22 rfl) rfl ?_
        refine qr_callv_i (As := [.inl a2, .inl a3]) (S := []) o (a_X12_isLike g k.2.1 n j r hj hr a2 a3 m4) (Nat.le_of_ble_eq_true rfl) zv_X12_isLike rfl cf_X12 (sh77 j r) ml_X12_279 (Nat.le_of_ble_eq_true rfl) (q_dm dm_X12_forgets 23 rfl) (fun r7 m8 => ?_)
        refine qr_if_ne (tgt := 47) o (q_dm dm_X12_forgets 24 rfl) (by decide) ?_ ?_
        · refine qr_aload_n o (q_dm dm_X12_forgets 26 rfl) rfl ?_
          refine qr_iload_n o (q_dm dm_X12_forgets 27 rfl) rfl ?_
          refine qr_iload_n o (q_dm dm_X12_forgets 28 rfl) rfl ?_
          refine qr_bipush o (q_dm dm_X12_forgets 29 rfl) bi_8 ?_
          refine qr_callv_v (As := [.inl a1, .inl a3, .inl (8 : Int32)]) (S := []) o (a_X12_feels g k.2.1 n j r hj hr a1 a3 (8 : Int32) m8) (Nat.le_of_ble_eq_true rfl) zv_X12_feels rfl cf_X12 (sh77 j r) ml_X12_288 (Nat.le_of_ble_eq_true rfl) (q_dm dm_X12_forgets 30 rfl) (fun _ m9 => ?_)
          refine qr_aload_n o (q_dm dm_X12_forgets 31 rfl) rfl ?_
          refine qr_bipush o (q_dm dm_X12_forgets 32 rfl) bi_102 ?_
          refine qr_sipush o (q_dm dm_X12_forgets 33 rfl) si_999 ?_
          refine qr_iconst o (q_dm dm_X12_forgets 34 rfl) ic_0 ?_
          refine qr_callv_i (As := [.inl (102 : Int32), .inl (999 : Int32), .inl (0 : Int32)]) (S := []) o (a_X12_byLaw g k.2.1 n j r hj hr (102 : Int32) (999 : Int32) (0 : Int32) m9) (Nat.le_of_ble_eq_true rfl) zv_X12_byLaw rfl cf_X12 (sh77 j r) ml_X12_292 (Nat.le_of_ble_eq_true rfl) (q_dm dm_X12_forgets 35 rfl) (fun r10 m11 => ?_)
          refine qs_istore (L' := [some (.inr (some 77)), some (.inl a1), some (.inl a2), some (.inl a3), some (.inl r1), some (.inl r10)]) o (q_dm dm_X12_forgets 36 rfl) (Nat.le_of_ble_eq_true rfl) rfl ?_
          refine qr_iload o (q_dm dm_X12_forgets 37 rfl) rfl ?_
          refine qr_if_eq (tgt := 121) o (q_dm dm_X12_forgets 38 rfl) (by decide) ?_ ?_
          · refine qs_iincl2 (L' := fun x12 => [some (.inr (some 77)), some (.inl a1), some (.inl a2), some (.inl x12), some (.inl r1), some (.inl r10)]) o (q_dm dm_X12_forgets 67 rfl) rfl ic_1 (Nat.le_of_ble_eq_true rfl) (fun _ => rfl) (fun x12 => ?_)
            refine qr_goto (tgt := 2) o (q_dm dm_X12_forgets 68 rfl) (by decide) ?_
            exact qr_loc (q_leS (q_leS (q_leS (q_leS (q_leN (q_leN q_le0)))))) (hK2 a1 a2 x12 m11)
          · refine qr_aload_n o (q_dm dm_X12_forgets 39 rfl) rfl ?_
            refine qr_getr (kf := 0) o cf_X12 (sh77 j r) rfl (Nat.le_of_ble_eq_true rfl) fl_X12_7 (q_dm dm_X12_forgets 40 rfl) ?_
            refine qr_sipush o (q_dm dm_X12_forgets 41 rfl) si_313 ?_
            refine qr_iald0 (c := 313) o (sh78 j r) (by decide) (by decide) (q_dm dm_X12_forgets 42 rfl) ?_
            refine qr_aload_n o (q_dm dm_X12_forgets 43 rfl) rfl ?_
            refine qr_getr (kf := 0) o cf_X12 (sh77 j r) rfl (Nat.le_of_ble_eq_true rfl) fl_X12_7 (q_dm dm_X12_forgets 44 rfl) ?_
            refine qr_bipush o (q_dm dm_X12_forgets 45 rfl) bi_96 ?_
            refine qr_iload o (q_dm dm_X12_forgets 46 rfl) rfl ?_
            refine qr_iadd o (q_dm dm_X12_forgets 47 rfl) ?_
            refine qr_iald o (sh78 j r) (q_dm dm_X12_forgets 48 rfl) ?_
            refine qr_isub o (q_dm dm_X12_forgets 49 rfl) ?_
            refine qr_iload o (q_dm dm_X12_forgets 50 rfl) rfl ?_
            refine qr_icmp_ge (tgt := 99) o (q_dm dm_X12_forgets 51 rfl) (by decide) ?_ ?_
            · refine qr_aload_n o (q_dm dm_X12_forgets 53 rfl) rfl ?_
              refine qr_getr (kf := 0) o cf_X12 (sh77 j r) rfl (Nat.le_of_ble_eq_true rfl) fl_X12_7 (q_dm dm_X12_forgets 54 rfl) ?_
              refine qr_iconst o (q_dm dm_X12_forgets 55 rfl) ic_0 ?_
              refine qr_iload o (q_dm dm_X12_forgets 56 rfl) rfl ?_
              refine qr_iadd o (q_dm dm_X12_forgets 57 rfl) ?_
              refine qr_iconst o (q_dm dm_X12_forgets 58 rfl) ic_0 ?_
              refine qr_iast o (sh78 j r) (q_dm dm_X12_forgets 59 rfl) ?_
              refine qr_letm (fun m13 => ?_)
              refine qr_aload_n o (q_dm dm_X12_forgets 60 rfl) rfl ?_
              refine qr_getr (kf := 0) o cf_X12 (sh77 j r) rfl (Nat.le_of_ble_eq_true rfl) fl_X12_7 (q_dm dm_X12_forgets 61 rfl) ?_
              refine qr_bipush o (q_dm dm_X12_forgets 62 rfl) bi_96 ?_
              refine qr_iload o (q_dm dm_X12_forgets 63 rfl) rfl ?_
              refine qr_iadd o (q_dm dm_X12_forgets 64 rfl) ?_
              refine qr_bipush o (q_dm dm_X12_forgets 65 rfl) bi_m2 ?_
              refine qr_iast o (sh78 j r) (q_dm dm_X12_forgets 66 rfl) ?_
              refine qr_letm (fun m14 => ?_)
              refine qs_iincl2 (L' := fun x15 => [some (.inr (some 77)), some (.inl a1), some (.inl a2), some (.inl x15), some (.inl r1), some (.inl r10)]) o (q_dm dm_X12_forgets 67 rfl) rfl ic_1 (Nat.le_of_ble_eq_true rfl) (fun _ => rfl) (fun x15 => ?_)
              refine qr_goto (tgt := 2) o (q_dm dm_X12_forgets 68 rfl) (by decide) ?_
              exact qr_loc (q_leS (q_leS (q_leS (q_leS (q_leN (q_leN q_le0)))))) (hK2 a1 a2 x15 m14)
            · refine qr_goto (tgt := 121) o (q_dm dm_X12_forgets 52 rfl) (by decide) ?_
              refine qs_iincl2 (L' := fun x16 => [some (.inr (some 77)), some (.inl a1), some (.inl a2), some (.inl x16), some (.inl r1), some (.inl r10)]) o (q_dm dm_X12_forgets 67 rfl) rfl ic_1 (Nat.le_of_ble_eq_true rfl) (fun _ => rfl) (fun x16 => ?_)
              refine qr_goto (tgt := 2) o (q_dm dm_X12_forgets 68 rfl) (by decide) ?_
              exact qr_loc (q_leS (q_leS (q_leS (q_leS (q_leN (q_leN q_le0)))))) (hK2 a1 a2 x16 m11)
        · refine qr_goto (tgt := 121) o (q_dm dm_X12_forgets 25 rfl) (by decide) ?_
          refine qs_iincl2 (L' := fun x17 => [some (.inr (some 77)), some (.inl a1), some (.inl a2), some (.inl x17), some (.inl r1), none]) o (q_dm dm_X12_forgets 67 rfl) rfl ic_1 (Nat.le_of_ble_eq_true rfl) (fun _ => rfl) (fun x17 => ?_)
          refine qr_goto (tgt := 2) o (q_dm dm_X12_forgets 68 rfl) (by decide) ?_
          exact qr_loc (q_leS (q_leS (q_leS (q_leS (q_leN (q_leN q_le0)))))) (hK2 a1 a2 x17 m8)

def f_X12_forgets_2 (n : Nat) : Nat → Int32 → Int32 → Int32 → qM → qR
  | 0, _, _, _, _ => none
  | m + 1, a1, a2, a3, M => b_X12_forgets_2 n (f_X12_forgets_2 n m) a1 a2 a3 M
theorem w_X12_forgets_2 {g : qG} {k : qK} (n : Nat) (j r : Nat) (hj : q_isLaw j) (hr : q_isLaw r) (o : qOk g 3 zX12_forgets k) : ∀ (m : Nat) (a1 a2 a3 : Int32) (M : qM), qAE g k zX12_forgets (qL j r) 2 [some (.inr (some 77)), some (.inl a1), some (.inl a2), some (.inl a3), none, none] [] (qL j r, M) (f_X12_forgets_2 n m a1 a2 a3 M) := by
  intro m
  induction m with
  | zero =>
    intro a1 a2 a3 M
    exact qr_none
  | succ m ih =>
    intro a1 a2 a3 M
    exact wb_X12_forgets_2 n j r hj hr o (f_X12_forgets_2 n m) ih a1 a2 a3 M
def f_X12_forgets (n : Nat) (a1 a2 : Int32) (M : qM) : qR :=
  f_X12_forgets_2 n n a1 a2 (0 : Int32) M
set_option maxRecDepth 4000 in
theorem w_X12_forgets {g : qG} {k : qK} (n : Nat) (j r : Nat) (hj : q_isLaw j) (hr : q_isLaw r) (o : qOk g 3 zX12_forgets k) (a1 a2 : Int32) (M : qM) : qAE g k zX12_forgets (qL j r) 0 [some (.inr (some 77)), some (.inl a1), some (.inl a2), none, none, none] [] (qL j r, M) (f_X12_forgets n a1 a2 M) := by
  unfold f_X12_forgets
  refine qr_iconst o (q_dm dm_X12_forgets 0 rfl) ic_0 ?_
  refine qs_istore_n (L' := [some (.inr (some 77)), some (.inl a1), some (.inl a2), some (.inl (0 : Int32)), none, none]) o (q_dm dm_X12_forgets 1 rfl) (Nat.le_of_ble_eq_true rfl) rfl ?_
  exact qr_loc (q_leS (q_leS (q_leS (q_leS (q_leN (q_leN q_le0)))))) (w_X12_forgets_2 n j r hj hr o n a1 a2 (0 : Int32) M)

theorem a_X12_forgets (g : qG) (l : Launch) (n : Nat) (j r : Nat) (hj : q_isLaw j) (hr : q_isLaw r) (a1 a2 : Int32) (M : qM) : qAM g l 3 zX12_forgets (qL j r) [.inr (some 77), .inl a1, .inl a2] (qL j r, M) (f_X12_forgets n a1 a2 M) :=
  qAM.of zv_X12_forgets.1 (by show 3 ≤ 6; decide) (fun k hk o => w_X12_forgets n j r hj hr o a1 a2 M)
def tb_X12_hasNeeds : List (Nat × Instr × Nat) := [(0, (.iconst 0, 1)), (1, (.istore_n 3, 1)), (2, (.iload_n 3, 1)), (3, (.bipush 12, 2)), (5, (.if_icmp .ge 41, 3)), (8, (.aload_n 0, 1)), (9, (.getfield 25, 3)), (12, (.iload_n 2, 1)), (13, (.iaload, 1)), (14, (.iload_n 3, 1)), (15, (.invokestatic 149, 3)), (18, (.ifCond .eq 22, 3)), (21, (.aload_n 0, 1)), (22, (.getfield 7, 3)), (25, (.sipush 192, 3)), (28, (.iload_n 1, 1)), (29, (.iload_n 3, 1)), (30, (.invokestatic 282, 3)), (33, (.iadd, 1)), (34, (.iaload, 1)), (35, (.ifCond .ne 5, 3)), (38, (.iconst 0, 1)), (39, (.ireturn, 1)), (40, (.iinc 3 1, 3)), (43, (.goto (-41), 3)), (46, (.iconst 1, 1)), (47, (.ireturn, 1))]
theorem dm_X12_hasNeeds : ∀ q ∈ tb_X12_hasNeeds, decode zX12_hasNeeds.2.1 q.1 = .ok q.2 := by decide +kernel
def b_X12_hasNeeds_2 (n : Nat) (K2 : Int32 → Int32 → Int32 → qM → qR) (a1 a2 a3 : Int32) (M : qM) : qR :=
  (if (12 : Int32) ≤ a3 then some ((1 : Int32), M) else qg a2 13 (qc (f_X12_has0 n (M 83 a2.toNatClampNeg) a3 M) (fun r1 m2 => (if r1 = (0 : Int32) then ql (a3 + (1 : Int32)) (fun x3 => K2 a1 a2 x3 m2) else qc (f_X12_at n a1 a3 m2) (fun r4 m5 => qg ((192 : Int32) + r4) 954 ((if (m5 78 ((192 : Int32) + r4).toNatClampNeg) = (0 : Int32) then some ((0 : Int32), m5) else ql (a3 + (1 : Int32)) (fun x6 => K2 a1 a2 x6 m5))))))))
set_option maxRecDepth 4000 in
theorem wb_X12_hasNeeds_2 {g : qG} {k : qK} (n : Nat) (j r : Nat) (hj : q_isLaw j) (hr : q_isLaw r) (o : qOk g 1 zX12_hasNeeds k) (K2 : Int32 → Int32 → Int32 → qM → qR) (hK2 : ∀ (a1 a2 a3 : Int32) (M : qM), qAE g k zX12_hasNeeds (qL j r) 2 [some (.inr (some 77)), some (.inl a1), some (.inl a2), some (.inl a3)] [] (qL j r, M) (K2 a1 a2 a3 M)) (a1 a2 a3 : Int32) (M : qM) : qAE g k zX12_hasNeeds (qL j r) 2 [some (.inr (some 77)), some (.inl a1), some (.inl a2), some (.inl a3)] [] (qL j r, M) (b_X12_hasNeeds_2 n K2 a1 a2 a3 M) := by
  unfold b_X12_hasNeeds_2
  refine qr_iload_n o (q_dm dm_X12_hasNeeds 2 rfl) rfl ?_
  refine qr_bipush o (q_dm dm_X12_hasNeeds 3 rfl) bi_12 ?_
  refine qr_icmp_ge (tgt := 46) o (q_dm dm_X12_hasNeeds 4 rfl) (by decide) ?_ ?_
  · refine qr_iconst o (q_dm dm_X12_hasNeeds 25 rfl) ic_1 ?_
    exact qr_iret o rfl (by decide) (q_dm dm_X12_hasNeeds 26 rfl)
  · refine qr_aload_n o (q_dm dm_X12_hasNeeds 5 rfl) rfl ?_
    refine qr_getr (kf := 5) o cf_X12 (sh77 j r) rfl (Nat.le_of_ble_eq_true rfl) fl_X12_25 (q_dm dm_X12_hasNeeds 6 rfl) ?_
    refine qr_iload_n o (q_dm dm_X12_hasNeeds 7 rfl) rfl ?_
    refine qr_iald o (sh83 j r) (q_dm dm_X12_hasNeeds 8 rfl) ?_
    refine qr_iload_n o (q_dm dm_X12_hasNeeds 9 rfl) rfl ?_
    refine qr_calls_i (As := [.inl (M 83 a2.toNatClampNeg), .inl a3]) (S := []) o (a_X12_has0 g k.2.1 n j r hj hr (M 83 a2.toNatClampNeg) a3 M) (Nat.le_of_ble_eq_true rfl) zs_X12_has0 rfl ml_X12_149 (Nat.le_of_ble_eq_true rfl) (q_dm dm_X12_hasNeeds 10 rfl) (fun r1 m2 => ?_)
    refine qr_if_eq (tgt := 40) o (q_dm dm_X12_hasNeeds 11 rfl) (by decide) ?_ ?_
    · refine qs_iincl2 (L' := fun x3 => [some (.inr (some 77)), some (.inl a1), some (.inl a2), some (.inl x3)]) o (q_dm dm_X12_hasNeeds 23 rfl) rfl ic_1 (Nat.le_of_ble_eq_true rfl) (fun _ => rfl) (fun x3 => ?_)
      refine qr_goto (tgt := 2) o (q_dm dm_X12_hasNeeds 24 rfl) (by decide) ?_
      exact qr_loc (q_leS (q_leS (q_leS (q_leS q_le0)))) (hK2 a1 a2 x3 m2)
    · refine qr_aload_n o (q_dm dm_X12_hasNeeds 12 rfl) rfl ?_
      refine qr_getr (kf := 0) o cf_X12 (sh77 j r) rfl (Nat.le_of_ble_eq_true rfl) fl_X12_7 (q_dm dm_X12_hasNeeds 13 rfl) ?_
      refine qr_sipush o (q_dm dm_X12_hasNeeds 14 rfl) si_192 ?_
      refine qr_iload_n o (q_dm dm_X12_hasNeeds 15 rfl) rfl ?_
      refine qr_iload_n o (q_dm dm_X12_hasNeeds 16 rfl) rfl ?_
      refine qr_calls_i (As := [.inl a1, .inl a3]) (S := [.inl (192 : Int32), .inr (some 78)]) o (a_X12_at g k.2.1 n j r hj hr a1 a3 m2) (Nat.le_of_ble_eq_true rfl) zs_X12_at rfl ml_X12_282 (Nat.le_of_ble_eq_true rfl) (q_dm dm_X12_hasNeeds 17 rfl) (fun r4 m5 => ?_)
      refine qr_iadd o (q_dm dm_X12_hasNeeds 18 rfl) ?_
      refine qr_iald o (sh78 j r) (q_dm dm_X12_hasNeeds 19 rfl) ?_
      refine qr_if_ne (tgt := 40) o (q_dm dm_X12_hasNeeds 20 rfl) (by decide) ?_ ?_
      · refine qs_iincl2 (L' := fun x6 => [some (.inr (some 77)), some (.inl a1), some (.inl a2), some (.inl x6)]) o (q_dm dm_X12_hasNeeds 23 rfl) rfl ic_1 (Nat.le_of_ble_eq_true rfl) (fun _ => rfl) (fun x6 => ?_)
        refine qr_goto (tgt := 2) o (q_dm dm_X12_hasNeeds 24 rfl) (by decide) ?_
        exact qr_loc (q_leS (q_leS (q_leS (q_leS q_le0)))) (hK2 a1 a2 x6 m5)
      · refine qr_iconst o (q_dm dm_X12_hasNeeds 21 rfl) ic_0 ?_
        exact qr_iret o rfl (by decide) (q_dm dm_X12_hasNeeds 22 rfl)

def f_X12_hasNeeds_2 (n : Nat) : Nat → Int32 → Int32 → Int32 → qM → qR
  | 0, _, _, _, _ => none
  | m + 1, a1, a2, a3, M => b_X12_hasNeeds_2 n (f_X12_hasNeeds_2 n m) a1 a2 a3 M
theorem w_X12_hasNeeds_2 {g : qG} {k : qK} (n : Nat) (j r : Nat) (hj : q_isLaw j) (hr : q_isLaw r) (o : qOk g 1 zX12_hasNeeds k) : ∀ (m : Nat) (a1 a2 a3 : Int32) (M : qM), qAE g k zX12_hasNeeds (qL j r) 2 [some (.inr (some 77)), some (.inl a1), some (.inl a2), some (.inl a3)] [] (qL j r, M) (f_X12_hasNeeds_2 n m a1 a2 a3 M) := by
  intro m
  induction m with
  | zero =>
    intro a1 a2 a3 M
    exact qr_none
  | succ m ih =>
    intro a1 a2 a3 M
    exact wb_X12_hasNeeds_2 n j r hj hr o (f_X12_hasNeeds_2 n m) ih a1 a2 a3 M
def f_X12_hasNeeds (n : Nat) (a1 a2 : Int32) (M : qM) : qR :=
  f_X12_hasNeeds_2 n n a1 a2 (0 : Int32) M
set_option maxRecDepth 4000 in
theorem w_X12_hasNeeds {g : qG} {k : qK} (n : Nat) (j r : Nat) (hj : q_isLaw j) (hr : q_isLaw r) (o : qOk g 1 zX12_hasNeeds k) (a1 a2 : Int32) (M : qM) : qAE g k zX12_hasNeeds (qL j r) 0 [some (.inr (some 77)), some (.inl a1), some (.inl a2), none] [] (qL j r, M) (f_X12_hasNeeds n a1 a2 M) := by
  unfold f_X12_hasNeeds
  refine qr_iconst o (q_dm dm_X12_hasNeeds 0 rfl) ic_0 ?_
  refine qs_istore_n (L' := [some (.inr (some 77)), some (.inl a1), some (.inl a2), some (.inl (0 : Int32))]) o (q_dm dm_X12_hasNeeds 1 rfl) (Nat.le_of_ble_eq_true rfl) rfl ?_
  exact qr_loc (q_leS (q_leS (q_leS (q_leS q_le0)))) (w_X12_hasNeeds_2 n j r hj hr o n a1 a2 (0 : Int32) M)

theorem a_X12_hasNeeds (g : qG) (l : Launch) (n : Nat) (j r : Nat) (hj : q_isLaw j) (hr : q_isLaw r) (a1 a2 : Int32) (M : qM) : qAM g l 1 zX12_hasNeeds (qL j r) [.inr (some 77), .inl a1, .inl a2] (qL j r, M) (f_X12_hasNeeds n a1 a2 M) :=
  qAM.of zv_X12_hasNeeds.1 (by show 3 ≤ 4; decide) (fun k hk o => w_X12_hasNeeds n j r hj hr o a1 a2 M)
def tb_X12_voidFor : List (Nat × Instr × Nat) := [(0, (.aload_n 0, 1)), (1, (.iload_n 1, 1)), (2, (.iload_n 2, 1)), (3, (.iload_n 3, 1)), (4, (.invokevirtual 288, 3)), (7, (.aload_n 0, 1)), (8, (.bipush 118, 2)), (10, (.bipush 99, 2)), (12, (.iconst 1, 1)), (13, (.invokevirtual 292, 3)), (16, (.ireturn, 1))]
theorem dm_X12_voidFor : ∀ q ∈ tb_X12_voidFor, decode zX12_voidFor.2.1 q.1 = .ok q.2 := by decide +kernel
def f_X12_voidFor (n : Nat) (a1 a2 a3 : Int32) (M : qM) : qR :=
  qc (f_X12_feels n a1 a2 a3 M) (fun _ m1 => qc (f_X12_byLaw n (118 : Int32) (99 : Int32) (1 : Int32) m1) (fun r2 m3 => some (r2, m3)))
set_option maxRecDepth 4000 in
theorem w_X12_voidFor {g : qG} {k : qK} (n : Nat) (j r : Nat) (hj : q_isLaw j) (hr : q_isLaw r) (o : qOk g 3 zX12_voidFor k) (a1 a2 a3 : Int32) (M : qM) : qAE g k zX12_voidFor (qL j r) 0 [some (.inr (some 77)), some (.inl a1), some (.inl a2), some (.inl a3)] [] (qL j r, M) (f_X12_voidFor n a1 a2 a3 M) := by
  unfold f_X12_voidFor
  refine qr_aload_n o (q_dm dm_X12_voidFor 0 rfl) rfl ?_
  refine qr_iload_n o (q_dm dm_X12_voidFor 1 rfl) rfl ?_
  refine qr_iload_n o (q_dm dm_X12_voidFor 2 rfl) rfl ?_
  refine qr_iload_n o (q_dm dm_X12_voidFor 3 rfl) rfl ?_
  refine qr_callv_v (As := [.inl a1, .inl a2, .inl a3]) (S := []) o (a_X12_feels g k.2.1 n j r hj hr a1 a2 a3 M) (Nat.le_of_ble_eq_true rfl) zv_X12_feels rfl cf_X12 (sh77 j r) ml_X12_288 (Nat.le_of_ble_eq_true rfl) (q_dm dm_X12_voidFor 4 rfl) (fun _ m1 => ?_)
  refine qr_aload_n o (q_dm dm_X12_voidFor 5 rfl) rfl ?_
  refine qr_bipush o (q_dm dm_X12_voidFor 6 rfl) bi_118 ?_
  refine qr_bipush o (q_dm dm_X12_voidFor 7 rfl) bi_99 ?_
  refine qr_iconst o (q_dm dm_X12_voidFor 8 rfl) ic_1 ?_
  refine qr_callv_i (As := [.inl (118 : Int32), .inl (99 : Int32), .inl (1 : Int32)]) (S := []) o (a_X12_byLaw g k.2.1 n j r hj hr (118 : Int32) (99 : Int32) (1 : Int32) m1) (Nat.le_of_ble_eq_true rfl) zv_X12_byLaw rfl cf_X12 (sh77 j r) ml_X12_292 (Nat.le_of_ble_eq_true rfl) (q_dm dm_X12_voidFor 9 rfl) (fun r2 m3 => ?_)
  exact qr_iret o rfl rfl (q_dm dm_X12_voidFor 10 rfl)

theorem a_X12_voidFor (g : qG) (l : Launch) (n : Nat) (j r : Nat) (hj : q_isLaw j) (hr : q_isLaw r) (a1 a2 a3 : Int32) (M : qM) : qAM g l 3 zX12_voidFor (qL j r) [.inr (some 77), .inl a1, .inl a2, .inl a3] (qL j r, M) (f_X12_voidFor n a1 a2 a3 M) :=
  qAM.of zv_X12_voidFor.1 (by show 4 ≤ 4; decide) (fun k hk o => w_X12_voidFor n j r hj hr o a1 a2 a3 M)
def tb_X12_triesNow : List (Nat × Instr × Nat) := [(0, (.aload_n 0, 1)), (1, (.iload_n 1, 1)), (2, (.iload_n 2, 1)), (3, (.invokevirtual 295, 3)), (6, (.aload_n 0, 1)), (7, (.iload_n 1, 1)), (8, (.iload_n 2, 1)), (9, (.invokevirtual 298, 3)), (12, (.aload_n 0, 1)), (13, (.iload_n 1, 1)), (14, (.iload_n 2, 1)), (15, (.iload_n 3, 1)), (16, (.invokevirtual 301, 3)), (19, (.if_icmp .lt 7, 3)), (22, (.iconst 1, 1)), (23, (.goto 4, 3)), (26, (.iconst 0, 1)), (27, (.istore 4, 2)), (29, (.aload_n 0, 1)), (30, (.iload_n 1, 1)), (31, (.iload_n 2, 1)), (32, (.invokevirtual 304, 3)), (35, (.istore 5, 2)), (37, (.iload_n 1, 1)), (38, (.iload_n 2, 1)), (39, (.invokestatic 282, 3)), (42, (.istore 6, 2)), (44, (.iload 4, 2)), (46, (.ifCond .eq 38, 3)), (49, (.iload 5, 2)), (51, (.ifCond .eq 33, 3)), (54, (.aload_n 0, 1)), (55, (.getfield 7, 3)), (58, (.sipush 192, 3)), (61, (.iload 6, 2)), (63, (.iadd, 1)), (64, (.sipush 999, 3)), (67, (.aload_n 0, 1)), (68, (.getfield 7, 3)), (71, (.sipush 192, 3)), (74, (.iload 6, 2)), (76, (.iadd, 1)), (77, (.iaload, 1)), (78, (.iconst 1, 1)), (79, (.iadd, 1)), (80, (.invokestatic 307, 3)), (83, (.iastore, 1)), (84, (.aload_n 0, 1)), (85, (.getfield 7, 3)), (88, (.iconst 0, 1)), (89, (.iload 6, 2)), (91, (.iadd, 1)), (92, (.sipush 999, 3)), (95, (.aload_n 0, 1)), (96, (.getfield 7, 3)), (99, (.iconst 0, 1)), (100, (.iload 6, 2)), (102, (.iadd, 1)), (103, (.iaload, 1)), (104, (.iconst 1, 1)), (105, (.iadd, 1)), (106, (.invokestatic 307, 3)), (109, (.iastore, 1)), (110, (.aload_n 0, 1)), (111, (.getfield 7, 3)), (114, (.bipush 96, 2)), (116, (.iload 6, 2)), (118, (.iadd, 1)), (119, (.aload_n 0, 1)), (120, (.getfield 7, 3)), (123, (.sipush 313, 3)), (126, (.iaload, 1)), (127, (.iastore, 1)), (128, (.iload 4, 2)), (130, (.ifCond .eq 17, 3)), (133, (.iload 5, 2)), (135, (.ifCond .eq 7, 3)), (138, (.iconst 1, 1)), (139, (.goto 9, 3)), (142, (.bipush (-2), 2)), (144, (.goto 4, 3)), (147, (.iconst 0, 1)), (148, (.ireturn, 1))]
theorem dm_X12_triesNow : ∀ q ∈ tb_X12_triesNow, decode zX12_triesNow.2.1 q.1 = .ok q.2 := by decide +kernel
def f_X12_triesNow_84 (n : Nat) (a4 a5 a6 : Int32) (M : qM) : qR :=
  qg ((0 : Int32) + a6) 954 (qc (f_X12_min n (999 : Int32) ((M 78 ((0 : Int32) + a6).toNatClampNeg) + (1 : Int32)) M) (fun r1 m2 => qg ((0 : Int32) + a6) 954 (qlm (mu m2 78 ((0 : Int32) + a6).toNatClampNeg r1) (fun m3 => qg ((96 : Int32) + a6) 954 (qlm (mu m3 78 ((96 : Int32) + a6).toNatClampNeg (m3 78 313)) (fun m4 => (if a4 = (0 : Int32) then some ((0 : Int32), m4) else (if a5 = (0 : Int32) then some ((-2 : Int32), m4) else some ((1 : Int32), m4)))))))))
set_option maxRecDepth 4000 in
theorem w_X12_triesNow_84 {g : qG} {k : qK} (n : Nat) (j r : Nat) (hj : q_isLaw j) (hr : q_isLaw r) (o : qOk g 4 zX12_triesNow k) (a4 a5 a6 : Int32) (M : qM) : qAE g k zX12_triesNow (qL j r) 84 [some (.inr (some 77)), none, none, none, some (.inl a4), some (.inl a5), some (.inl a6)] [] (qL j r, M) (f_X12_triesNow_84 n a4 a5 a6 M) := by
  unfold f_X12_triesNow_84
  refine qr_aload_n o (q_dm dm_X12_triesNow 47 rfl) rfl ?_
  refine qr_getr (kf := 0) o cf_X12 (sh77 j r) rfl (Nat.le_of_ble_eq_true rfl) fl_X12_7 (q_dm dm_X12_triesNow 48 rfl) ?_
  refine qr_iconst o (q_dm dm_X12_triesNow 49 rfl) ic_0 ?_
  refine qr_iload o (q_dm dm_X12_triesNow 50 rfl) rfl ?_
  refine qr_iadd o (q_dm dm_X12_triesNow 51 rfl) ?_
  refine qr_sipush o (q_dm dm_X12_triesNow 52 rfl) si_999 ?_
  refine qr_aload_n o (q_dm dm_X12_triesNow 53 rfl) rfl ?_
  refine qr_getr (kf := 0) o cf_X12 (sh77 j r) rfl (Nat.le_of_ble_eq_true rfl) fl_X12_7 (q_dm dm_X12_triesNow 54 rfl) ?_
  refine qr_iconst o (q_dm dm_X12_triesNow 55 rfl) ic_0 ?_
  refine qr_iload o (q_dm dm_X12_triesNow 56 rfl) rfl ?_
  refine qr_iadd o (q_dm dm_X12_triesNow 57 rfl) ?_
  refine qr_iald o (sh78 j r) (q_dm dm_X12_triesNow 58 rfl) ?_
  refine qr_iconst o (q_dm dm_X12_triesNow 59 rfl) ic_1 ?_
  refine qr_iadd o (q_dm dm_X12_triesNow 60 rfl) ?_
  refine qr_calls_i (As := [.inl (999 : Int32), .inl ((M 78 ((0 : Int32) + a6).toNatClampNeg) + (1 : Int32))]) (S := [.inl ((0 : Int32) + a6), .inr (some 78)]) o (a_X12_min g k.2.1 n j r hj hr (999 : Int32) ((M 78 ((0 : Int32) + a6).toNatClampNeg) + (1 : Int32)) M) (Nat.le_of_ble_eq_true rfl) zs_X12_min rfl ml_X12_307 (Nat.le_of_ble_eq_true rfl) (q_dm dm_X12_triesNow 61 rfl) (fun r1 m2 => ?_)
  refine qr_iast o (sh78 j r) (q_dm dm_X12_triesNow 62 rfl) ?_
  refine qr_letm (fun m3 => ?_)
  refine qr_aload_n o (q_dm dm_X12_triesNow 63 rfl) rfl ?_
  refine qr_getr (kf := 0) o cf_X12 (sh77 j r) rfl (Nat.le_of_ble_eq_true rfl) fl_X12_7 (q_dm dm_X12_triesNow 64 rfl) ?_
  refine qr_bipush o (q_dm dm_X12_triesNow 65 rfl) bi_96 ?_
  refine qr_iload o (q_dm dm_X12_triesNow 66 rfl) rfl ?_
  refine qr_iadd o (q_dm dm_X12_triesNow 67 rfl) ?_
  refine qr_aload_n o (q_dm dm_X12_triesNow 68 rfl) rfl ?_
  refine qr_getr (kf := 0) o cf_X12 (sh77 j r) rfl (Nat.le_of_ble_eq_true rfl) fl_X12_7 (q_dm dm_X12_triesNow 69 rfl) ?_
  refine qr_sipush o (q_dm dm_X12_triesNow 70 rfl) si_313 ?_
  refine qr_iald0 (c := 313) o (sh78 j r) (by decide) (by decide) (q_dm dm_X12_triesNow 71 rfl) ?_
  refine qr_iast o (sh78 j r) (q_dm dm_X12_triesNow 72 rfl) ?_
  refine qr_letm (fun m4 => ?_)
  refine qr_iload o (q_dm dm_X12_triesNow 73 rfl) rfl ?_
  refine qr_if_eq (tgt := 147) o (q_dm dm_X12_triesNow 74 rfl) (by decide) ?_ ?_
  · refine qr_iconst o (q_dm dm_X12_triesNow 81 rfl) ic_0 ?_
    exact qr_iret o rfl rfl (q_dm dm_X12_triesNow 82 rfl)
  · refine qr_iload o (q_dm dm_X12_triesNow 75 rfl) rfl ?_
    refine qr_if_eq (tgt := 142) o (q_dm dm_X12_triesNow 76 rfl) (by decide) ?_ ?_
    · refine qr_bipush o (q_dm dm_X12_triesNow 79 rfl) bi_m2 ?_
      refine qr_goto (tgt := 148) o (q_dm dm_X12_triesNow 80 rfl) (by decide) ?_
      exact qr_iret o rfl rfl (q_dm dm_X12_triesNow 82 rfl)
    · refine qr_iconst o (q_dm dm_X12_triesNow 77 rfl) ic_1 ?_
      refine qr_goto (tgt := 148) o (q_dm dm_X12_triesNow 78 rfl) (by decide) ?_
      exact qr_iret o rfl rfl (q_dm dm_X12_triesNow 82 rfl)

def f_X12_triesNow_27 (n : Nat) (a1 a2 s0 : Int32) (M : qM) : qR :=
  qc (f_X12_hasNeeds n a1 a2 M) (fun r1 m2 => qc (f_X12_at n a1 a2 m2) (fun r3 m4 => (if s0 = (0 : Int32) then f_X12_triesNow_84 n s0 r1 r3 m4 else (if r1 = (0 : Int32) then f_X12_triesNow_84 n s0 r1 r3 m4 else qg ((192 : Int32) + r3) 954 (qc (f_X12_min n (999 : Int32) ((m4 78 ((192 : Int32) + r3).toNatClampNeg) + (1 : Int32)) m4) (fun r5 m6 => qg ((192 : Int32) + r3) 954 (qlm (mu m6 78 ((192 : Int32) + r3).toNatClampNeg r5) (fun m7 => f_X12_triesNow_84 n s0 r1 r3 m7))))))))
set_option maxRecDepth 4000 in
theorem w_X12_triesNow_27 {g : qG} {k : qK} (n : Nat) (j r : Nat) (hj : q_isLaw j) (hr : q_isLaw r) (o : qOk g 4 zX12_triesNow k) (a1 a2 s0 : Int32) (M : qM) : qAE g k zX12_triesNow (qL j r) 27 [some (.inr (some 77)), some (.inl a1), some (.inl a2), none, none, none, none] [.inl s0] (qL j r, M) (f_X12_triesNow_27 n a1 a2 s0 M) := by
  unfold f_X12_triesNow_27
  refine qs_istore (L' := [some (.inr (some 77)), some (.inl a1), some (.inl a2), none, some (.inl s0), none, none]) o (q_dm dm_X12_triesNow 17 rfl) (Nat.le_of_ble_eq_true rfl) rfl ?_
  refine qr_aload_n o (q_dm dm_X12_triesNow 18 rfl) rfl ?_
  refine qr_iload_n o (q_dm dm_X12_triesNow 19 rfl) rfl ?_
  refine qr_iload_n o (q_dm dm_X12_triesNow 20 rfl) rfl ?_
  refine qr_callv_i (As := [.inl a1, .inl a2]) (S := []) o (a_X12_hasNeeds g k.2.1 n j r hj hr a1 a2 M) (Nat.le_of_ble_eq_true rfl) zv_X12_hasNeeds rfl cf_X12 (sh77 j r) ml_X12_304 (Nat.le_of_ble_eq_true rfl) (q_dm dm_X12_triesNow 21 rfl) (fun r1 m2 => ?_)
  refine qs_istore (L' := [some (.inr (some 77)), some (.inl a1), some (.inl a2), none, some (.inl s0), some (.inl r1), none]) o (q_dm dm_X12_triesNow 22 rfl) (Nat.le_of_ble_eq_true rfl) rfl ?_
  refine qr_iload_n o (q_dm dm_X12_triesNow 23 rfl) rfl ?_
  refine qr_iload_n o (q_dm dm_X12_triesNow 24 rfl) rfl ?_
  refine qr_calls_i (As := [.inl a1, .inl a2]) (S := []) o (a_X12_at g k.2.1 n j r hj hr a1 a2 m2) (Nat.le_of_ble_eq_true rfl) zs_X12_at rfl ml_X12_282 (Nat.le_of_ble_eq_true rfl) (q_dm dm_X12_triesNow 25 rfl) (fun r3 m4 => ?_)
  refine qs_istore (L' := [some (.inr (some 77)), some (.inl a1), some (.inl a2), none, some (.inl s0), some (.inl r1), some (.inl r3)]) o (q_dm dm_X12_triesNow 26 rfl) (Nat.le_of_ble_eq_true rfl) rfl ?_
  refine qr_iload o (q_dm dm_X12_triesNow 27 rfl) rfl ?_
  refine qr_if_eq (tgt := 84) o (q_dm dm_X12_triesNow 28 rfl) (by decide) ?_ ?_
  · exact qr_loc (q_leS (q_leN (q_leN (q_leN (q_leS (q_leS (q_leS q_le0))))))) (w_X12_triesNow_84 n j r hj hr o s0 r1 r3 m4)
  · refine qr_iload o (q_dm dm_X12_triesNow 29 rfl) rfl ?_
    refine qr_if_eq (tgt := 84) o (q_dm dm_X12_triesNow 30 rfl) (by decide) ?_ ?_
    · exact qr_loc (q_leS (q_leN (q_leN (q_leN (q_leS (q_leS (q_leS q_le0))))))) (w_X12_triesNow_84 n j r hj hr o s0 r1 r3 m4)
    · refine qr_aload_n o (q_dm dm_X12_triesNow 31 rfl) rfl ?_
      refine qr_getr (kf := 0) o cf_X12 (sh77 j r) rfl (Nat.le_of_ble_eq_true rfl) fl_X12_7 (q_dm dm_X12_triesNow 32 rfl) ?_
      refine qr_sipush o (q_dm dm_X12_triesNow 33 rfl) si_192 ?_
      refine qr_iload o (q_dm dm_X12_triesNow 34 rfl) rfl ?_
      refine qr_iadd o (q_dm dm_X12_triesNow 35 rfl) ?_
      refine qr_sipush o (q_dm dm_X12_triesNow 36 rfl) si_999 ?_
      refine qr_aload_n o (q_dm dm_X12_triesNow 37 rfl) rfl ?_
      refine qr_getr (kf := 0) o cf_X12 (sh77 j r) rfl (Nat.le_of_ble_eq_true rfl) fl_X12_7 (q_dm dm_X12_triesNow 38 rfl) ?_
      refine qr_sipush o (q_dm dm_X12_triesNow 39 rfl) si_192 ?_
      refine qr_iload o (q_dm dm_X12_triesNow 40 rfl) rfl ?_
      refine qr_iadd o (q_dm dm_X12_triesNow 41 rfl) ?_
      refine qr_iald o (sh78 j r) (q_dm dm_X12_triesNow 42 rfl) ?_
      refine qr_iconst o (q_dm dm_X12_triesNow 43 rfl) ic_1 ?_
      refine qr_iadd o (q_dm dm_X12_triesNow 44 rfl) ?_
      refine qr_calls_i (As := [.inl (999 : Int32), .inl ((m4 78 ((192 : Int32) + r3).toNatClampNeg) + (1 : Int32))]) (S := [.inl ((192 : Int32) + r3), .inr (some 78)]) o (a_X12_min g k.2.1 n j r hj hr (999 : Int32) ((m4 78 ((192 : Int32) + r3).toNatClampNeg) + (1 : Int32)) m4) (Nat.le_of_ble_eq_true rfl) zs_X12_min rfl ml_X12_307 (Nat.le_of_ble_eq_true rfl) (q_dm dm_X12_triesNow 45 rfl) (fun r5 m6 => ?_)
      refine qr_iast o (sh78 j r) (q_dm dm_X12_triesNow 46 rfl) ?_
      refine qr_letm (fun m7 => ?_)
      exact qr_loc (q_leS (q_leN (q_leN (q_leN (q_leS (q_leS (q_leS q_le0))))))) (w_X12_triesNow_84 n j r hj hr o s0 r1 r3 m7)

def f_X12_triesNow (n : Nat) (a1 a2 a3 : Int32) (M : qM) : qR :=
  qc (f_X12_forgets n a1 a2 M) (fun _ m1 => qc (f_X12_oldOnes n a1 a2 m1) (fun r2 m3 => qc (f_X12_voidFor n a1 a2 a3 m3) (fun r4 m5 => (if r2 < r4 then f_X12_triesNow_27 n a1 a2 (0 : Int32) m5 else f_X12_triesNow_27 n a1 a2 (1 : Int32) m5))))
set_option maxRecDepth 4000 in
theorem w_X12_triesNow {g : qG} {k : qK} (n : Nat) (j r : Nat) (hj : q_isLaw j) (hr : q_isLaw r) (o : qOk g 4 zX12_triesNow k) (a1 a2 a3 : Int32) (M : qM) : qAE g k zX12_triesNow (qL j r) 0 [some (.inr (some 77)), some (.inl a1), some (.inl a2), some (.inl a3), none, none, none] [] (qL j r, M) (f_X12_triesNow n a1 a2 a3 M) := by
  unfold f_X12_triesNow
  refine qr_aload_n o (q_dm dm_X12_triesNow 0 rfl) rfl ?_
  refine qr_iload_n o (q_dm dm_X12_triesNow 1 rfl) rfl ?_
  refine qr_iload_n o (q_dm dm_X12_triesNow 2 rfl) rfl ?_
  refine qr_callv_v (As := [.inl a1, .inl a2]) (S := []) o (a_X12_forgets g k.2.1 n j r hj hr a1 a2 M) (Nat.le_of_ble_eq_true rfl) zv_X12_forgets rfl cf_X12 (sh77 j r) ml_X12_295 (Nat.le_of_ble_eq_true rfl) (q_dm dm_X12_triesNow 3 rfl) (fun _ m1 => ?_)
  refine qr_aload_n o (q_dm dm_X12_triesNow 4 rfl) rfl ?_
  refine qr_iload_n o (q_dm dm_X12_triesNow 5 rfl) rfl ?_
  refine qr_iload_n o (q_dm dm_X12_triesNow 6 rfl) rfl ?_
  refine qr_callv_i (As := [.inl a1, .inl a2]) (S := []) o (a_X12_oldOnes g k.2.1 n j r hj hr a1 a2 m1) (Nat.le_of_ble_eq_true rfl) zv_X12_oldOnes rfl cf_X12 (sh77 j r) ml_X12_298 (Nat.le_of_ble_eq_true rfl) (q_dm dm_X12_triesNow 7 rfl) (fun r2 m3 => ?_)
  refine qr_aload_n o (q_dm dm_X12_triesNow 8 rfl) rfl ?_
  refine qr_iload_n o (q_dm dm_X12_triesNow 9 rfl) rfl ?_
  refine qr_iload_n o (q_dm dm_X12_triesNow 10 rfl) rfl ?_
  refine qr_iload_n o (q_dm dm_X12_triesNow 11 rfl) rfl ?_
  refine qr_callv_i (As := [.inl a1, .inl a2, .inl a3]) (S := [.inl r2]) o (a_X12_voidFor g k.2.1 n j r hj hr a1 a2 a3 m3) (Nat.le_of_ble_eq_true rfl) zv_X12_voidFor rfl cf_X12 (sh77 j r) ml_X12_301 (Nat.le_of_ble_eq_true rfl) (q_dm dm_X12_triesNow 12 rfl) (fun r4 m5 => ?_)
  refine qr_icmp_lt (tgt := 26) o (q_dm dm_X12_triesNow 13 rfl) (by decide) ?_ ?_
  · refine qr_iconst o (q_dm dm_X12_triesNow 16 rfl) ic_0 ?_
    exact qr_loc (q_leS (q_leS (q_leS (q_leN (q_leN (q_leN (q_leN q_le0))))))) (w_X12_triesNow_27 n j r hj hr o a1 a2 (0 : Int32) m5)
  · refine qr_iconst o (q_dm dm_X12_triesNow 14 rfl) ic_1 ?_
    refine qr_goto (tgt := 27) o (q_dm dm_X12_triesNow 15 rfl) (by decide) ?_
    exact qr_loc (q_leS (q_leS (q_leS (q_leN (q_leN (q_leN (q_leN q_le0))))))) (w_X12_triesNow_27 n j r hj hr o a1 a2 (1 : Int32) m5)

theorem a_X12_triesNow (g : qG) (l : Launch) (n : Nat) (j r : Nat) (hj : q_isLaw j) (hr : q_isLaw r) (a1 a2 a3 : Int32) (M : qM) : qAM g l 4 zX12_triesNow (qL j r) [.inr (some 77), .inl a1, .inl a2, .inl a3] (qL j r, M) (f_X12_triesNow n a1 a2 a3 M) :=
  qAM.of zv_X12_triesNow.1 (by show 4 ≤ 7; decide) (fun k hk o => w_X12_triesNow n j r hj hr o a1 a2 a3 M)
def tb_X12_dayOf : List (Nat × Instr × Nat) := [(0, (.bipush 12, 2)), (2, (.istore_n 2, 1)), (3, (.aload_n 0, 1)), (4, (.getfield 7, 3)), (7, (.sipush 304, 3)), (10, (.iload_n 1, 1)), (11, (.iadd, 1)), (12, (.iaload, 1)), (13, (.aload_n 0, 1)), (14, (.getfield 7, 3)), (17, (.sipush 296, 3)), (20, (.iload_n 1, 1)), (21, (.iadd, 1)), (22, (.iaload, 1)), (23, (.if_icmp .ge 157, 3)), (26, (.bipush 40, 2)), (28, (.iload_n 1, 1)), (29, (.imul, 1)), (30, (.aload_n 0, 1)), (31, (.getfield 7, 3)), (34, (.sipush 304, 3)), (37, (.iload_n 1, 1)), (38, (.iadd, 1)), (39, (.iaload, 1)), (40, (.iadd, 1)), (41, (.istore_n 3, 1)), (42, (.aload_n 0, 1)), (43, (.getfield 7, 3)), (46, (.sipush 314, 3)), (49, (.iload_n 3, 1)), (50, (.iadd, 1)), (51, (.iaload, 1)), (52, (.istore 4, 2)), (54, (.aload_n 0, 1)), (55, (.getfield 7, 3)), (58, (.sipush 634, 3)), (61, (.iload_n 3, 1)), (62, (.iadd, 1)), (63, (.iaload, 1)), (64, (.istore 5, 2)), (66, (.aload_n 0, 1)), (67, (.iload 4, 2)), (69, (.invokevirtual 157, 3)), (72, (.ifCond .eq 29, 3)), (75, (.iload 5, 2)), (77, (.iload_n 1, 1)), (78, (.if_icmp .eq 23, 3)), (81, (.iload 5, 2)), (83, (.bipush 8, 2)), (85, (.if_icmp .eq 12, 3)), (88, (.aload_n 0, 1)), (89, (.iload 5, 2)), (91, (.invokevirtual 310, 3)), (94, (.ifCond .eq 7, 3)), (97, (.iconst 1, 1)), (98, (.goto 4, 3)), (101, (.iconst 0, 1)), (102, (.istore 6, 2)), (104, (.iload 6, 2)), (106, (.ifCond .eq 15, 3)), (109, (.aload_n 0, 1)), (110, (.getfield 19, 3)), (113, (.iload 4, 2)), (115, (.iaload, 1)), (116, (.iload_n 2, 1)), (117, (.if_icmp .le 4, 3)), (120, (.return_, 1)), (121, (.aload_n 0, 1)), (122, (.getfield 7, 3)), (125, (.sipush 304, 3)), (128, (.iload_n 1, 1)), (129, (.iadd, 1)), (130, (.aload_n 0, 1)), (131, (.getfield 7, 3)), (134, (.sipush 304, 3)), (137, (.iload_n 1, 1)), (138, (.iadd, 1)), (139, (.iaload, 1)), (140, (.iconst 1, 1)), (141, (.iadd, 1)), (142, (.iastore, 1)), (143, (.iload 6, 2)), (145, (.ifCond .ne 6, 3)), (148, (.goto (-145), 3)), (151, (.iload_n 2, 1)), (152, (.aload_n 0, 1)), (153, (.getfield 19, 3)), (156, (.iload 4, 2)), (158, (.iaload, 1)), (159, (.isub, 1)), (160, (.istore_n 2, 1)), (161, (.aload_n 0, 1)), (162, (.iload_n 1, 1)), (163, (.iload 4, 2)), (165, (.aload_n 0, 1)), (166, (.iload_n 1, 1)), (167, (.iload 4, 2)), (169, (.iload 5, 2)), (171, (.invokevirtual 313, 3)), (174, (.invokevirtual 353, 3)), (177, (.goto (-174), 3)), (180, (.return_, 1))]
theorem dm_X12_dayOf : ∀ q ∈ tb_X12_dayOf, decode zX12_dayOf.2.1 q.1 = .ok q.2 := by decide +kernel
def f_X12_dayOf_121 (n : Nat) (K3 : Int32 → Int32 → qM → qR) (a1 a2 a4 a5 a6 : Int32) (M : qM) : qR :=
  qg ((304 : Int32) + a1) 954 (qg ((304 : Int32) + a1) 954 (qlm (mu M 78 ((304 : Int32) + a1).toNatClampNeg ((M 78 ((304 : Int32) + a1).toNatClampNeg) + (1 : Int32))) (fun m1 => (if a6 = (0 : Int32) then K3 a1 a2 m1 else qg a4 13 (ql (a2 - (m1 81 a4.toNatClampNeg)) (fun x2 => qc (f_X12_triesNow n a1 a4 a5 m1) (fun r3 m4 => qc (f_X12_notesTry n a1 a4 r3 m4) (fun _ m5 => K3 a1 x2 m5))))))))
set_option maxRecDepth 4000 in
theorem w_X12_dayOf_121 {g : qG} {k : qK} (n : Nat) (j r : Nat) (hj : q_isLaw j) (hr : q_isLaw r) (o : qOk g 5 zX12_dayOf k) (K3 : Int32 → Int32 → qM → qR) (hK3 : ∀ (a1 a2 : Int32) (M : qM), qAE g k zX12_dayOf (qL j r) 3 [some (.inr (some 77)), some (.inl a1), some (.inl a2), none, none, none, none] [] (qL j r, M) (K3 a1 a2 M)) (a1 a2 a4 a5 a6 : Int32) (M : qM) : qAE g k zX12_dayOf (qL j r) 121 [some (.inr (some 77)), some (.inl a1), some (.inl a2), none, some (.inl a4), some (.inl a5), some (.inl a6)] [] (qL j r, M) (f_X12_dayOf_121 n K3 a1 a2 a4 a5 a6 M) := by
  unfold f_X12_dayOf_121
  refine qr_aload_n o (q_dm dm_X12_dayOf 67 rfl) rfl ?_
  refine qr_getr (kf := 0) o cf_X12 (sh77 j r) rfl (Nat.le_of_ble_eq_true rfl) fl_X12_7 (q_dm dm_X12_dayOf 68 rfl) ?_
  refine qr_sipush o (q_dm dm_X12_dayOf 69 rfl) si_304 ?_
  refine qr_iload_n o (q_dm dm_X12_dayOf 70 rfl) rfl ?_
  refine qr_iadd o (q_dm dm_X12_dayOf 71 rfl) ?_
  refine qr_aload_n o (q_dm dm_X12_dayOf 72 rfl) rfl ?_
  refine qr_getr (kf := 0) o cf_X12 (sh77 j r) rfl (Nat.le_of_ble_eq_true rfl) fl_X12_7 (q_dm dm_X12_dayOf 73 rfl) ?_
  refine qr_sipush o (q_dm dm_X12_dayOf 74 rfl) si_304 ?_
  refine qr_iload_n o (q_dm dm_X12_dayOf 75 rfl) rfl ?_
  refine qr_iadd o (q_dm dm_X12_dayOf 76 rfl) ?_
  refine qr_iald o (sh78 j r) (q_dm dm_X12_dayOf 77 rfl) ?_
  refine qr_iconst o (q_dm dm_X12_dayOf 78 rfl) ic_1 ?_
  refine qr_iadd o (q_dm dm_X12_dayOf 79 rfl) ?_
  refine qr_iast o (sh78 j r) (q_dm dm_X12_dayOf 80 rfl) ?_
  refine qr_letm (fun m1 => ?_)
  refine qr_iload o (q_dm dm_X12_dayOf 81 rfl) rfl ?_
  refine qr_if_ne (tgt := 151) o (q_dm dm_X12_dayOf 82 rfl) (by decide) ?_ ?_
  · refine qr_iload_n o (q_dm dm_X12_dayOf 84 rfl) rfl ?_
    refine qr_aload_n o (q_dm dm_X12_dayOf 85 rfl) rfl ?_
    refine qr_getr (kf := 3) o cf_X12 (sh77 j r) rfl (Nat.le_of_ble_eq_true rfl) fl_X12_19 (q_dm dm_X12_dayOf 86 rfl) ?_
    refine qr_iload o (q_dm dm_X12_dayOf 87 rfl) rfl ?_
    refine qr_iald o (sh81 j r) (q_dm dm_X12_dayOf 88 rfl) ?_
    refine qr_isub o (q_dm dm_X12_dayOf 89 rfl) ?_
    refine qr_lt (fun x2 => ?_)
    refine qs_istore_n (L' := [some (.inr (some 77)), some (.inl a1), some (.inl x2), none, some (.inl a4), some (.inl a5), some (.inl a6)]) o (q_dm dm_X12_dayOf 90 rfl) (Nat.le_of_ble_eq_true rfl) rfl ?_
    refine qr_aload_n o (q_dm dm_X12_dayOf 91 rfl) rfl ?_
    refine qr_iload_n o (q_dm dm_X12_dayOf 92 rfl) rfl ?_
    refine qr_iload o (q_dm dm_X12_dayOf 93 rfl) rfl ?_
    refine qr_aload_n o (q_dm dm_X12_dayOf 94 rfl) rfl ?_
    refine qr_iload_n o (q_dm dm_X12_dayOf 95 rfl) rfl ?_
    refine qr_iload o (q_dm dm_X12_dayOf 96 rfl) rfl ?_
    refine qr_iload o (q_dm dm_X12_dayOf 97 rfl) rfl ?_
    refine qr_callv_i (As := [.inl a1, .inl a4, .inl a5]) (S := [.inl a4, .inl a1, .inr (some 77)]) o (a_X12_triesNow g k.2.1 n j r hj hr a1 a4 a5 m1) (Nat.le_of_ble_eq_true rfl) zv_X12_triesNow rfl cf_X12 (sh77 j r) ml_X12_313 (Nat.le_of_ble_eq_true rfl) (q_dm dm_X12_dayOf 98 rfl) (fun r3 m4 => ?_)
    refine qr_callv_v (As := [.inl a1, .inl a4, .inl r3]) (S := []) o (a_X12_notesTry g k.2.1 n j r hj hr a1 a4 r3 m4) (Nat.le_of_ble_eq_true rfl) zv_X12_notesTry rfl cf_X12 (sh77 j r) ml_X12_353 (Nat.le_of_ble_eq_true rfl) (q_dm dm_X12_dayOf 99 rfl) (fun _ m5 => ?_)
    refine qr_goto (tgt := 3) o (q_dm dm_X12_dayOf 100 rfl) (by decide) ?_
    exact qr_loc (q_leS (q_leS (q_leS (q_leN (q_leN (q_leN (q_leN q_le0))))))) (hK3 a1 x2 m5)
  · refine qr_goto (tgt := 3) o (q_dm dm_X12_dayOf 83 rfl) (by decide) ?_
    exact qr_loc (q_leS (q_leS (q_leS (q_leN (q_leN (q_leN (q_leN q_le0))))))) (hK3 a1 a2 m1)

def f_X12_dayOf_102 (n : Nat) (K3 : Int32 → Int32 → qM → qR) (a1 a2 a4 a5 s0 : Int32) (M : qM) : qR :=
  (if s0 = (0 : Int32) then f_X12_dayOf_121 n K3 a1 a2 a4 a5 s0 M else qg a4 13 ((if (M 81 a4.toNatClampNeg) ≤ a2 then f_X12_dayOf_121 n K3 a1 a2 a4 a5 s0 M else some (0, M))))
set_option maxRecDepth 4000 in
theorem w_X12_dayOf_102 {g : qG} {k : qK} (n : Nat) (j r : Nat) (hj : q_isLaw j) (hr : q_isLaw r) (o : qOk g 5 zX12_dayOf k) (K3 : Int32 → Int32 → qM → qR) (hK3 : ∀ (a1 a2 : Int32) (M : qM), qAE g k zX12_dayOf (qL j r) 3 [some (.inr (some 77)), some (.inl a1), some (.inl a2), none, none, none, none] [] (qL j r, M) (K3 a1 a2 M)) (a1 a2 a4 a5 s0 : Int32) (M : qM) : qAE g k zX12_dayOf (qL j r) 102 [some (.inr (some 77)), some (.inl a1), some (.inl a2), none, some (.inl a4), some (.inl a5), none] [.inl s0] (qL j r, M) (f_X12_dayOf_102 n K3 a1 a2 a4 a5 s0 M) := by
  unfold f_X12_dayOf_102
  refine qs_istore (L' := [some (.inr (some 77)), some (.inl a1), some (.inl a2), none, some (.inl a4), some (.inl a5), some (.inl s0)]) o (q_dm dm_X12_dayOf 57 rfl) (Nat.le_of_ble_eq_true rfl) rfl ?_
  refine qr_iload o (q_dm dm_X12_dayOf 58 rfl) rfl ?_
  refine qr_if_eq (tgt := 121) o (q_dm dm_X12_dayOf 59 rfl) (by decide) ?_ ?_
  · exact qr_loc (q_leS (q_leS (q_leS (q_leN (q_leS (q_leS (q_leS q_le0))))))) (w_X12_dayOf_121 n j r hj hr o K3 hK3 a1 a2 a4 a5 s0 M)
  · refine qr_aload_n o (q_dm dm_X12_dayOf 60 rfl) rfl ?_
    refine qr_getr (kf := 3) o cf_X12 (sh77 j r) rfl (Nat.le_of_ble_eq_true rfl) fl_X12_19 (q_dm dm_X12_dayOf 61 rfl) ?_
    refine qr_iload o (q_dm dm_X12_dayOf 62 rfl) rfl ?_
    refine qr_iald o (sh81 j r) (q_dm dm_X12_dayOf 63 rfl) ?_
    refine qr_iload_n o (q_dm dm_X12_dayOf 64 rfl) rfl ?_
    refine qr_icmp_le (tgt := 121) o (q_dm dm_X12_dayOf 65 rfl) (by decide) ?_ ?_
    · exact qr_loc (q_leS (q_leS (q_leS (q_leN (q_leS (q_leS (q_leS q_le0))))))) (w_X12_dayOf_121 n j r hj hr o K3 hK3 a1 a2 a4 a5 s0 M)
    · exact qr_vret o rfl (q_dm dm_X12_dayOf 66 rfl)

def f_X12_dayOf_101 (n : Nat) (K3 : Int32 → Int32 → qM → qR) (a1 a2 a4 a5 : Int32) (M : qM) : qR :=
  f_X12_dayOf_102 n K3 a1 a2 a4 a5 (0 : Int32) M
set_option maxRecDepth 4000 in
theorem w_X12_dayOf_101 {g : qG} {k : qK} (n : Nat) (j r : Nat) (hj : q_isLaw j) (hr : q_isLaw r) (o : qOk g 5 zX12_dayOf k) (K3 : Int32 → Int32 → qM → qR) (hK3 : ∀ (a1 a2 : Int32) (M : qM), qAE g k zX12_dayOf (qL j r) 3 [some (.inr (some 77)), some (.inl a1), some (.inl a2), none, none, none, none] [] (qL j r, M) (K3 a1 a2 M)) (a1 a2 a4 a5 : Int32) (M : qM) : qAE g k zX12_dayOf (qL j r) 101 [some (.inr (some 77)), some (.inl a1), some (.inl a2), none, some (.inl a4), some (.inl a5), none] [] (qL j r, M) (f_X12_dayOf_101 n K3 a1 a2 a4 a5 M) := by
  unfold f_X12_dayOf_101
  refine qr_iconst o (q_dm dm_X12_dayOf 56 rfl) ic_0 ?_
  exact qr_loc (q_leS (q_leS (q_leS (q_leN (q_leS (q_leS (q_leN q_le0))))))) (w_X12_dayOf_102 n j r hj hr o K3 hK3 a1 a2 a4 a5 (0 : Int32) M)

def b_X12_dayOf_3 (n : Nat) (K3 : Int32 → Int32 → qM → qR) (a1 a2 : Int32) (M : qM) : qR :=
  qg ((304 : Int32) + a1) 954 (qg ((296 : Int32) + a1) 954 ((if (M 78 ((296 : Int32) + a1).toNatClampNeg) ≤ (M 78 ((304 : Int32) + a1).toNatClampNeg) then some (0, M) else qg ((304 : Int32) + a1) 954 (ql (((40 : Int32) * a1) + (M 78 ((304 : Int32) + a1).toNatClampNeg)) (fun x1 => qg ((314 : Int32) + x1) 954 (ql (M 78 ((314 : Int32) + x1).toNatClampNeg) (fun x2 => qg ((634 : Int32) + x1) 954 (ql (M 78 ((634 : Int32) + x1).toNatClampNeg) (fun x3 => qc (f_X12_isKind n x2 M) (fun r4 m5 => (if r4 = (0 : Int32) then f_X12_dayOf_101 n K3 a1 a2 x2 x3 m5 else (if x3 = a1 then f_X12_dayOf_101 n K3 a1 a2 x2 x3 m5 else (if x3 = (8 : Int32) then f_X12_dayOf_102 n K3 a1 a2 x2 x3 (1 : Int32) m5 else qc (f_X12_isPerson n x3 m5) (fun r6 m7 => (if r6 = (0 : Int32) then f_X12_dayOf_101 n K3 a1 a2 x2 x3 m7 else f_X12_dayOf_102 n K3 a1 a2 x2 x3 (1 : Int32) m7)))))))))))))))
set_option maxRecDepth 4000 in
theorem wb_X12_dayOf_3 {g : qG} {k : qK} (n : Nat) (j r : Nat) (hj : q_isLaw j) (hr : q_isLaw r) (o : qOk g 5 zX12_dayOf k) (K3 : Int32 → Int32 → qM → qR) (hK3 : ∀ (a1 a2 : Int32) (M : qM), qAE g k zX12_dayOf (qL j r) 3 [some (.inr (some 77)), some (.inl a1), some (.inl a2), none, none, none, none] [] (qL j r, M) (K3 a1 a2 M)) (a1 a2 : Int32) (M : qM) : qAE g k zX12_dayOf (qL j r) 3 [some (.inr (some 77)), some (.inl a1), some (.inl a2), none, none, none, none] [] (qL j r, M) (b_X12_dayOf_3 n K3 a1 a2 M) := by
  unfold b_X12_dayOf_3
  refine qr_aload_n o (q_dm dm_X12_dayOf 2 rfl) rfl ?_
  refine qr_getr (kf := 0) o cf_X12 (sh77 j r) rfl (Nat.le_of_ble_eq_true rfl) fl_X12_7 (q_dm dm_X12_dayOf 3 rfl) ?_
  refine qr_sipush o (q_dm dm_X12_dayOf 4 rfl) si_304 ?_
  refine qr_iload_n o (q_dm dm_X12_dayOf 5 rfl) rfl ?_
  refine qr_iadd o (q_dm dm_X12_dayOf 6 rfl) ?_
  refine qr_iald o (sh78 j r) (q_dm dm_X12_dayOf 7 rfl) ?_
  refine qr_aload_n o (q_dm dm_X12_dayOf 8 rfl) rfl ?_
  refine qr_getr (kf := 0) o cf_X12 (sh77 j r) rfl (Nat.le_of_ble_eq_true rfl) fl_X12_7 (q_dm dm_X12_dayOf 9 rfl) ?_
  refine qr_sipush o (q_dm dm_X12_dayOf 10 rfl) si_296 ?_
  refine qr_iload_n o (q_dm dm_X12_dayOf 11 rfl) rfl ?_
  refine qr_iadd o (q_dm dm_X12_dayOf 12 rfl) ?_
  refine qr_iald o (sh78 j r) (q_dm dm_X12_dayOf 13 rfl) ?_
  refine qr_icmp_ge (tgt := 180) o (q_dm dm_X12_dayOf 14 rfl) (by decide) ?_ ?_
  · exact qr_vret o rfl (q_dm dm_X12_dayOf 101 rfl)
  · refine qr_bipush o (q_dm dm_X12_dayOf 15 rfl) bi_40 ?_
    refine qr_iload_n o (q_dm dm_X12_dayOf 16 rfl) rfl ?_
    refine qr_imul o (q_dm dm_X12_dayOf 17 rfl) ?_
    refine qr_aload_n o (q_dm dm_X12_dayOf 18 rfl) rfl ?_
    refine qr_getr (kf := 0) o cf_X12 (sh77 j r) rfl (Nat.le_of_ble_eq_true rfl) fl_X12_7 (q_dm dm_X12_dayOf 19 rfl) ?_
    refine qr_sipush o (q_dm dm_X12_dayOf 20 rfl) si_304 ?_
    refine qr_iload_n o (q_dm dm_X12_dayOf 21 rfl) rfl ?_
    refine qr_iadd o (q_dm dm_X12_dayOf 22 rfl) ?_
    refine qr_iald o (sh78 j r) (q_dm dm_X12_dayOf 23 rfl) ?_
    refine qr_iadd o (q_dm dm_X12_dayOf 24 rfl) ?_
    refine qr_lt (fun x1 => ?_)
    refine qs_istore_n (L' := [some (.inr (some 77)), some (.inl a1), some (.inl a2), some (.inl x1), none, none, none]) o (q_dm dm_X12_dayOf 25 rfl) (Nat.le_of_ble_eq_true rfl) rfl ?_
    refine qr_aload_n o (q_dm dm_X12_dayOf 26 rfl) rfl ?_
    refine qr_getr (kf := 0) o cf_X12 (sh77 j r) rfl (Nat.le_of_ble_eq_true rfl) fl_X12_7 (q_dm dm_X12_dayOf 27 rfl) ?_
    refine qr_sipush o (q_dm dm_X12_dayOf 28 rfl) si_314 ?_
    refine qr_iload_n o (q_dm dm_X12_dayOf 29 rfl) rfl ?_
    refine qr_iadd o (q_dm dm_X12_dayOf 30 rfl) ?_
    refine qr_iald o (sh78 j r) (q_dm dm_X12_dayOf 31 rfl) ?_
    refine qr_lt (fun x2 => ?_)
    refine qs_istore (L' := [some (.inr (some 77)), some (.inl a1), some (.inl a2), some (.inl x1), some (.inl x2), none, none]) o (q_dm dm_X12_dayOf 32 rfl) (Nat.le_of_ble_eq_true rfl) rfl ?_
    refine qr_aload_n o (q_dm dm_X12_dayOf 33 rfl) rfl ?_
    refine qr_getr (kf := 0) o cf_X12 (sh77 j r) rfl (Nat.le_of_ble_eq_true rfl) fl_X12_7 (q_dm dm_X12_dayOf 34 rfl) ?_
    refine qr_sipush o (q_dm dm_X12_dayOf 35 rfl) si_634 ?_
    refine qr_iload_n o (q_dm dm_X12_dayOf 36 rfl) rfl ?_
    refine qr_iadd o (q_dm dm_X12_dayOf 37 rfl) ?_
    refine qr_iald o (sh78 j r) (q_dm dm_X12_dayOf 38 rfl) ?_
    refine qr_lt (fun x3 => ?_)
    refine qs_istore (L' := [some (.inr (some 77)), some (.inl a1), some (.inl a2), some (.inl x1), some (.inl x2), some (.inl x3), none]) o (q_dm dm_X12_dayOf 39 rfl) (Nat.le_of_ble_eq_true rfl) rfl ?_
    refine qr_aload_n o (q_dm dm_X12_dayOf 40 rfl) rfl ?_
    refine qr_iload o (q_dm dm_X12_dayOf 41 rfl) rfl ?_
    refine qr_callv_i (As := [.inl x2]) (S := []) o (a_X12_isKind g k.2.1 n j r hj hr x2 M) (Nat.le_of_ble_eq_true rfl) zv_X12_isKind rfl cf_X12 (sh77 j r) ml_X12_157 (Nat.le_of_ble_eq_true rfl) (q_dm dm_X12_dayOf 42 rfl) (fun r4 m5 => ?_)
    refine qr_if_eq (tgt := 101) o (q_dm dm_X12_dayOf 43 rfl) (by decide) ?_ ?_
    · exact qr_loc (q_leS (q_leS (q_leS (q_leN (q_leS (q_leS (q_leN q_le0))))))) (w_X12_dayOf_101 n j r hj hr o K3 hK3 a1 a2 x2 x3 m5)
    · refine qr_iload o (q_dm dm_X12_dayOf 44 rfl) rfl ?_
      refine qr_iload_n o (q_dm dm_X12_dayOf 45 rfl) rfl ?_
      refine qr_icmp_eq (tgt := 101) o (q_dm dm_X12_dayOf 46 rfl) (by decide) ?_ ?_
      · exact qr_loc (q_leS (q_leS (q_leS (q_leN (q_leS (q_leS (q_leN q_le0))))))) (w_X12_dayOf_101 n j r hj hr o K3 hK3 a1 a2 x2 x3 m5)
      · refine qr_iload o (q_dm dm_X12_dayOf 47 rfl) rfl ?_
        refine qr_bipush o (q_dm dm_X12_dayOf 48 rfl) bi_8 ?_
        refine qr_icmp_eq (tgt := 97) o (q_dm dm_X12_dayOf 49 rfl) (by decide) ?_ ?_
        · refine qr_iconst o (q_dm dm_X12_dayOf 54 rfl) ic_1 ?_
          refine qr_goto (tgt := 102) o (q_dm dm_X12_dayOf 55 rfl) (by decide) ?_
          exact qr_loc (q_leS (q_leS (q_leS (q_leN (q_leS (q_leS (q_leN q_le0))))))) (w_X12_dayOf_102 n j r hj hr o K3 hK3 a1 a2 x2 x3 (1 : Int32) m5)
        · refine qr_aload_n o (q_dm dm_X12_dayOf 50 rfl) rfl ?_
          refine qr_iload o (q_dm dm_X12_dayOf 51 rfl) rfl ?_
          refine qr_callv_i (As := [.inl x3]) (S := []) o (a_X12_isPerson g k.2.1 n j r hj hr x3 m5) (Nat.le_of_ble_eq_true rfl) zv_X12_isPerson rfl cf_X12 (sh77 j r) ml_X12_310 (Nat.le_of_ble_eq_true rfl) (q_dm dm_X12_dayOf 52 rfl) (fun r6 m7 => ?_)
          refine qr_if_eq (tgt := 101) o (q_dm dm_X12_dayOf 53 rfl) (by decide) ?_ ?_
          · exact qr_loc (q_leS (q_leS (q_leS (q_leN (q_leS (q_leS (q_leN q_le0))))))) (w_X12_dayOf_101 n j r hj hr o K3 hK3 a1 a2 x2 x3 m7)
          · refine qr_iconst o (q_dm dm_X12_dayOf 54 rfl) ic_1 ?_
            refine qr_goto (tgt := 102) o (q_dm dm_X12_dayOf 55 rfl) (by decide) ?_
            exact qr_loc (q_leS (q_leS (q_leS (q_leN (q_leS (q_leS (q_leN q_le0))))))) (w_X12_dayOf_102 n j r hj hr o K3 hK3 a1 a2 x2 x3 (1 : Int32) m7)

def f_X12_dayOf_3 (n : Nat) : Nat → Int32 → Int32 → qM → qR
  | 0, _, _, _ => none
  | m + 1, a1, a2, M => b_X12_dayOf_3 n (f_X12_dayOf_3 n m) a1 a2 M
theorem w_X12_dayOf_3 {g : qG} {k : qK} (n : Nat) (j r : Nat) (hj : q_isLaw j) (hr : q_isLaw r) (o : qOk g 5 zX12_dayOf k) : ∀ (m : Nat) (a1 a2 : Int32) (M : qM), qAE g k zX12_dayOf (qL j r) 3 [some (.inr (some 77)), some (.inl a1), some (.inl a2), none, none, none, none] [] (qL j r, M) (f_X12_dayOf_3 n m a1 a2 M) := by
  intro m
  induction m with
  | zero =>
    intro a1 a2 M
    exact qr_none
  | succ m ih =>
    intro a1 a2 M
    exact wb_X12_dayOf_3 n j r hj hr o (f_X12_dayOf_3 n m) ih a1 a2 M
def f_X12_dayOf (n : Nat) (a1 : Int32) (M : qM) : qR :=
  f_X12_dayOf_3 n n a1 (12 : Int32) M
set_option maxRecDepth 4000 in
theorem w_X12_dayOf {g : qG} {k : qK} (n : Nat) (j r : Nat) (hj : q_isLaw j) (hr : q_isLaw r) (o : qOk g 5 zX12_dayOf k) (a1 : Int32) (M : qM) : qAE g k zX12_dayOf (qL j r) 0 [some (.inr (some 77)), some (.inl a1), none, none, none, none, none] [] (qL j r, M) (f_X12_dayOf n a1 M) := by
  unfold f_X12_dayOf
  refine qr_bipush o (q_dm dm_X12_dayOf 0 rfl) bi_12 ?_
  refine qs_istore_n (L' := [some (.inr (some 77)), some (.inl a1), some (.inl (12 : Int32)), none, none, none, none]) o (q_dm dm_X12_dayOf 1 rfl) (Nat.le_of_ble_eq_true rfl) rfl ?_
  exact qr_loc (q_leS (q_leS (q_leS (q_leN (q_leN (q_leN (q_leN q_le0))))))) (w_X12_dayOf_3 n j r hj hr o n a1 (12 : Int32) M)

theorem a_X12_dayOf (g : qG) (l : Launch) (n : Nat) (j r : Nat) (hj : q_isLaw j) (hr : q_isLaw r) (a1 : Int32) (M : qM) : qAM g l 5 zX12_dayOf (qL j r) [.inr (some 77), .inl a1] (qL j r, M) (f_X12_dayOf n a1 M) :=
  qAM.of zv_X12_dayOf.1 (by show 2 ≤ 7; decide) (fun k hk o => w_X12_dayOf n j r hj hr o a1 M)
def tb_X12_daysGo : List (Nat × Instr × Nat) := [(0, (.aload_n 0, 1)), (1, (.iconst 0, 1)), (2, (.putfield 335, 3)), (5, (.aload_n 0, 1)), (6, (.iconst 0, 1)), (7, (.putfield 341, 3)), (10, (.aload_n 0, 1)), (11, (.iconst 0, 1)), (12, (.putfield 338, 3)), (15, (.aload_n 0, 1)), (16, (.bipush (-2), 2)), (18, (.putfield 344, 3)), (21, (.aload_n 0, 1)), (22, (.bipush (-2), 2)), (24, (.putfield 347, 3)), (27, (.aload_n 0, 1)), (28, (.bipush (-2), 2)), (30, (.putfield 350, 3)), (33, (.iconst 0, 1)), (34, (.istore_n 2, 1)), (35, (.iload_n 2, 1)), (36, (.iload_n 1, 1)), (37, (.if_icmp .ge 68, 3)), (40, (.aload_n 0, 1)), (41, (.getfield 7, 3)), (44, (.sipush 313, 3)), (47, (.iaload, 1)), (48, (.sipush 9999, 3)), (51, (.if_icmp .ge 54, 3)), (54, (.iconst 0, 1)), (55, (.istore_n 3, 1)), (56, (.iload_n 3, 1)), (57, (.bipush 8, 2)), (59, (.if_icmp .ge 22, 3)), (62, (.aload_n 0, 1)), (63, (.iload_n 3, 1)), (64, (.invokevirtual 310, 3)), (67, (.ifCond .eq 8, 3)), (70, (.aload_n 0, 1)), (71, (.iload_n 3, 1)), (72, (.invokevirtual 356, 3)), (75, (.iinc 3 1, 3)), (78, (.goto (-22), 3)), (81, (.aload_n 0, 1)), (82, (.getfield 7, 3)), (85, (.sipush 313, 3)), (88, (.aload_n 0, 1)), (89, (.getfield 7, 3)), (92, (.sipush 313, 3)), (95, (.iaload, 1)), (96, (.iconst 1, 1)), (97, (.iadd, 1)), (98, (.iastore, 1)), (99, (.iinc 2 1, 3)), (102, (.goto (-67), 3)), (105, (.return_, 1))]
theorem dm_X12_daysGo : ∀ q ∈ tb_X12_daysGo, decode zX12_daysGo.2.1 q.1 = .ok q.2 := by decide +kernel
def b_X12_daysGo_56 (n : Nat) (K35 : Int32 → Int32 → qM → qR) (K56 : Int32 → Int32 → Int32 → qM → qR) (a1 a2 a3 : Int32) (M : qM) : qR :=
  (if (8 : Int32) ≤ a3 then qlm (mu M 78 313 ((M 78 313) + (1 : Int32))) (fun m1 => ql (a2 + (1 : Int32)) (fun x2 => K35 a1 x2 m1)) else qc (f_X12_isPerson n a3 M) (fun r3 m4 => (if r3 = (0 : Int32) then ql (a3 + (1 : Int32)) (fun x5 => K56 a1 a2 x5 m4) else qc (f_X12_dayOf n a3 m4) (fun _ m6 => ql (a3 + (1 : Int32)) (fun x7 => K56 a1 a2 x7 m6)))))
set_option maxRecDepth 4000 in
theorem wb_X12_daysGo_56 {g : qG} {k : qK} (n : Nat) (j r : Nat) (hj : q_isLaw j) (hr : q_isLaw r) (o : qOk g 6 zX12_daysGo k) (K35 : Int32 → Int32 → qM → qR) (hK35 : ∀ (a1 a2 : Int32) (M : qM), qAE g k zX12_daysGo (qL j r) 35 [some (.inr (some 77)), some (.inl a1), some (.inl a2), none] [] (qL j r, M) (K35 a1 a2 M)) (K56 : Int32 → Int32 → Int32 → qM → qR) (hK56 : ∀ (a1 a2 a3 : Int32) (M : qM), qAE g k zX12_daysGo (qL j r) 56 [some (.inr (some 77)), some (.inl a1), some (.inl a2), some (.inl a3)] [] (qL j r, M) (K56 a1 a2 a3 M)) (a1 a2 a3 : Int32) (M : qM) : qAE g k zX12_daysGo (qL j r) 56 [some (.inr (some 77)), some (.inl a1), some (.inl a2), some (.inl a3)] [] (qL j r, M) (b_X12_daysGo_56 n K35 K56 a1 a2 a3 M) := by
  unfold b_X12_daysGo_56
  refine qr_iload_n o (q_dm dm_X12_daysGo 31 rfl) rfl ?_
  refine qr_bipush o (q_dm dm_X12_daysGo 32 rfl) bi_8 ?_
  refine qr_icmp_ge (tgt := 81) o (q_dm dm_X12_daysGo 33 rfl) (by decide) ?_ ?_
  · refine qr_aload_n o (q_dm dm_X12_daysGo 43 rfl) rfl ?_
    refine qr_getr (kf := 0) o cf_X12 (sh77 j r) rfl (Nat.le_of_ble_eq_true rfl) fl_X12_7 (q_dm dm_X12_daysGo 44 rfl) ?_
    refine qr_sipush o (q_dm dm_X12_daysGo 45 rfl) si_313 ?_
    refine qr_aload_n o (q_dm dm_X12_daysGo 46 rfl) rfl ?_
    refine qr_getr (kf := 0) o cf_X12 (sh77 j r) rfl (Nat.le_of_ble_eq_true rfl) fl_X12_7 (q_dm dm_X12_daysGo 47 rfl) ?_
    refine qr_sipush o (q_dm dm_X12_daysGo 48 rfl) si_313 ?_
    refine qr_iald0 (c := 313) o (sh78 j r) (by decide) (by decide) (q_dm dm_X12_daysGo 49 rfl) ?_
    refine qr_iconst o (q_dm dm_X12_daysGo 50 rfl) ic_1 ?_
    refine qr_iadd o (q_dm dm_X12_daysGo 51 rfl) ?_
    refine qr_iast0 (c := 313) o (sh78 j r) (by decide) (by decide) (q_dm dm_X12_daysGo 52 rfl) ?_
    refine qr_letm (fun m1 => ?_)
    refine qs_iincl2 (L' := fun x2 => [some (.inr (some 77)), some (.inl a1), some (.inl x2), some (.inl a3)]) o (q_dm dm_X12_daysGo 53 rfl) rfl ic_1 (Nat.le_of_ble_eq_true rfl) (fun _ => rfl) (fun x2 => ?_)
    refine qr_goto (tgt := 35) o (q_dm dm_X12_daysGo 54 rfl) (by decide) ?_
    exact qr_loc (q_leS (q_leS (q_leS (q_leN q_le0)))) (hK35 a1 x2 m1)
  · refine qr_aload_n o (q_dm dm_X12_daysGo 34 rfl) rfl ?_
    refine qr_iload_n o (q_dm dm_X12_daysGo 35 rfl) rfl ?_
    refine qr_callv_i (As := [.inl a3]) (S := []) o (a_X12_isPerson g k.2.1 n j r hj hr a3 M) (Nat.le_of_ble_eq_true rfl) zv_X12_isPerson rfl cf_X12 (sh77 j r) ml_X12_310 (Nat.le_of_ble_eq_true rfl) (q_dm dm_X12_daysGo 36 rfl) (fun r3 m4 => ?_)
    refine qr_if_eq (tgt := 75) o (q_dm dm_X12_daysGo 37 rfl) (by decide) ?_ ?_
    · refine qs_iincl2 (L' := fun x5 => [some (.inr (some 77)), some (.inl a1), some (.inl a2), some (.inl x5)]) o (q_dm dm_X12_daysGo 41 rfl) rfl ic_1 (Nat.le_of_ble_eq_true rfl) (fun _ => rfl) (fun x5 => ?_)
      refine qr_goto (tgt := 56) o (q_dm dm_X12_daysGo 42 rfl) (by decide) ?_
      exact qr_loc (q_leS (q_leS (q_leS (q_leS q_le0)))) (hK56 a1 a2 x5 m4)
    · refine qr_aload_n o (q_dm dm_X12_daysGo 38 rfl) rfl ?_
      refine qr_iload_n o (q_dm dm_X12_daysGo 39 rfl) rfl ?_
      refine qr_callv_v (As := [.inl a3]) (S := []) o (a_X12_dayOf g k.2.1 n j r hj hr a3 m4) (Nat.le_of_ble_eq_true rfl) zv_X12_dayOf rfl cf_X12 (sh77 j r) ml_X12_356 (Nat.le_of_ble_eq_true rfl) (q_dm dm_X12_daysGo 40 rfl) (fun _ m6 => ?_)
      refine qs_iincl2 (L' := fun x7 => [some (.inr (some 77)), some (.inl a1), some (.inl a2), some (.inl x7)]) o (q_dm dm_X12_daysGo 41 rfl) rfl ic_1 (Nat.le_of_ble_eq_true rfl) (fun _ => rfl) (fun x7 => ?_)
      refine qr_goto (tgt := 56) o (q_dm dm_X12_daysGo 42 rfl) (by decide) ?_
      exact qr_loc (q_leS (q_leS (q_leS (q_leS q_le0)))) (hK56 a1 a2 x7 m6)

def f_X12_daysGo_56 (n : Nat) (K35 : Int32 → Int32 → qM → qR) : Nat → Int32 → Int32 → Int32 → qM → qR
  | 0, _, _, _, _ => none
  | m + 1, a1, a2, a3, M => b_X12_daysGo_56 n K35 (f_X12_daysGo_56 n K35 m) a1 a2 a3 M
theorem w_X12_daysGo_56 {g : qG} {k : qK} (n : Nat) (j r : Nat) (hj : q_isLaw j) (hr : q_isLaw r) (o : qOk g 6 zX12_daysGo k) (K35 : Int32 → Int32 → qM → qR) (hK35 : ∀ (a1 a2 : Int32) (M : qM), qAE g k zX12_daysGo (qL j r) 35 [some (.inr (some 77)), some (.inl a1), some (.inl a2), none] [] (qL j r, M) (K35 a1 a2 M)) : ∀ (m : Nat) (a1 a2 a3 : Int32) (M : qM), qAE g k zX12_daysGo (qL j r) 56 [some (.inr (some 77)), some (.inl a1), some (.inl a2), some (.inl a3)] [] (qL j r, M) (f_X12_daysGo_56 n K35 m a1 a2 a3 M) := by
  intro m
  induction m with
  | zero =>
    intro a1 a2 a3 M
    exact qr_none
  | succ m ih =>
    intro a1 a2 a3 M
    exact wb_X12_daysGo_56 n j r hj hr o K35 hK35 (f_X12_daysGo_56 n K35 m) ih a1 a2 a3 M
def b_X12_daysGo_35 (n : Nat) (K35 : Int32 → Int32 → qM → qR) (a1 a2 : Int32) (M : qM) : qR :=
  (if a1 ≤ a2 then some (0, M) else (if (9999 : Int32) ≤ (M 78 313) then some (0, M) else f_X12_daysGo_56 n K35 n a1 a2 (0 : Int32) M))
set_option maxRecDepth 4000 in
theorem wb_X12_daysGo_35 {g : qG} {k : qK} (n : Nat) (j r : Nat) (hj : q_isLaw j) (hr : q_isLaw r) (o : qOk g 6 zX12_daysGo k) (K35 : Int32 → Int32 → qM → qR) (hK35 : ∀ (a1 a2 : Int32) (M : qM), qAE g k zX12_daysGo (qL j r) 35 [some (.inr (some 77)), some (.inl a1), some (.inl a2), none] [] (qL j r, M) (K35 a1 a2 M)) (a1 a2 : Int32) (M : qM) : qAE g k zX12_daysGo (qL j r) 35 [some (.inr (some 77)), some (.inl a1), some (.inl a2), none] [] (qL j r, M) (b_X12_daysGo_35 n K35 a1 a2 M) := by
  unfold b_X12_daysGo_35
  refine qr_iload_n o (q_dm dm_X12_daysGo 20 rfl) rfl ?_
  refine qr_iload_n o (q_dm dm_X12_daysGo 21 rfl) rfl ?_
  refine qr_icmp_ge (tgt := 105) o (q_dm dm_X12_daysGo 22 rfl) (by decide) ?_ ?_
  · exact qr_vret o rfl (q_dm dm_X12_daysGo 55 rfl)
  · refine qr_aload_n o (q_dm dm_X12_daysGo 23 rfl) rfl ?_
    refine qr_getr (kf := 0) o cf_X12 (sh77 j r) rfl (Nat.le_of_ble_eq_true rfl) fl_X12_7 (q_dm dm_X12_daysGo 24 rfl) ?_
    refine qr_sipush o (q_dm dm_X12_daysGo 25 rfl) si_313 ?_
    refine qr_iald0 (c := 313) o (sh78 j r) (by decide) (by decide) (q_dm dm_X12_daysGo 26 rfl) ?_
    refine qr_sipush o (q_dm dm_X12_daysGo 27 rfl) si_9999 ?_
    refine qr_icmp_ge (tgt := 105) o (q_dm dm_X12_daysGo 28 rfl) (by decide) ?_ ?_
    · exact qr_vret o rfl (q_dm dm_X12_daysGo 55 rfl)
    · refine qr_iconst o (q_dm dm_X12_daysGo 29 rfl) ic_0 ?_
      refine qs_istore_n (L' := [some (.inr (some 77)), some (.inl a1), some (.inl a2), some (.inl (0 : Int32))]) o (q_dm dm_X12_daysGo 30 rfl) (Nat.le_of_ble_eq_true rfl) rfl ?_
      exact qr_loc (q_leS (q_leS (q_leS (q_leS q_le0)))) (w_X12_daysGo_56 n j r hj hr o K35 hK35 n a1 a2 (0 : Int32) M)

def f_X12_daysGo_35 (n : Nat) : Nat → Int32 → Int32 → qM → qR
  | 0, _, _, _ => none
  | m + 1, a1, a2, M => b_X12_daysGo_35 n (f_X12_daysGo_35 n m) a1 a2 M
theorem w_X12_daysGo_35 {g : qG} {k : qK} (n : Nat) (j r : Nat) (hj : q_isLaw j) (hr : q_isLaw r) (o : qOk g 6 zX12_daysGo k) : ∀ (m : Nat) (a1 a2 : Int32) (M : qM), qAE g k zX12_daysGo (qL j r) 35 [some (.inr (some 77)), some (.inl a1), some (.inl a2), none] [] (qL j r, M) (f_X12_daysGo_35 n m a1 a2 M) := by
  intro m
  induction m with
  | zero =>
    intro a1 a2 M
    exact qr_none
  | succ m ih =>
    intro a1 a2 M
    exact wb_X12_daysGo_35 n j r hj hr o (f_X12_daysGo_35 n m) ih a1 a2 M
def f_X12_daysGo (n : Nat) (a1 : Int32) (M : qM) : qR :=
  qlm (mu M 77 37 (0 : Int32)) (fun m1 => qlm (mu m1 77 38 (0 : Int32)) (fun m2 => qlm (mu m2 77 39 (0 : Int32)) (fun m3 => qlm (mu m3 77 40 (-2 : Int32)) (fun m4 => qlm (mu m4 77 41 (-2 : Int32)) (fun m5 => qlm (mu m5 77 42 (-2 : Int32)) (fun m6 => f_X12_daysGo_35 n n a1 (0 : Int32) m6))))))
set_option maxRecDepth 4000 in
theorem w_X12_daysGo {g : qG} {k : qK} (n : Nat) (j r : Nat) (hj : q_isLaw j) (hr : q_isLaw r) (o : qOk g 6 zX12_daysGo k) (a1 : Int32) (M : qM) : qAE g k zX12_daysGo (qL j r) 0 [some (.inr (some 77)), some (.inl a1), none, none] [] (qL j r, M) (f_X12_daysGo n a1 M) := by
  unfold f_X12_daysGo
  refine qr_aload_n o (q_dm dm_X12_daysGo 0 rfl) rfl ?_
  refine qr_iconst o (q_dm dm_X12_daysGo 1 rfl) ic_0 ?_
  refine qr_putf (kf := 37) o cf_X12 (sh77 j r) rfl (Nat.le_of_ble_eq_true rfl) fl_X12_335 rfl (by decide +kernel) (q_dm dm_X12_daysGo 2 rfl) ?_
  refine qr_letm (fun m1 => ?_)
  refine qr_aload_n o (q_dm dm_X12_daysGo 3 rfl) rfl ?_
  refine qr_iconst o (q_dm dm_X12_daysGo 4 rfl) ic_0 ?_
  refine qr_putf (kf := 38) o cf_X12 (sh77 j r) rfl (Nat.le_of_ble_eq_true rfl) fl_X12_341 rfl (by decide +kernel) (q_dm dm_X12_daysGo 5 rfl) ?_
  refine qr_letm (fun m2 => ?_)
  refine qr_aload_n o (q_dm dm_X12_daysGo 6 rfl) rfl ?_
  refine qr_iconst o (q_dm dm_X12_daysGo 7 rfl) ic_0 ?_
  refine qr_putf (kf := 39) o cf_X12 (sh77 j r) rfl (Nat.le_of_ble_eq_true rfl) fl_X12_338 rfl (by decide +kernel) (q_dm dm_X12_daysGo 8 rfl) ?_
  refine qr_letm (fun m3 => ?_)
  refine qr_aload_n o (q_dm dm_X12_daysGo 9 rfl) rfl ?_
  refine qr_bipush o (q_dm dm_X12_daysGo 10 rfl) bi_m2 ?_
  refine qr_putf (kf := 40) o cf_X12 (sh77 j r) rfl (Nat.le_of_ble_eq_true rfl) fl_X12_344 rfl (by decide +kernel) (q_dm dm_X12_daysGo 11 rfl) ?_
  refine qr_letm (fun m4 => ?_)
  refine qr_aload_n o (q_dm dm_X12_daysGo 12 rfl) rfl ?_
  refine qr_bipush o (q_dm dm_X12_daysGo 13 rfl) bi_m2 ?_
  refine qr_putf (kf := 41) o cf_X12 (sh77 j r) rfl (Nat.le_of_ble_eq_true rfl) fl_X12_347 rfl (by decide +kernel) (q_dm dm_X12_daysGo 14 rfl) ?_
  refine qr_letm (fun m5 => ?_)
  refine qr_aload_n o (q_dm dm_X12_daysGo 15 rfl) rfl ?_
  refine qr_bipush o (q_dm dm_X12_daysGo 16 rfl) bi_m2 ?_
  refine qr_putf (kf := 42) o cf_X12 (sh77 j r) rfl (Nat.le_of_ble_eq_true rfl) fl_X12_350 rfl (by decide +kernel) (q_dm dm_X12_daysGo 17 rfl) ?_
  refine qr_letm (fun m6 => ?_)
  refine qr_iconst o (q_dm dm_X12_daysGo 18 rfl) ic_0 ?_
  refine qs_istore_n (L' := [some (.inr (some 77)), some (.inl a1), some (.inl (0 : Int32)), none]) o (q_dm dm_X12_daysGo 19 rfl) (Nat.le_of_ble_eq_true rfl) rfl ?_
  exact qr_loc (q_leS (q_leS (q_leS (q_leN q_le0)))) (w_X12_daysGo_35 n j r hj hr o n a1 (0 : Int32) m6)

theorem a_X12_daysGo (g : qG) (l : Launch) (n : Nat) (j r : Nat) (hj : q_isLaw j) (hr : q_isLaw r) (a1 : Int32) (M : qM) : qAM g l 6 zX12_daysGo (qL j r) [.inr (some 77), .inl a1] (qL j r, M) (f_X12_daysGo n a1 M) :=
  qAM.of zv_X12_daysGo.1 (by show 2 ≤ 4; decide) (fun k hk o => w_X12_daysGo n j r hj hr o a1 M)
def tb_X12_days : List (Nat × Instr × Nat) := [(0, (.iload_n 1, 1)), (1, (.iconst 1, 1)), (2, (.bipush 60, 2)), (4, (.invokestatic 153, 3)), (7, (.ifCond .ne 5, 3)), (10, (.iconst (-1), 1)), (11, (.ireturn, 1)), (12, (.aload_n 0, 1)), (13, (.iload_n 1, 1)), (14, (.invokevirtual 359, 3)), (17, (.aload_n 0, 1)), (18, (.getfield 341, 3)), (21, (.ireturn, 1))]
theorem dm_X12_days : ∀ q ∈ tb_X12_days, decode zX12_days.2.1 q.1 = .ok q.2 := by decide +kernel
def f_X12_days (n : Nat) (a1 : Int32) (M : qM) : qR :=
  qc (f_X12_in n a1 (1 : Int32) (60 : Int32) M) (fun r1 m2 => (if r1 = (0 : Int32) then some ((-1 : Int32), m2) else qc (f_X12_daysGo n a1 m2) (fun _ m3 => some ((m3 77 38), m3))))
set_option maxRecDepth 4000 in
theorem w_X12_days {g : qG} {k : qK} (n : Nat) (j r : Nat) (hj : q_isLaw j) (hr : q_isLaw r) (o : qOk g 7 zX12_days k) (a1 : Int32) (M : qM) : qAE g k zX12_days (qL j r) 0 [some (.inr (some 77)), some (.inl a1)] [] (qL j r, M) (f_X12_days n a1 M) := by
  unfold f_X12_days
  refine qr_iload_n o (q_dm dm_X12_days 0 rfl) rfl ?_
  refine qr_iconst o (q_dm dm_X12_days 1 rfl) ic_1 ?_
  refine qr_bipush o (q_dm dm_X12_days 2 rfl) bi_60 ?_
  refine qr_calls_i (As := [.inl a1, .inl (1 : Int32), .inl (60 : Int32)]) (S := []) o (a_X12_in g k.2.1 n j r hj hr a1 (1 : Int32) (60 : Int32) M) (Nat.le_of_ble_eq_true rfl) zs_X12_in rfl ml_X12_153 (Nat.le_of_ble_eq_true rfl) (q_dm dm_X12_days 3 rfl) (fun r1 m2 => ?_)
  refine qr_if_ne (tgt := 12) o (q_dm dm_X12_days 4 rfl) (by decide) ?_ ?_
  · refine qr_aload_n o (q_dm dm_X12_days 7 rfl) rfl ?_
    refine qr_iload_n o (q_dm dm_X12_days 8 rfl) rfl ?_
    refine qr_callv_v (As := [.inl a1]) (S := []) o (a_X12_daysGo g k.2.1 n j r hj hr a1 m2) (Nat.le_of_ble_eq_true rfl) zv_X12_daysGo rfl cf_X12 (sh77 j r) ml_X12_359 (Nat.le_of_ble_eq_true rfl) (q_dm dm_X12_days 9 rfl) (fun _ m3 => ?_)
    refine qr_aload_n o (q_dm dm_X12_days 10 rfl) rfl ?_
    refine qr_getf (kf := 38) o cf_X12 (sh77 j r) rfl (Nat.le_of_ble_eq_true rfl) fl_X12_341 (q_dm dm_X12_days 11 rfl) ?_
    exact qr_iret o rfl rfl (q_dm dm_X12_days 12 rfl)
  · refine qr_iconst o (q_dm dm_X12_days 5 rfl) ic_m1 ?_
    exact qr_iret o rfl rfl (q_dm dm_X12_days 6 rfl)

theorem a_X12_days (g : qG) (l : Launch) (n : Nat) (j r : Nat) (hj : q_isLaw j) (hr : q_isLaw r) (a1 : Int32) (M : qM) : qAM g l 7 zX12_days (qL j r) [.inr (some 77), .inl a1] (qL j r, M) (f_X12_days n a1 M) :=
  qAM.of zv_X12_days.1 (by show 2 ≤ 2; decide) (fun k hk o => w_X12_days n j r hj hr o a1 M)
def tb_X12_endsPiece : List (Nat × Instr × Nat) := [(0, (.aload_n 0, 1)), (1, (.invokevirtual 202, 3)), (4, (.bipush 10, 2)), (6, (.if_icmp .ne 33, 3)), (9, (.aload_n 0, 1)), (10, (.bipush 10, 2)), (12, (.iconst 0, 1)), (13, (.invokevirtual 205, 3)), (16, (.aload_n 0, 1)), (17, (.aload_n 0, 1)), (18, (.getfield 199, 3)), (21, (.iconst 1, 1)), (22, (.isub, 1)), (23, (.putfield 199, 3)), (26, (.aload_n 0, 1)), (27, (.aload_n 0, 1)), (28, (.getfield 196, 3)), (31, (.iconst 1, 1)), (32, (.isub, 1)), (33, (.putfield 196, 3)), (36, (.goto (-36), 3)), (39, (.return_, 1))]
theorem dm_X12_endsPiece : ∀ q ∈ tb_X12_endsPiece, decode zX12_endsPiece.2.1 q.1 = .ok q.2 := by decide +kernel
def b_X12_endsPiece_0 (n : Nat) (K0 : qM → qR) (M : qM) : qR :=
  qc (f_X12_waitTop n  M) (fun r1 m2 => (if r1 = (10 : Int32) then qc (f_X12_notes n (10 : Int32) (0 : Int32) m2) (fun _ m3 => qlm (mu m3 77 15 ((m3 77 15) - (1 : Int32))) (fun m4 => qlm (mu m4 77 13 ((m4 77 13) - (1 : Int32))) (fun m5 => K0  m5))) else some (0, m2)))
set_option maxRecDepth 4000 in
theorem wb_X12_endsPiece_0 {g : qG} {k : qK} (n : Nat) (j r : Nat) (hj : q_isLaw j) (hr : q_isLaw r) (o : qOk g 1 zX12_endsPiece k) (K0 : qM → qR) (hK0 : ∀ (M : qM), qAE g k zX12_endsPiece (qL j r) 0 [some (.inr (some 77))] [] (qL j r, M) (K0  M)) (M : qM) : qAE g k zX12_endsPiece (qL j r) 0 [some (.inr (some 77))] [] (qL j r, M) (b_X12_endsPiece_0 n K0  M) := by
  unfold b_X12_endsPiece_0
  refine qr_aload_n o (q_dm dm_X12_endsPiece 0 rfl) rfl ?_
  refine qr_callv_i (As := []) (S := []) o (a_X12_waitTop g k.2.1 n j r hj hr  M) (Nat.le_of_ble_eq_true rfl) zv_X12_waitTop rfl cf_X12 (sh77 j r) ml_X12_202 (Nat.le_of_ble_eq_true rfl) (q_dm dm_X12_endsPiece 1 rfl) (fun r1 m2 => ?_)
  refine qr_bipush o (q_dm dm_X12_endsPiece 2 rfl) bi_10 ?_
  refine qr_icmp_ne (tgt := 39) o (q_dm dm_X12_endsPiece 3 rfl) (by decide) ?_ ?_
  · exact qr_vret o rfl (q_dm dm_X12_endsPiece 21 rfl)
  · refine qr_aload_n o (q_dm dm_X12_endsPiece 4 rfl) rfl ?_
    refine qr_bipush o (q_dm dm_X12_endsPiece 5 rfl) bi_10 ?_
    refine qr_iconst o (q_dm dm_X12_endsPiece 6 rfl) ic_0 ?_
    refine qr_callv_v (As := [.inl (10 : Int32), .inl (0 : Int32)]) (S := []) o (a_X12_notes g k.2.1 n j r hj hr (10 : Int32) (0 : Int32) m2) (Nat.le_of_ble_eq_true rfl) zv_X12_notes rfl cf_X12 (sh77 j r) ml_X12_205 (Nat.le_of_ble_eq_true rfl) (q_dm dm_X12_endsPiece 7 rfl) (fun _ m3 => ?_)
    refine qr_aload_n o (q_dm dm_X12_endsPiece 8 rfl) rfl ?_
    refine qr_aload_n o (q_dm dm_X12_endsPiece 9 rfl) rfl ?_
    refine qr_getf (kf := 15) o cf_X12 (sh77 j r) rfl (Nat.le_of_ble_eq_true rfl) fl_X12_199 (q_dm dm_X12_endsPiece 10 rfl) ?_
    refine qr_iconst o (q_dm dm_X12_endsPiece 11 rfl) ic_1 ?_
    refine qr_isub o (q_dm dm_X12_endsPiece 12 rfl) ?_
    refine qr_putf (kf := 15) o cf_X12 (sh77 j r) rfl (Nat.le_of_ble_eq_true rfl) fl_X12_199 rfl (by decide +kernel) (q_dm dm_X12_endsPiece 13 rfl) ?_
    refine qr_letm (fun m4 => ?_)
    refine qr_aload_n o (q_dm dm_X12_endsPiece 14 rfl) rfl ?_
    refine qr_aload_n o (q_dm dm_X12_endsPiece 15 rfl) rfl ?_
    refine qr_getf (kf := 13) o cf_X12 (sh77 j r) rfl (Nat.le_of_ble_eq_true rfl) fl_X12_196 (q_dm dm_X12_endsPiece 16 rfl) ?_
    refine qr_iconst o (q_dm dm_X12_endsPiece 17 rfl) ic_1 ?_
    refine qr_isub o (q_dm dm_X12_endsPiece 18 rfl) ?_
    refine qr_putf (kf := 13) o cf_X12 (sh77 j r) rfl (Nat.le_of_ble_eq_true rfl) fl_X12_196 rfl (by decide +kernel) (q_dm dm_X12_endsPiece 19 rfl) ?_
    refine qr_letm (fun m5 => ?_)
    refine qr_goto (tgt := 0) o (q_dm dm_X12_endsPiece 20 rfl) (by decide) ?_
    exact qr_loc (q_leS q_le0) (hK0  m5)

def f_X12_endsPiece_0 (n : Nat) : Nat → qM → qR
  | 0, _ => none
  | m + 1, M => b_X12_endsPiece_0 n (f_X12_endsPiece_0 n m)  M
theorem w_X12_endsPiece_0 {g : qG} {k : qK} (n : Nat) (j r : Nat) (hj : q_isLaw j) (hr : q_isLaw r) (o : qOk g 1 zX12_endsPiece k) : ∀ (m : Nat) (M : qM), qAE g k zX12_endsPiece (qL j r) 0 [some (.inr (some 77))] [] (qL j r, M) (f_X12_endsPiece_0 n m  M) := by
  intro m
  induction m with
  | zero =>
    intro  M
    exact qr_none
  | succ m ih =>
    intro  M
    exact wb_X12_endsPiece_0 n j r hj hr o (f_X12_endsPiece_0 n m) ih  M
def f_X12_endsPiece (n : Nat) (M : qM) : qR :=
  f_X12_endsPiece_0 n n  M
set_option maxRecDepth 4000 in
theorem w_X12_endsPiece {g : qG} {k : qK} (n : Nat) (j r : Nat) (hj : q_isLaw j) (hr : q_isLaw r) (o : qOk g 1 zX12_endsPiece k) (M : qM) : qAE g k zX12_endsPiece (qL j r) 0 [some (.inr (some 77))] [] (qL j r, M) (f_X12_endsPiece n  M) := by
  unfold f_X12_endsPiece
  exact qr_loc (q_leS q_le0) (w_X12_endsPiece_0 n j r hj hr o n  M)

theorem a_X12_endsPiece (g : qG) (l : Launch) (n : Nat) (j r : Nat) (hj : q_isLaw j) (hr : q_isLaw r) (M : qM) : qAM g l 1 zX12_endsPiece (qL j r) [.inr (some 77)] (qL j r, M) (f_X12_endsPiece n  M) :=
  qAM.of zv_X12_endsPiece.1 (by show 1 ≤ 1; decide) (fun k hk o => w_X12_endsPiece n j r hj hr o  M)
def tb_X12_here : List (Nat × Instr × Nat) := [(0, (.aload_n 0, 1)), (1, (.getfield 169, 3)), (4, (.aload_n 0, 1)), (5, (.getfield 172, 3)), (8, (.if_icmp .ge 19, 3)), (11, (.aload_n 0, 1)), (12, (.getfield 28, 3)), (15, (.aload_n 0, 1)), (16, (.getfield 169, 3)), (19, (.baload, 1)), (20, (.sipush 255, 3)), (23, (.iand, 1)), (24, (.goto 4, 3)), (27, (.iconst (-1), 1)), (28, (.ireturn, 1))]
theorem dm_X12_here : ∀ q ∈ tb_X12_here, decode zX12_here.2.1 q.1 = .ok q.2 := by decide +kernel
def f_X12_here (n : Nat) (M : qM) : qR :=
  (if (M 77 10) ≤ (M 77 9) then some ((-1 : Int32), M) else qg (M 77 9) 260 (some (((M 84 (M 77 9).toNatClampNeg) &&& (255 : Int32)), M)))
set_option maxRecDepth 4000 in
theorem w_X12_here {g : qG} {k : qK} (n : Nat) (j r : Nat) (hj : q_isLaw j) (hr : q_isLaw r) (o : qOk g 0 zX12_here k) (M : qM) : qAE g k zX12_here (qL j r) 0 [some (.inr (some 77))] [] (qL j r, M) (f_X12_here n  M) := by
  unfold f_X12_here
  refine qr_aload_n o (q_dm dm_X12_here 0 rfl) rfl ?_
  refine qr_getf (kf := 9) o cf_X12 (sh77 j r) rfl (Nat.le_of_ble_eq_true rfl) fl_X12_169 (q_dm dm_X12_here 1 rfl) ?_
  refine qr_aload_n o (q_dm dm_X12_here 2 rfl) rfl ?_
  refine qr_getf (kf := 10) o cf_X12 (sh77 j r) rfl (Nat.le_of_ble_eq_true rfl) fl_X12_172 (q_dm dm_X12_here 3 rfl) ?_
  refine qr_icmp_ge (tgt := 27) o (q_dm dm_X12_here 4 rfl) (by decide) ?_ ?_
  · refine qr_iconst o (q_dm dm_X12_here 13 rfl) ic_m1 ?_
    exact qr_iret o rfl rfl (q_dm dm_X12_here 14 rfl)
  · refine qr_aload_n o (q_dm dm_X12_here 5 rfl) rfl ?_
    refine qr_getr (kf := 7) o cf_X12 (sh77 j r) rfl (Nat.le_of_ble_eq_true rfl) fl_X12_28 (q_dm dm_X12_here 6 rfl) ?_
    refine qr_aload_n o (q_dm dm_X12_here 7 rfl) rfl ?_
    refine qr_getf (kf := 9) o cf_X12 (sh77 j r) rfl (Nat.le_of_ble_eq_true rfl) fl_X12_169 (q_dm dm_X12_here 8 rfl) ?_
    refine qr_bald o (sh84 j r) (q_dm dm_X12_here 9 rfl) ?_
    refine qr_sipush o (q_dm dm_X12_here 10 rfl) si_255 ?_
    refine qr_iand o (q_dm dm_X12_here 11 rfl) ?_
    refine qr_goto (tgt := 28) o (q_dm dm_X12_here 12 rfl) (by decide) ?_
    exact qr_iret o rfl rfl (q_dm dm_X12_here 14 rfl)

theorem a_X12_here (g : qG) (l : Launch) (n : Nat) (j r : Nat) (hj : q_isLaw j) (hr : q_isLaw r) (M : qM) : qAM g l 0 zX12_here (qL j r) [.inr (some 77)] (qL j r, M) (f_X12_here n  M) :=
  qAM.of zv_X12_here.1 (by show 1 ≤ 1; decide) (fun k hk o => w_X12_here n j r hj hr o  M)
def tb_X12_wrongAt : List (Nat × Instr × Nat) := [(0, (.aload_n 0, 1)), (1, (.sipush (-1000), 3)), (4, (.iload_n 1, 1)), (5, (.imul, 1)), (6, (.iload_n 2, 1)), (7, (.isub, 1)), (8, (.putfield 179, 3)), (11, (.iconst 0, 1)), (12, (.ireturn, 1))]
theorem dm_X12_wrongAt : ∀ q ∈ tb_X12_wrongAt, decode zX12_wrongAt.2.1 q.1 = .ok q.2 := by decide +kernel
def f_X12_wrongAt (n : Nat) (a1 a2 : Int32) (M : qM) : qR :=
  qlm (mu M 77 11 (((-1000 : Int32) * a1) - a2)) (fun m1 => some ((0 : Int32), m1))
set_option maxRecDepth 4000 in
theorem w_X12_wrongAt {g : qG} {k : qK} (n : Nat) (j r : Nat) (hj : q_isLaw j) (hr : q_isLaw r) (o : qOk g 0 zX12_wrongAt k) (a1 a2 : Int32) (M : qM) : qAE g k zX12_wrongAt (qL j r) 0 [some (.inr (some 77)), some (.inl a1), some (.inl a2)] [] (qL j r, M) (f_X12_wrongAt n a1 a2 M) := by
  unfold f_X12_wrongAt
  refine qr_aload_n o (q_dm dm_X12_wrongAt 0 rfl) rfl ?_
  refine qr_sipush o (q_dm dm_X12_wrongAt 1 rfl) si_m1000 ?_
  refine qr_iload_n o (q_dm dm_X12_wrongAt 2 rfl) rfl ?_
  refine qr_imul o (q_dm dm_X12_wrongAt 3 rfl) ?_
  refine qr_iload_n o (q_dm dm_X12_wrongAt 4 rfl) rfl ?_
  refine qr_isub o (q_dm dm_X12_wrongAt 5 rfl) ?_
  refine qr_putf (kf := 11) o cf_X12 (sh77 j r) rfl (Nat.le_of_ble_eq_true rfl) fl_X12_179 rfl (by decide +kernel) (q_dm dm_X12_wrongAt 6 rfl) ?_
  refine qr_letm (fun m1 => ?_)
  refine qr_iconst o (q_dm dm_X12_wrongAt 7 rfl) ic_0 ?_
  exact qr_iret o rfl (by decide) (q_dm dm_X12_wrongAt 8 rfl)

theorem a_X12_wrongAt (g : qG) (l : Launch) (n : Nat) (j r : Nat) (hj : q_isLaw j) (hr : q_isLaw r) (a1 a2 : Int32) (M : qM) : qAM g l 0 zX12_wrongAt (qL j r) [.inr (some 77), .inl a1, .inl a2] (qL j r, M) (f_X12_wrongAt n a1 a2 M) :=
  qAM.of zv_X12_wrongAt.1 (by show 3 ≤ 3; decide) (fun k hk o => w_X12_wrongAt n j r hj hr o a1 a2 M)
