def tb_X12_isClause : List (Nat × Instr × Nat) := [(0, (.iload_n 0, 1)), (1, (.bipush 97, 2)), (3, (.if_icmp .eq 21, 3)), (6, (.iload_n 0, 1)), (7, (.bipush 118, 2)), (9, (.if_icmp .eq 15, 3)), (12, (.iload_n 0, 1)), (13, (.bipush 102, 2)), (15, (.if_icmp .eq 9, 3)), (18, (.iload_n 0, 1)), (19, (.bipush 99, 2)), (21, (.if_icmp .ne 7, 3)), (24, (.iconst 1, 1)), (25, (.goto 4, 3)), (28, (.iconst 0, 1)), (29, (.ireturn, 1))]
theorem dm_X12_isClause : ∀ q ∈ tb_X12_isClause, decode zX12_isClause.2.1 q.1 = .ok q.2 := by decide +kernel
def f_X12_isClause (n : Nat) (a0 : Int32) (M : qM) : qR :=
  (if a0 = (97 : Int32) then some ((1 : Int32), M) else (if a0 = (118 : Int32) then some ((1 : Int32), M) else (if a0 = (102 : Int32) then some ((1 : Int32), M) else (if a0 = (99 : Int32) then some ((1 : Int32), M) else some ((0 : Int32), M)))))
set_option maxRecDepth 4000 in
theorem w_X12_isClause {g : qG} {k : qK} (n : Nat) (j r : Nat) (hj : q_isLaw j) (hr : q_isLaw r) (o : qOk g 0 zX12_isClause k) (a0 : Int32) (M : qM) : qAE g k zX12_isClause (qL j r) 0 [some (.inl a0)] [] (qL j r, M) (f_X12_isClause n a0 M) := by
  unfold f_X12_isClause
  refine qr_iload_n o (q_dm dm_X12_isClause 0 rfl) rfl ?_
  refine qr_bipush o (q_dm dm_X12_isClause 1 rfl) bi_97 ?_
  refine qr_icmp_eq (tgt := 24) o (q_dm dm_X12_isClause 2 rfl) (by decide) ?_ ?_
  · refine qr_iconst o (q_dm dm_X12_isClause 12 rfl) ic_1 ?_
    refine qr_goto (tgt := 29) o (q_dm dm_X12_isClause 13 rfl) (by decide) ?_
    exact qr_iret o rfl (by decide) (q_dm dm_X12_isClause 15 rfl)
  · refine qr_iload_n o (q_dm dm_X12_isClause 3 rfl) rfl ?_
    refine qr_bipush o (q_dm dm_X12_isClause 4 rfl) bi_118 ?_
    refine qr_icmp_eq (tgt := 24) o (q_dm dm_X12_isClause 5 rfl) (by decide) ?_ ?_
    · refine qr_iconst o (q_dm dm_X12_isClause 12 rfl) ic_1 ?_
      refine qr_goto (tgt := 29) o (q_dm dm_X12_isClause 13 rfl) (by decide) ?_
      exact qr_iret o rfl (by decide) (q_dm dm_X12_isClause 15 rfl)
    · refine qr_iload_n o (q_dm dm_X12_isClause 6 rfl) rfl ?_
      refine qr_bipush o (q_dm dm_X12_isClause 7 rfl) bi_102 ?_
      refine qr_icmp_eq (tgt := 24) o (q_dm dm_X12_isClause 8 rfl) (by decide) ?_ ?_
      · refine qr_iconst o (q_dm dm_X12_isClause 12 rfl) ic_1 ?_
        refine qr_goto (tgt := 29) o (q_dm dm_X12_isClause 13 rfl) (by decide) ?_
        exact qr_iret o rfl (by decide) (q_dm dm_X12_isClause 15 rfl)
      · refine qr_iload_n o (q_dm dm_X12_isClause 9 rfl) rfl ?_
        refine qr_bipush o (q_dm dm_X12_isClause 10 rfl) bi_99 ?_
        refine qr_icmp_ne (tgt := 28) o (q_dm dm_X12_isClause 11 rfl) (by decide) ?_ ?_
        · refine qr_iconst o (q_dm dm_X12_isClause 14 rfl) ic_0 ?_
          exact qr_iret o rfl (by decide) (q_dm dm_X12_isClause 15 rfl)
        · refine qr_iconst o (q_dm dm_X12_isClause 12 rfl) ic_1 ?_
          refine qr_goto (tgt := 29) o (q_dm dm_X12_isClause 13 rfl) (by decide) ?_
          exact qr_iret o rfl (by decide) (q_dm dm_X12_isClause 15 rfl)

theorem a_X12_isClause (g : qG) (l : Launch) (n : Nat) (j r : Nat) (hj : q_isLaw j) (hr : q_isLaw r) (a0 : Int32) (M : qM) : qAM g l 0 zX12_isClause (qL j r) [.inl a0] (qL j r, M) (f_X12_isClause n a0 M) :=
  qAM.of zs_X12_isClause.1 (by show 1 ≤ 1; decide) (fun k hk o => w_X12_isClause n j r hj hr o a0 M)
def tb_X12_isDigit : List (Nat × Instr × Nat) := [(0, (.aload_n 0, 1)), (1, (.invokevirtual 175, 3)), (4, (.bipush 48, 2)), (6, (.if_icmp .lt 16, 3)), (9, (.aload_n 0, 1)), (10, (.invokevirtual 175, 3)), (13, (.bipush 57, 2)), (15, (.if_icmp .gt 7, 3)), (18, (.iconst 1, 1)), (19, (.goto 4, 3)), (22, (.iconst 0, 1)), (23, (.ireturn, 1))]
theorem dm_X12_isDigit : ∀ q ∈ tb_X12_isDigit, decode zX12_isDigit.2.1 q.1 = .ok q.2 := by decide +kernel
def f_X12_isDigit (n : Nat) (M : qM) : qR :=
  qc (f_X12_here n  M) (fun r1 m2 => (if r1 < (48 : Int32) then some ((0 : Int32), m2) else qc (f_X12_here n  m2) (fun r3 m4 => (if (57 : Int32) < r3 then some ((0 : Int32), m4) else some ((1 : Int32), m4)))))
set_option maxRecDepth 4000 in
theorem w_X12_isDigit {g : qG} {k : qK} (n : Nat) (j r : Nat) (hj : q_isLaw j) (hr : q_isLaw r) (o : qOk g 1 zX12_isDigit k) (M : qM) : qAE g k zX12_isDigit (qL j r) 0 [some (.inr (some 77))] [] (qL j r, M) (f_X12_isDigit n  M) := by
  unfold f_X12_isDigit
  refine qr_aload_n o (q_dm dm_X12_isDigit 0 rfl) rfl ?_
  refine qr_callv_i (As := []) (S := []) o (a_X12_here g k.2.1 n j r hj hr  M) (Nat.le_of_ble_eq_true rfl) zv_X12_here rfl cf_X12 (sh77 j r) ml_X12_175 (Nat.le_of_ble_eq_true rfl) (q_dm dm_X12_isDigit 1 rfl) (fun r1 m2 => ?_)
  refine qr_bipush o (q_dm dm_X12_isDigit 2 rfl) bi_48 ?_
  refine qr_icmp_lt (tgt := 22) o (q_dm dm_X12_isDigit 3 rfl) (by decide) ?_ ?_
  · refine qr_iconst o (q_dm dm_X12_isDigit 10 rfl) ic_0 ?_
    exact qr_iret o rfl (by decide) (q_dm dm_X12_isDigit 11 rfl)
  · refine qr_aload_n o (q_dm dm_X12_isDigit 4 rfl) rfl ?_
    refine qr_callv_i (As := []) (S := []) o (a_X12_here g k.2.1 n j r hj hr  m2) (Nat.le_of_ble_eq_true rfl) zv_X12_here rfl cf_X12 (sh77 j r) ml_X12_175 (Nat.le_of_ble_eq_true rfl) (q_dm dm_X12_isDigit 5 rfl) (fun r3 m4 => ?_)
    refine qr_bipush o (q_dm dm_X12_isDigit 6 rfl) bi_57 ?_
    refine qr_icmp_gt (tgt := 22) o (q_dm dm_X12_isDigit 7 rfl) (by decide) ?_ ?_
    · refine qr_iconst o (q_dm dm_X12_isDigit 10 rfl) ic_0 ?_
      exact qr_iret o rfl (by decide) (q_dm dm_X12_isDigit 11 rfl)
    · refine qr_iconst o (q_dm dm_X12_isDigit 8 rfl) ic_1 ?_
      refine qr_goto (tgt := 23) o (q_dm dm_X12_isDigit 9 rfl) (by decide) ?_
      exact qr_iret o rfl (by decide) (q_dm dm_X12_isDigit 11 rfl)

theorem a_X12_isDigit (g : qG) (l : Launch) (n : Nat) (j r : Nat) (hj : q_isLaw j) (hr : q_isLaw r) (M : qM) : qAM g l 1 zX12_isDigit (qL j r) [.inr (some 77)] (qL j r, M) (f_X12_isDigit n  M) :=
  qAM.of zv_X12_isDigit.1 (by show 1 ≤ 1; decide) (fun k hk o => w_X12_isDigit n j r hj hr o  M)
def tb_X12_longestBy : List (Nat × Instr × Nat) := [(0, (.iconst 0, 1)), (1, (.istore_n 2, 1)), (2, (.iconst 0, 1)), (3, (.istore_n 3, 1)), (4, (.iload_n 3, 1)), (5, (.aload_n 0, 1)), (6, (.getfield 435, 3)), (9, (.if_icmp .ge 20, 3)), (12, (.iload_n 2, 1)), (13, (.aload_n 0, 1)), (14, (.iload_n 3, 1)), (15, (.iload_n 1, 1)), (16, (.invokevirtual 438, 3)), (19, (.invokestatic 441, 3)), (22, (.istore_n 2, 1)), (23, (.iinc 3 1, 3)), (26, (.goto (-22), 3)), (29, (.iload_n 2, 1)), (30, (.ireturn, 1))]
theorem dm_X12_longestBy : ∀ q ∈ tb_X12_longestBy, decode zX12_longestBy.2.1 q.1 = .ok q.2 := by decide +kernel
def b_X12_longestBy_4 (n : Nat) (K4 : Int32 → Int32 → Int32 → qM → qR) (a1 a2 a3 : Int32) (M : qM) : qR :=
  (if (M 77 60) ≤ a3 then some (a2, M) else qc (f_X12_hoursBy n a3 a1 M) (fun r1 m2 => qc (f_X12_max n a2 r1 m2) (fun r3 m4 => ql (a3 + (1 : Int32)) (fun x5 => K4 a1 r3 x5 m4))))
set_option maxRecDepth 4000 in
theorem wb_X12_longestBy_4 {g : qG} {k : qK} (n : Nat) (j r : Nat) (hj : q_isLaw j) (hr : q_isLaw r) (o : qOk g 5 zX12_longestBy k) (K4 : Int32 → Int32 → Int32 → qM → qR) (hK4 : ∀ (a1 a2 a3 : Int32) (M : qM), qAE g k zX12_longestBy (qL j r) 4 [some (.inr (some 77)), some (.inl a1), some (.inl a2), some (.inl a3)] [] (qL j r, M) (K4 a1 a2 a3 M)) (a1 a2 a3 : Int32) (M : qM) : qAE g k zX12_longestBy (qL j r) 4 [some (.inr (some 77)), some (.inl a1), some (.inl a2), some (.inl a3)] [] (qL j r, M) (b_X12_longestBy_4 n K4 a1 a2 a3 M) := by
  unfold b_X12_longestBy_4
  refine qr_iload_n o (q_dm dm_X12_longestBy 4 rfl) rfl ?_
  refine qr_aload_n o (q_dm dm_X12_longestBy 5 rfl) rfl ?_
  refine qr_getf (kf := 60) o cf_X12 (sh77 j r) rfl (Nat.le_of_ble_eq_true rfl) fl_X12_435 (q_dm dm_X12_longestBy 6 rfl) ?_
  refine qr_icmp_ge (tgt := 29) o (q_dm dm_X12_longestBy 7 rfl) (by decide) ?_ ?_
  · refine qr_iload_n o (q_dm dm_X12_longestBy 17 rfl) rfl ?_
    exact qr_iret o rfl rfl (q_dm dm_X12_longestBy 18 rfl)
  · refine qr_iload_n o (q_dm dm_X12_longestBy 8 rfl) rfl ?_
    refine qr_aload_n o (q_dm dm_X12_longestBy 9 rfl) rfl ?_
    refine qr_iload_n o (q_dm dm_X12_longestBy 10 rfl) rfl ?_
    refine qr_iload_n o (q_dm dm_X12_longestBy 11 rfl) rfl ?_
    refine qr_callv_i (As := [.inl a3, .inl a1]) (S := [.inl a2]) o (a_X12_hoursBy g k.2.1 n j r hj hr a3 a1 M) (Nat.le_of_ble_eq_true rfl) zv_X12_hoursBy rfl cf_X12 (sh77 j r) ml_X12_438 (Nat.le_of_ble_eq_true rfl) (q_dm dm_X12_longestBy 12 rfl) (fun r1 m2 => ?_)
    refine qr_calls_i (As := [.inl a2, .inl r1]) (S := []) o (a_X12_max g k.2.1 n j r hj hr a2 r1 m2) (Nat.le_of_ble_eq_true rfl) zs_X12_max rfl ml_X12_441 (Nat.le_of_ble_eq_true rfl) (q_dm dm_X12_longestBy 13 rfl) (fun r3 m4 => ?_)
    refine qs_istore_n (L' := [some (.inr (some 77)), some (.inl a1), some (.inl r3), some (.inl a3)]) o (q_dm dm_X12_longestBy 14 rfl) (Nat.le_of_ble_eq_true rfl) rfl ?_
    refine qs_iincl2 (L' := fun x5 => [some (.inr (some 77)), some (.inl a1), some (.inl r3), some (.inl x5)]) o (q_dm dm_X12_longestBy 15 rfl) rfl ic_1 (Nat.le_of_ble_eq_true rfl) (fun _ => rfl) (fun x5 => ?_)
    refine qr_goto (tgt := 4) o (q_dm dm_X12_longestBy 16 rfl) (by decide) ?_
    exact qr_loc (q_leS (q_leS (q_leS (q_leS q_le0)))) (hK4 a1 r3 x5 m4)

def f_X12_longestBy_4 (n : Nat) : Nat → Int32 → Int32 → Int32 → qM → qR
  | 0, _, _, _, _ => none
  | m + 1, a1, a2, a3, M => b_X12_longestBy_4 n (f_X12_longestBy_4 n m) a1 a2 a3 M
theorem w_X12_longestBy_4 {g : qG} {k : qK} (n : Nat) (j r : Nat) (hj : q_isLaw j) (hr : q_isLaw r) (o : qOk g 5 zX12_longestBy k) : ∀ (m : Nat) (a1 a2 a3 : Int32) (M : qM), qAE g k zX12_longestBy (qL j r) 4 [some (.inr (some 77)), some (.inl a1), some (.inl a2), some (.inl a3)] [] (qL j r, M) (f_X12_longestBy_4 n m a1 a2 a3 M) := by
  intro m
  induction m with
  | zero =>
    intro a1 a2 a3 M
    exact qr_none
  | succ m ih =>
    intro a1 a2 a3 M
    exact wb_X12_longestBy_4 n j r hj hr o (f_X12_longestBy_4 n m) ih a1 a2 a3 M
def f_X12_longestBy (n : Nat) (a1 : Int32) (M : qM) : qR :=
  f_X12_longestBy_4 n n a1 (0 : Int32) (0 : Int32) M
set_option maxRecDepth 4000 in
theorem w_X12_longestBy {g : qG} {k : qK} (n : Nat) (j r : Nat) (hj : q_isLaw j) (hr : q_isLaw r) (o : qOk g 5 zX12_longestBy k) (a1 : Int32) (M : qM) : qAE g k zX12_longestBy (qL j r) 0 [some (.inr (some 77)), some (.inl a1), none, none] [] (qL j r, M) (f_X12_longestBy n a1 M) := by
  unfold f_X12_longestBy
  refine qr_iconst o (q_dm dm_X12_longestBy 0 rfl) ic_0 ?_
  refine qs_istore_n (L' := [some (.inr (some 77)), some (.inl a1), some (.inl (0 : Int32)), none]) o (q_dm dm_X12_longestBy 1 rfl) (Nat.le_of_ble_eq_true rfl) rfl ?_
  refine qr_iconst o (q_dm dm_X12_longestBy 2 rfl) ic_0 ?_
  refine qs_istore_n (L' := [some (.inr (some 77)), some (.inl a1), some (.inl (0 : Int32)), some (.inl (0 : Int32))]) o (q_dm dm_X12_longestBy 3 rfl) (Nat.le_of_ble_eq_true rfl) rfl ?_
  exact qr_loc (q_leS (q_leS (q_leS (q_leS q_le0)))) (w_X12_longestBy_4 n j r hj hr o n a1 (0 : Int32) (0 : Int32) M)

theorem a_X12_longestBy (g : qG) (l : Launch) (n : Nat) (j r : Nat) (hj : q_isLaw j) (hr : q_isLaw r) (a1 : Int32) (M : qM) : qAM g l 5 zX12_longestBy (qL j r) [.inr (some 77), .inl a1] (qL j r, M) (f_X12_longestBy n a1 M) :=
  qAM.of zv_X12_longestBy.1 (by show 2 ≤ 4; decide) (fun k hk o => w_X12_longestBy n j r hj hr o a1 M)
def tb_X12_takesJobs : List (Nat × Instr × Nat) := [(0, (.aload_n 0, 1)), (1, (.iload_n 1, 1)), (2, (.putfield 423, 3)), (5, (.iconst 0, 1)), (6, (.istore_n 2, 1)), (7, (.iload_n 2, 1)), (8, (.iload_n 1, 1)), (9, (.if_icmp .ge 36, 3)), (12, (.aload_n 0, 1)), (13, (.getfield 112, 3)), (16, (.iload_n 2, 1)), (17, (.aload_n 0, 1)), (18, (.getfield 28, 3)), (21, (.iload_n 2, 1)), (22, (.baload, 1)), (23, (.iastore, 1)), (24, (.aload_n 0, 1)), (25, (.aload_n 0, 1)), (26, (.getfield 112, 3)), (29, (.iload_n 2, 1)), (30, (.iaload, 1)), (31, (.invokevirtual 157, 3)), (34, (.ifCond .ne 5, 3)), (37, (.iconst 0, 1)), (38, (.ireturn, 1)), (39, (.iinc 2 1, 3)), (42, (.goto (-35), 3)), (45, (.iconst 1, 1)), (46, (.ireturn, 1))]
theorem dm_X12_takesJobs : ∀ q ∈ tb_X12_takesJobs, decode zX12_takesJobs.2.1 q.1 = .ok q.2 := by decide +kernel
def b_X12_takesJobs_7 (n : Nat) (K7 : Int32 → Int32 → qM → qR) (a1 a2 : Int32) (M : qM) : qR :=
  (if a1 ≤ a2 then some ((1 : Int32), M) else qg a2 260 (qg a2 8 (qlm (mu M 111 a2.toNatClampNeg (M 84 a2.toNatClampNeg)) (fun m1 => qg a2 8 (qc (f_X12_isKind n (m1 111 a2.toNatClampNeg) m1) (fun r2 m3 => (if r2 = (0 : Int32) then some ((0 : Int32), m3) else ql (a2 + (1 : Int32)) (fun x4 => K7 a1 x4 m3))))))))
set_option maxRecDepth 4000 in
theorem wb_X12_takesJobs_7 {g : qG} {k : qK} (n : Nat) (j r : Nat) (hj : q_isLaw j) (hr : q_isLaw r) (o : qOk g 2 zX12_takesJobs k) (K7 : Int32 → Int32 → qM → qR) (hK7 : ∀ (a1 a2 : Int32) (M : qM), qAE g k zX12_takesJobs (qL j r) 7 [some (.inr (some 77)), some (.inl a1), some (.inl a2)] [] (qL j r, M) (K7 a1 a2 M)) (a1 a2 : Int32) (M : qM) : qAE g k zX12_takesJobs (qL j r) 7 [some (.inr (some 77)), some (.inl a1), some (.inl a2)] [] (qL j r, M) (b_X12_takesJobs_7 n K7 a1 a2 M) := by
  unfold b_X12_takesJobs_7
  refine qr_iload_n o (q_dm dm_X12_takesJobs 5 rfl) rfl ?_
  refine qr_iload_n o (q_dm dm_X12_takesJobs 6 rfl) rfl ?_
  refine qr_icmp_ge (tgt := 45) o (q_dm dm_X12_takesJobs 7 rfl) (by decide) ?_ ?_
  · refine qr_iconst o (q_dm dm_X12_takesJobs 27 rfl) ic_1 ?_
    exact qr_iret o rfl (by decide) (q_dm dm_X12_takesJobs 28 rfl)
  · refine qr_aload_n o (q_dm dm_X12_takesJobs 8 rfl) rfl ?_
    refine qr_getr (kf := 54) o cf_X12 (sh77 j r) rfl (Nat.le_of_ble_eq_true rfl) fl_X12_112 (q_dm dm_X12_takesJobs 9 rfl) ?_
    refine qr_iload_n o (q_dm dm_X12_takesJobs 10 rfl) rfl ?_
    refine qr_aload_n o (q_dm dm_X12_takesJobs 11 rfl) rfl ?_
    refine qr_getr (kf := 7) o cf_X12 (sh77 j r) rfl (Nat.le_of_ble_eq_true rfl) fl_X12_28 (q_dm dm_X12_takesJobs 12 rfl) ?_
    refine qr_iload_n o (q_dm dm_X12_takesJobs 13 rfl) rfl ?_
    refine qr_bald o (sh84 j r) (q_dm dm_X12_takesJobs 14 rfl) ?_
    refine qr_iast o (sh111 j r) (q_dm dm_X12_takesJobs 15 rfl) ?_
    refine qr_letm (fun m1 => ?_)
    refine qr_aload_n o (q_dm dm_X12_takesJobs 16 rfl) rfl ?_
    refine qr_aload_n o (q_dm dm_X12_takesJobs 17 rfl) rfl ?_
    refine qr_getr (kf := 54) o cf_X12 (sh77 j r) rfl (Nat.le_of_ble_eq_true rfl) fl_X12_112 (q_dm dm_X12_takesJobs 18 rfl) ?_
    refine qr_iload_n o (q_dm dm_X12_takesJobs 19 rfl) rfl ?_
    refine qr_iald o (sh111 j r) (q_dm dm_X12_takesJobs 20 rfl) ?_
    refine qr_callv_i (As := [.inl (m1 111 a2.toNatClampNeg)]) (S := []) o (a_X12_isKind g k.2.1 n j r hj hr (m1 111 a2.toNatClampNeg) m1) (Nat.le_of_ble_eq_true rfl) zv_X12_isKind rfl cf_X12 (sh77 j r) ml_X12_157 (Nat.le_of_ble_eq_true rfl) (q_dm dm_X12_takesJobs 21 rfl) (fun r2 m3 => ?_)
    refine qr_if_ne (tgt := 39) o (q_dm dm_X12_takesJobs 22 rfl) (by decide) ?_ ?_
    · refine qs_iincl2 (L' := fun x4 => [some (.inr (some 77)), some (.inl a1), some (.inl x4)]) o (q_dm dm_X12_takesJobs 25 rfl) rfl ic_1 (Nat.le_of_ble_eq_true rfl) (fun _ => rfl) (fun x4 => ?_)
      refine qr_goto (tgt := 7) o (q_dm dm_X12_takesJobs 26 rfl) (by decide) ?_
      exact qr_loc (q_leS (q_leS (q_leS q_le0))) (hK7 a1 x4 m3)
    · refine qr_iconst o (q_dm dm_X12_takesJobs 23 rfl) ic_0 ?_
      exact qr_iret o rfl (by decide) (q_dm dm_X12_takesJobs 24 rfl)

def f_X12_takesJobs_7 (n : Nat) : Nat → Int32 → Int32 → qM → qR
  | 0, _, _, _ => none
  | m + 1, a1, a2, M => b_X12_takesJobs_7 n (f_X12_takesJobs_7 n m) a1 a2 M
theorem w_X12_takesJobs_7 {g : qG} {k : qK} (n : Nat) (j r : Nat) (hj : q_isLaw j) (hr : q_isLaw r) (o : qOk g 2 zX12_takesJobs k) : ∀ (m : Nat) (a1 a2 : Int32) (M : qM), qAE g k zX12_takesJobs (qL j r) 7 [some (.inr (some 77)), some (.inl a1), some (.inl a2)] [] (qL j r, M) (f_X12_takesJobs_7 n m a1 a2 M) := by
  intro m
  induction m with
  | zero =>
    intro a1 a2 M
    exact qr_none
  | succ m ih =>
    intro a1 a2 M
    exact wb_X12_takesJobs_7 n j r hj hr o (f_X12_takesJobs_7 n m) ih a1 a2 M
def f_X12_takesJobs (n : Nat) (a1 : Int32) (M : qM) : qR :=
  qlm (mu M 77 59 a1) (fun m1 => f_X12_takesJobs_7 n n a1 (0 : Int32) m1)
set_option maxRecDepth 4000 in
theorem w_X12_takesJobs {g : qG} {k : qK} (n : Nat) (j r : Nat) (hj : q_isLaw j) (hr : q_isLaw r) (o : qOk g 2 zX12_takesJobs k) (a1 : Int32) (M : qM) : qAE g k zX12_takesJobs (qL j r) 0 [some (.inr (some 77)), some (.inl a1), none] [] (qL j r, M) (f_X12_takesJobs n a1 M) := by
  unfold f_X12_takesJobs
  refine qr_aload_n o (q_dm dm_X12_takesJobs 0 rfl) rfl ?_
  refine qr_iload_n o (q_dm dm_X12_takesJobs 1 rfl) rfl ?_
  refine qr_putf (kf := 59) o cf_X12 (sh77 j r) rfl (Nat.le_of_ble_eq_true rfl) fl_X12_423 rfl (by decide +kernel) (q_dm dm_X12_takesJobs 2 rfl) ?_
  refine qr_letm (fun m1 => ?_)
  refine qr_iconst o (q_dm dm_X12_takesJobs 3 rfl) ic_0 ?_
  refine qs_istore_n (L' := [some (.inr (some 77)), some (.inl a1), some (.inl (0 : Int32))]) o (q_dm dm_X12_takesJobs 4 rfl) (Nat.le_of_ble_eq_true rfl) rfl ?_
  exact qr_loc (q_leS (q_leS (q_leS q_le0))) (w_X12_takesJobs_7 n j r hj hr o n a1 (0 : Int32) m1)

theorem a_X12_takesJobs (g : qG) (l : Launch) (n : Nat) (j r : Nat) (hj : q_isLaw j) (hr : q_isLaw r) (a1 : Int32) (M : qM) : qAM g l 2 zX12_takesJobs (qL j r) [.inr (some 77), .inl a1] (qL j r, M) (f_X12_takesJobs n a1 M) :=
  qAM.of zv_X12_takesJobs.1 (by show 2 ≤ 3; decide) (fun k hk o => w_X12_takesJobs n j r hj hr o a1 M)
def tb_X12_jobs : List (Nat × Instr × Nat) := [(0, (.iload_n 1, 1)), (1, (.iconst 1, 1)), (2, (.bipush 8, 2)), (4, (.invokestatic 153, 3)), (7, (.ifCond .eq 11, 3)), (10, (.iload_n 1, 1)), (11, (.aload_n 0, 1)), (12, (.getfield 162, 3)), (15, (.if_icmp .le 5, 3)), (18, (.iconst (-1), 1)), (19, (.ireturn, 1)), (20, (.aload_n 0, 1)), (21, (.iconst 0, 1)), (22, (.putfield 162, 3)), (25, (.aload_n 0, 1)), (26, (.iload_n 1, 1)), (27, (.invokevirtual 444, 3)), (30, (.ifCond .ne 6, 3)), (33, (.bipush (-2), 2)), (35, (.ireturn, 1)), (36, (.iload_n 2, 1)), (37, (.iconst 1, 1)), (38, (.sipush 255, 3)), (41, (.invokestatic 153, 3)), (44, (.ifCond .eq 43, 3)), (47, (.iload_n 2, 1)), (48, (.aload_n 0, 1)), (49, (.getfield 7, 3)), (52, (.sipush 312, 3)), (55, (.iaload, 1)), (56, (.iconst (-1), 1)), (57, (.ixor, 1)), (58, (.iand, 1)), (59, (.ifCond .ne 28, 3)), (62, (.iload_n 2, 1)), (63, (.invokestatic 276, 3)), (66, (.iconst 3, 1)), (67, (.if_icmp .gt 20, 3)), (70, (.iload_n 3, 1)), (71, (.bipush 10, 2)), (73, (.if_icmp .eq 17, 3)), (76, (.iload_n 3, 1)), (77, (.iconst 0, 1)), (78, (.iload_n 1, 1)), (79, (.iconst 1, 1)), (80, (.isub, 1)), (81, (.invokestatic 153, 3)), (84, (.ifCond .ne 6, 3)), (87, (.bipush (-4), 2)), (89, (.ireturn, 1)), (90, (.aload_n 0, 1)), (91, (.iconst 0, 1)), (92, (.putfield 435, 3)), (95, (.iconst 0, 1)), (96, (.istore 4, 2)), (98, (.iload 4, 2)), (100, (.bipush 8, 2)), (102, (.if_icmp .ge 42, 3)), (105, (.iload_n 2, 1)), (106, (.iload 4, 2)), (108, (.invokestatic 149, 3)), (111, (.ifCond .ne 6, 3)), (114, (.goto 24, 3)), (117, (.aload_n 0, 1)), (118, (.getfield 115, 3)), (121, (.aload_n 0, 1)), (122, (.getfield 435, 3)), (125, (.iload 4, 2)), (127, (.iastore, 1)), (128, (.aload_n 0, 1)), (129, (.aload_n 0, 1)), (130, (.getfield 435, 3)), (133, (.iconst 1, 1)), (134, (.iadd, 1)), (135, (.putfield 435, 3)), (138, (.iinc 4 1, 3)), (141, (.goto (-43), 3)), (144, (.iconst 0, 1)), (145, (.istore 4, 2)), (147, (.iload 4, 2)), (149, (.bipush 12, 2)), (151, (.if_icmp .ge 81, 3)), (154, (.aload_n 0, 1)), (155, (.getfield 118, 3)), (158, (.iload 4, 2)), (160, (.iconst 0, 1)), (161, (.iastore, 1)), (162, (.iconst 0, 1)), (163, (.istore 5, 2)), (165, (.iload 5, 2)), (167, (.bipush 12, 2)), (169, (.if_icmp .ge 57, 3)), (172, (.aload_n 0, 1)), (173, (.iload 4, 2)), (175, (.invokevirtual 157, 3)), (178, (.ifCond .eq 42, 3)), (181, (.aload_n 0, 1)), (182, (.iload 5, 2)), (184, (.invokevirtual 157, 3)), (187, (.ifCond .eq 33, 3)), (190, (.aload_n 0, 1)), (191, (.iload 4, 2)), (193, (.iload 5, 2)), (195, (.invokevirtual 279, 3)), (198, (.ifCond .eq 22, 3)), (201, (.aload_n 0, 1)), (202, (.getfield 118, 3)), (205, (.iload 4, 2)), (207, (.aload_n 0, 1)), (208, (.getfield 118, 3)), (211, (.iload 4, 2)), (213, (.iaload, 1)), (214, (.iconst 1, 1)), (215, (.iload 5, 2)), (217, (.ishl, 1)), (218, (.ior, 1)), (219, (.iastore, 1)), (220, (.iinc 5 1, 3)), (223, (.goto (-58), 3)), (226, (.iinc 4 1, 3)), (229, (.goto (-82), 3)), (232, (.iconst 1, 1)), (233, (.istore 4, 2)), (235, (.iconst 0, 1)), (236, (.istore 5, 2)), (238, (.iload 5, 2)), (240, (.iload_n 1, 1)), (241, (.if_icmp .ge 18, 3)), (244, (.iload 4, 2)), (246, (.aload_n 0, 1)), (247, (.getfield 435, 3)), (250, (.imul, 1)), (251, (.istore 4, 2)), (253, (.iinc 5 1, 3)), (256, (.goto (-18), 3)), (259, (.iconst (-1), 1)), (260, (.istore 5, 2)), (262, (.ldc_w 398, 3)), (265, (.istore 6, 2)), (267, (.iconst 0, 1)), (268, (.istore 7, 2)), (270, (.iload 7, 2)), (272, (.iload 4, 2)), (274, (.if_icmp .ge 35, 3)), (277, (.aload_n 0, 1)), (278, (.iload 7, 2)), (280, (.invokevirtual 447, 3)), (283, (.istore 8, 2)), (285, (.iload 8, 2)), (287, (.iload 6, 2)), (289, (.if_icmp .lt 6, 3)), (292, (.goto 11, 3)), (295, (.iload 8, 2)), (297, (.istore 6, 2)), (299, (.iload 7, 2)), (301, (.istore 5, 2)), (303, (.iinc 7 1, 3)), (306, (.goto (-36), 3)), (309, (.iload 5, 2)), (311, (.iconst (-1), 1)), (312, (.if_icmp .ne 6, 3)), (315, (.bipush (-3), 2)), (317, (.ireturn, 1)), (318, (.iload_n 3, 1)), (319, (.bipush 10, 2)), (321, (.if_icmp .ne 8, 3)), (324, (.iload 6, 2)), (326, (.goto 15, 3)), (329, (.aload_n 0, 1)), (330, (.getfield 115, 3)), (333, (.aload_n 0, 1)), (334, (.iload 5, 2)), (336, (.iload_n 3, 1)), (337, (.invokevirtual 426, 3)), (340, (.iaload, 1)), (341, (.ireturn, 1))]
theorem dm_X12_jobs : ∀ q ∈ tb_X12_jobs, decode zX12_jobs.2.1 q.1 = .ok q.2 := by decide +kernel
def b_X12_jobs_270 (n : Nat) (K270 : Int32 → Int32 → Int32 → Int32 → Int32 → qM → qR) (a3 a4 a5 a6 a7 : Int32) (M : qM) : qR :=
  (if a4 ≤ a7 then (if a5 = (-1 : Int32) then some ((-3 : Int32), M) else (if a3 = (10 : Int32) then some (a6, M) else qc (f_X12_whoDoes n a5 a3 M) (fun r1 m2 => qg r1 3 (some ((m2 112 r1.toNatClampNeg), m2))))) else qc (f_X12_longestBy n a7 M) (fun r3 m4 => (if r3 < a6 then ql (a7 + (1 : Int32)) (fun x5 => K270 a3 a4 a7 r3 x5 m4) else ql (a7 + (1 : Int32)) (fun x6 => K270 a3 a4 a5 a6 x6 m4))))
set_option maxRecDepth 4000 in
theorem wb_X12_jobs_270 {g : qG} {k : qK} (n : Nat) (j r : Nat) (hj : q_isLaw j) (hr : q_isLaw r) (o : qOk g 6 zX12_jobs k) (K270 : Int32 → Int32 → Int32 → Int32 → Int32 → qM → qR) (hK270 : ∀ (a3 a4 a5 a6 a7 : Int32) (M : qM), qAE g k zX12_jobs (qL j r) 270 [some (.inr (some 77)), none, none, some (.inl a3), some (.inl a4), some (.inl a5), some (.inl a6), some (.inl a7), none] [] (qL j r, M) (K270 a3 a4 a5 a6 a7 M)) (a3 a4 a5 a6 a7 : Int32) (M : qM) : qAE g k zX12_jobs (qL j r) 270 [some (.inr (some 77)), none, none, some (.inl a3), some (.inl a4), some (.inl a5), some (.inl a6), some (.inl a7), none] [] (qL j r, M) (b_X12_jobs_270 n K270 a3 a4 a5 a6 a7 M) := by
  unfold b_X12_jobs_270
  refine qr_iload o (q_dm dm_X12_jobs 141 rfl) rfl ?_
  refine qr_iload o (q_dm dm_X12_jobs 142 rfl) rfl ?_
  refine qr_icmp_ge (tgt := 309) o (q_dm dm_X12_jobs 143 rfl) (by decide) ?_ ?_
  · refine qr_iload o (q_dm dm_X12_jobs 158 rfl) rfl ?_
    refine qr_iconst o (q_dm dm_X12_jobs 159 rfl) ic_m1 ?_
    refine qr_icmp_ne (tgt := 318) o (q_dm dm_X12_jobs 160 rfl) (by decide) ?_ ?_
    · refine qr_iload_n o (q_dm dm_X12_jobs 163 rfl) rfl ?_
      refine qr_bipush o (q_dm dm_X12_jobs 164 rfl) bi_10 ?_
      refine qr_icmp_ne (tgt := 329) o (q_dm dm_X12_jobs 165 rfl) (by decide) ?_ ?_
      · refine qr_aload_n o (q_dm dm_X12_jobs 168 rfl) rfl ?_
        refine qr_getr (kf := 55) o cf_X12 (sh77 j r) rfl (Nat.le_of_ble_eq_true rfl) fl_X12_115 (q_dm dm_X12_jobs 169 rfl) ?_
        refine qr_aload_n o (q_dm dm_X12_jobs 170 rfl) rfl ?_
        refine qr_iload o (q_dm dm_X12_jobs 171 rfl) rfl ?_
        refine qr_iload_n o (q_dm dm_X12_jobs 172 rfl) rfl ?_
        refine qr_callv_i (As := [.inl a5, .inl a3]) (S := [.inr (some 112)]) o (a_X12_whoDoes g k.2.1 n j r hj hr a5 a3 M) (Nat.le_of_ble_eq_true rfl) zv_X12_whoDoes rfl cf_X12 (sh77 j r) ml_X12_426 (Nat.le_of_ble_eq_true rfl) (q_dm dm_X12_jobs 173 rfl) (fun r1 m2 => ?_)
        refine qr_iald o (sh112 j r) (q_dm dm_X12_jobs 174 rfl) ?_
        exact qr_iret o rfl rfl (q_dm dm_X12_jobs 175 rfl)
      · refine qr_iload o (q_dm dm_X12_jobs 166 rfl) rfl ?_
        refine qr_goto (tgt := 341) o (q_dm dm_X12_jobs 167 rfl) (by decide) ?_
        exact qr_iret o rfl rfl (q_dm dm_X12_jobs 175 rfl)
    · refine qr_bipush o (q_dm dm_X12_jobs 161 rfl) bi_m3 ?_
      exact qr_iret o rfl rfl (q_dm dm_X12_jobs 162 rfl)
  · refine qr_aload_n o (q_dm dm_X12_jobs 144 rfl) rfl ?_
    refine qr_iload o (q_dm dm_X12_jobs 145 rfl) rfl ?_
    refine qr_callv_i (As := [.inl a7]) (S := []) o (a_X12_longestBy g k.2.1 n j r hj hr a7 M) (Nat.le_of_ble_eq_true rfl) zv_X12_longestBy rfl cf_X12 (sh77 j r) ml_X12_447 (Nat.le_of_ble_eq_true rfl) (q_dm dm_X12_jobs 146 rfl) (fun r3 m4 => ?_)
    refine qs_istore (L' := [some (.inr (some 77)), none, none, some (.inl a3), some (.inl a4), some (.inl a5), some (.inl a6), some (.inl a7), some (.inl r3)]) o (q_dm dm_X12_jobs 147 rfl) (Nat.le_of_ble_eq_true rfl) rfl ?_
    refine qr_iload o (q_dm dm_X12_jobs 148 rfl) rfl ?_
    refine qr_iload o (q_dm dm_X12_jobs 149 rfl) rfl ?_
    refine qr_icmp_lt (tgt := 295) o (q_dm dm_X12_jobs 150 rfl) (by decide) ?_ ?_
    · refine qr_iload o (q_dm dm_X12_jobs 152 rfl) rfl ?_
      refine qs_istore (L' := [some (.inr (some 77)), none, none, some (.inl a3), some (.inl a4), some (.inl a5), some (.inl r3), some (.inl a7), some (.inl r3)]) o (q_dm dm_X12_jobs 153 rfl) (Nat.le_of_ble_eq_true rfl) rfl ?_
      refine qr_iload o (q_dm dm_X12_jobs 154 rfl) rfl ?_
      refine qs_istore (L' := [some (.inr (some 77)), none, none, some (.inl a3), some (.inl a4), some (.inl a7), some (.inl r3), some (.inl a7), some (.inl r3)]) o (q_dm dm_X12_jobs 155 rfl) (Nat.le_of_ble_eq_true rfl) rfl ?_
      refine qs_iincl2 (L' := fun x5 => [some (.inr (some 77)), none, none, some (.inl a3), some (.inl a4), some (.inl a7), some (.inl r3), some (.inl x5), some (.inl r3)]) o (q_dm dm_X12_jobs 156 rfl) rfl ic_1 (Nat.le_of_ble_eq_true rfl) (fun _ => rfl) (fun x5 => ?_)
      refine qr_goto (tgt := 270) o (q_dm dm_X12_jobs 157 rfl) (by decide) ?_
      exact qr_loc (q_leS (q_leN (q_leN (q_leS (q_leS (q_leS (q_leS (q_leS (q_leN q_le0))))))))) (hK270 a3 a4 a7 r3 x5 m4)
    · refine qr_goto (tgt := 303) o (q_dm dm_X12_jobs 151 rfl) (by decide) ?_
      refine qs_iincl2 (L' := fun x6 => [some (.inr (some 77)), none, none, some (.inl a3), some (.inl a4), some (.inl a5), some (.inl a6), some (.inl x6), some (.inl r3)]) o (q_dm dm_X12_jobs 156 rfl) rfl ic_1 (Nat.le_of_ble_eq_true rfl) (fun _ => rfl) (fun x6 => ?_)
      refine qr_goto (tgt := 270) o (q_dm dm_X12_jobs 157 rfl) (by decide) ?_
      exact qr_loc (q_leS (q_leN (q_leN (q_leS (q_leS (q_leS (q_leS (q_leS (q_leN q_le0))))))))) (hK270 a3 a4 a5 a6 x6 m4)

def f_X12_jobs_270 (n : Nat) : Nat → Int32 → Int32 → Int32 → Int32 → Int32 → qM → qR
  | 0, _, _, _, _, _, _ => none
  | m + 1, a3, a4, a5, a6, a7, M => b_X12_jobs_270 n (f_X12_jobs_270 n m) a3 a4 a5 a6 a7 M
theorem w_X12_jobs_270 {g : qG} {k : qK} (n : Nat) (j r : Nat) (hj : q_isLaw j) (hr : q_isLaw r) (o : qOk g 6 zX12_jobs k) : ∀ (m : Nat) (a3 a4 a5 a6 a7 : Int32) (M : qM), qAE g k zX12_jobs (qL j r) 270 [some (.inr (some 77)), none, none, some (.inl a3), some (.inl a4), some (.inl a5), some (.inl a6), some (.inl a7), none] [] (qL j r, M) (f_X12_jobs_270 n m a3 a4 a5 a6 a7 M) := by
  intro m
  induction m with
  | zero =>
    intro a3 a4 a5 a6 a7 M
    exact qr_none
  | succ m ih =>
    intro a3 a4 a5 a6 a7 M
    exact wb_X12_jobs_270 n j r hj hr o (f_X12_jobs_270 n m) ih a3 a4 a5 a6 a7 M
def b_X12_jobs_238 (n : Nat) (K238 : Int32 → Int32 → Int32 → Int32 → qM → qR) (a1 a3 a4 a5 : Int32) (M : qM) : qR :=
  (if a1 ≤ a5 then f_X12_jobs_270 n n a3 a4 (-1 : Int32) (1000000000 : Int32) (0 : Int32) M else ql (a4 * (M 77 60)) (fun x1 => ql (a5 + (1 : Int32)) (fun x2 => K238 a1 a3 x1 x2 M)))
set_option maxRecDepth 4000 in
theorem wb_X12_jobs_238 {g : qG} {k : qK} (n : Nat) (j r : Nat) (hj : q_isLaw j) (hr : q_isLaw r) (o : qOk g 6 zX12_jobs k) (K238 : Int32 → Int32 → Int32 → Int32 → qM → qR) (hK238 : ∀ (a1 a3 a4 a5 : Int32) (M : qM), qAE g k zX12_jobs (qL j r) 238 [some (.inr (some 77)), some (.inl a1), none, some (.inl a3), some (.inl a4), some (.inl a5), none, none, none] [] (qL j r, M) (K238 a1 a3 a4 a5 M)) (a1 a3 a4 a5 : Int32) (M : qM) : qAE g k zX12_jobs (qL j r) 238 [some (.inr (some 77)), some (.inl a1), none, some (.inl a3), some (.inl a4), some (.inl a5), none, none, none] [] (qL j r, M) (b_X12_jobs_238 n K238 a1 a3 a4 a5 M) := by
  unfold b_X12_jobs_238
  refine qr_iload o (q_dm dm_X12_jobs 125 rfl) rfl ?_
  refine qr_iload_n o (q_dm dm_X12_jobs 126 rfl) rfl ?_
  refine qr_icmp_ge (tgt := 259) o (q_dm dm_X12_jobs 127 rfl) (by decide) ?_ ?_
  · refine qr_iconst o (q_dm dm_X12_jobs 135 rfl) ic_m1 ?_
    refine qs_istore (L' := [some (.inr (some 77)), some (.inl a1), none, some (.inl a3), some (.inl a4), some (.inl (-1 : Int32)), none, none, none]) o (q_dm dm_X12_jobs 136 rfl) (Nat.le_of_ble_eq_true rfl) rfl ?_
    refine qr_ldc_w o (q_dm dm_X12_jobs 137 rfl) kc_X12_398 ?_
    refine qs_istore (L' := [some (.inr (some 77)), some (.inl a1), none, some (.inl a3), some (.inl a4), some (.inl (-1 : Int32)), some (.inl (1000000000 : Int32)), none, none]) o (q_dm dm_X12_jobs 138 rfl) (Nat.le_of_ble_eq_true rfl) rfl ?_
    refine qr_iconst o (q_dm dm_X12_jobs 139 rfl) ic_0 ?_
    refine qs_istore (L' := [some (.inr (some 77)), some (.inl a1), none, some (.inl a3), some (.inl a4), some (.inl (-1 : Int32)), some (.inl (1000000000 : Int32)), some (.inl (0 : Int32)), none]) o (q_dm dm_X12_jobs 140 rfl) (Nat.le_of_ble_eq_true rfl) rfl ?_
    exact qr_loc (q_leS (q_leN (q_leN (q_leS (q_leS (q_leS (q_leS (q_leS (q_leN q_le0))))))))) (w_X12_jobs_270 n j r hj hr o n a3 a4 (-1 : Int32) (1000000000 : Int32) (0 : Int32) M)
  · refine qr_iload o (q_dm dm_X12_jobs 128 rfl) rfl ?_
    refine qr_aload_n o (q_dm dm_X12_jobs 129 rfl) rfl ?_
    refine qr_getf (kf := 60) o cf_X12 (sh77 j r) rfl (Nat.le_of_ble_eq_true rfl) fl_X12_435 (q_dm dm_X12_jobs 130 rfl) ?_
    refine qr_imul o (q_dm dm_X12_jobs 131 rfl) ?_
    refine qr_lt (fun x1 => ?_)
    refine qs_istore (L' := [some (.inr (some 77)), some (.inl a1), none, some (.inl a3), some (.inl x1), some (.inl a5), none, none, none]) o (q_dm dm_X12_jobs 132 rfl) (Nat.le_of_ble_eq_true rfl) rfl ?_
    refine qs_iincl2 (L' := fun x2 => [some (.inr (some 77)), some (.inl a1), none, some (.inl a3), some (.inl x1), some (.inl x2), none, none, none]) o (q_dm dm_X12_jobs 133 rfl) rfl ic_1 (Nat.le_of_ble_eq_true rfl) (fun _ => rfl) (fun x2 => ?_)
    refine qr_goto (tgt := 238) o (q_dm dm_X12_jobs 134 rfl) (by decide) ?_
    exact qr_loc (q_leS (q_leS (q_leN (q_leS (q_leS (q_leS (q_leN (q_leN (q_leN q_le0))))))))) (hK238 a1 a3 x1 x2 M)

def f_X12_jobs_238 (n : Nat) : Nat → Int32 → Int32 → Int32 → Int32 → qM → qR
  | 0, _, _, _, _, _ => none
  | m + 1, a1, a3, a4, a5, M => b_X12_jobs_238 n (f_X12_jobs_238 n m) a1 a3 a4 a5 M
theorem w_X12_jobs_238 {g : qG} {k : qK} (n : Nat) (j r : Nat) (hj : q_isLaw j) (hr : q_isLaw r) (o : qOk g 6 zX12_jobs k) : ∀ (m : Nat) (a1 a3 a4 a5 : Int32) (M : qM), qAE g k zX12_jobs (qL j r) 238 [some (.inr (some 77)), some (.inl a1), none, some (.inl a3), some (.inl a4), some (.inl a5), none, none, none] [] (qL j r, M) (f_X12_jobs_238 n m a1 a3 a4 a5 M) := by
  intro m
  induction m with
  | zero =>
    intro a1 a3 a4 a5 M
    exact qr_none
  | succ m ih =>
    intro a1 a3 a4 a5 M
    exact wb_X12_jobs_238 n j r hj hr o (f_X12_jobs_238 n m) ih a1 a3 a4 a5 M
def b_X12_jobs_165 (n : Nat) (K147 : Int32 → Int32 → Int32 → qM → qR) (K165 : Int32 → Int32 → Int32 → Int32 → qM → qR) (a1 a3 a4 a5 : Int32) (M : qM) : qR :=
  (if (12 : Int32) ≤ a5 then ql (a4 + (1 : Int32)) (fun x1 => K147 a1 a3 x1 M) else qc (f_X12_isKind n a4 M) (fun r2 m3 => (if r2 = (0 : Int32) then ql (a5 + (1 : Int32)) (fun x4 => K165 a1 a3 a4 x4 m3) else qc (f_X12_isKind n a5 m3) (fun r5 m6 => (if r5 = (0 : Int32) then ql (a5 + (1 : Int32)) (fun x7 => K165 a1 a3 a4 x7 m6) else qc (f_X12_isLike n a4 a5 m6) (fun r8 m9 => (if r8 = (0 : Int32) then ql (a5 + (1 : Int32)) (fun x10 => K165 a1 a3 a4 x10 m9) else qg a4 12 (qg a4 12 (qlm (mu m9 113 a4.toNatClampNeg ((m9 113 a4.toNatClampNeg) ||| ((1 : Int32) <<< (a5 &&& 31)))) (fun m11 => ql (a5 + (1 : Int32)) (fun x12 => K165 a1 a3 a4 x12 m11)))))))))))
set_option maxRecDepth 4000 in
theorem wb_X12_jobs_165 {g : qG} {k : qK} (n : Nat) (j r : Nat) (hj : q_isLaw j) (hr : q_isLaw r) (o : qOk g 6 zX12_jobs k) (K147 : Int32 → Int32 → Int32 → qM → qR) (hK147 : ∀ (a1 a3 a4 : Int32) (M : qM), qAE g k zX12_jobs (qL j r) 147 [some (.inr (some 77)), some (.inl a1), none, some (.inl a3), some (.inl a4), none, none, none, none] [] (qL j r, M) (K147 a1 a3 a4 M)) (K165 : Int32 → Int32 → Int32 → Int32 → qM → qR) (hK165 : ∀ (a1 a3 a4 a5 : Int32) (M : qM), qAE g k zX12_jobs (qL j r) 165 [some (.inr (some 77)), some (.inl a1), none, some (.inl a3), some (.inl a4), some (.inl a5), none, none, none] [] (qL j r, M) (K165 a1 a3 a4 a5 M)) (a1 a3 a4 a5 : Int32) (M : qM) : qAE g k zX12_jobs (qL j r) 165 [some (.inr (some 77)), some (.inl a1), none, some (.inl a3), some (.inl a4), some (.inl a5), none, none, none] [] (qL j r, M) (b_X12_jobs_165 n K147 K165 a1 a3 a4 a5 M) := by
  unfold b_X12_jobs_165
  refine qr_iload o (q_dm dm_X12_jobs 89 rfl) rfl ?_
  refine qr_bipush o (q_dm dm_X12_jobs 90 rfl) bi_12 ?_
  refine qr_icmp_ge (tgt := 226) o (q_dm dm_X12_jobs 91 rfl) (by decide) ?_ ?_
  · refine qs_iincl2 (L' := fun x1 => [some (.inr (some 77)), some (.inl a1), none, some (.inl a3), some (.inl x1), some (.inl a5), none, none, none]) o (q_dm dm_X12_jobs 119 rfl) rfl ic_1 (Nat.le_of_ble_eq_true rfl) (fun _ => rfl) (fun x1 => ?_)
    refine qr_goto (tgt := 147) o (q_dm dm_X12_jobs 120 rfl) (by decide) ?_
    exact qr_loc (q_leS (q_leS (q_leN (q_leS (q_leS (q_leN (q_leN (q_leN (q_leN q_le0))))))))) (hK147 a1 a3 x1 M)
  · refine qr_aload_n o (q_dm dm_X12_jobs 92 rfl) rfl ?_
    refine qr_iload o (q_dm dm_X12_jobs 93 rfl) rfl ?_
    refine qr_callv_i (As := [.inl a4]) (S := []) o (a_X12_isKind g k.2.1 n j r hj hr a4 M) (Nat.le_of_ble_eq_true rfl) zv_X12_isKind rfl cf_X12 (sh77 j r) ml_X12_157 (Nat.le_of_ble_eq_true rfl) (q_dm dm_X12_jobs 94 rfl) (fun r2 m3 => ?_)
    refine qr_if_eq (tgt := 220) o (q_dm dm_X12_jobs 95 rfl) (by decide) ?_ ?_
    · refine qs_iincl2 (L' := fun x4 => [some (.inr (some 77)), some (.inl a1), none, some (.inl a3), some (.inl a4), some (.inl x4), none, none, none]) o (q_dm dm_X12_jobs 117 rfl) rfl ic_1 (Nat.le_of_ble_eq_true rfl) (fun _ => rfl) (fun x4 => ?_)
      refine qr_goto (tgt := 165) o (q_dm dm_X12_jobs 118 rfl) (by decide) ?_
      exact qr_loc (q_leS (q_leS (q_leN (q_leS (q_leS (q_leS (q_leN (q_leN (q_leN q_le0))))))))) (hK165 a1 a3 a4 x4 m3)
    · refine qr_aload_n o (q_dm dm_X12_jobs 96 rfl) rfl ?_
      refine qr_iload o (q_dm dm_X12_jobs 97 rfl) rfl ?_
      refine qr_callv_i (As := [.inl a5]) (S := []) o (a_X12_isKind g k.2.1 n j r hj hr a5 m3) (Nat.le_of_ble_eq_true rfl) zv_X12_isKind rfl cf_X12 (sh77 j r) ml_X12_157 (Nat.le_of_ble_eq_true rfl) (q_dm dm_X12_jobs 98 rfl) (fun r5 m6 => ?_)
      refine qr_if_eq (tgt := 220) o (q_dm dm_X12_jobs 99 rfl) (by decide) ?_ ?_
      · refine qs_iincl2 (L' := fun x7 => [some (.inr (some 77)), some (.inl a1), none, some (.inl a3), some (.inl a4), some (.inl x7), none, none, none]) o (q_dm dm_X12_jobs 117 rfl) rfl ic_1 (Nat.le_of_ble_eq_true rfl) (fun _ => rfl) (fun x7 => ?_)
        refine qr_goto (tgt := 165) o (q_dm dm_X12_jobs 118 rfl) (by decide) ?_
        exact qr_loc (q_leS (q_leS (q_leN (q_leS (q_leS (q_leS (q_leN (q_leN (q_leN q_le0))))))))) (hK165 a1 a3 a4 x7 m6)
      · refine qr_aload_n o (q_dm dm_X12_jobs 100 rfl) rfl ?_
        refine qr_iload o (q_dm dm_X12_jobs 101 rfl) rfl ?_
        refine qr_iload o (q_dm dm_X12_jobs 102 rfl) rfl ?_
        refine qr_callv_i (As := [.inl a4, .inl a5]) (S := []) o (a_X12_isLike g k.2.1 n j r hj hr a4 a5 m6) (Nat.le_of_ble_eq_true rfl) zv_X12_isLike rfl cf_X12 (sh77 j r) ml_X12_279 (Nat.le_of_ble_eq_true rfl) (q_dm dm_X12_jobs 103 rfl) (fun r8 m9 => ?_)
        refine qr_if_eq (tgt := 220) o (q_dm dm_X12_jobs 104 rfl) (by decide) ?_ ?_
        · refine qs_iincl2 (L' := fun x10 => [some (.inr (some 77)), some (.inl a1), none, some (.inl a3), some (.inl a4), some (.inl x10), none, none, none]) o (q_dm dm_X12_jobs 117 rfl) rfl ic_1 (Nat.le_of_ble_eq_true rfl) (fun _ => rfl) (fun x10 => ?_)
          refine qr_goto (tgt := 165) o (q_dm dm_X12_jobs 118 rfl) (by decide) ?_
          exact qr_loc (q_leS (q_leS (q_leN (q_leS (q_leS (q_leS (q_leN (q_leN (q_leN q_le0))))))))) (hK165 a1 a3 a4 x10 m9)
        · refine qr_aload_n o (q_dm dm_X12_jobs 105 rfl) rfl ?_
          refine qr_getr (kf := 56) o cf_X12 (sh77 j r) rfl (Nat.le_of_ble_eq_true rfl) fl_X12_118 (q_dm dm_X12_jobs 106 rfl) ?_
          refine qr_iload o (q_dm dm_X12_jobs 107 rfl) rfl ?_
          refine qr_aload_n o (q_dm dm_X12_jobs 108 rfl) rfl ?_
          refine qr_getr (kf := 56) o cf_X12 (sh77 j r) rfl (Nat.le_of_ble_eq_true rfl) fl_X12_118 (q_dm dm_X12_jobs 109 rfl) ?_
          refine qr_iload o (q_dm dm_X12_jobs 110 rfl) rfl ?_
          refine qr_iald o (sh113 j r) (q_dm dm_X12_jobs 111 rfl) ?_
          refine qr_iconst o (q_dm dm_X12_jobs 112 rfl) ic_1 ?_
          refine qr_iload o (q_dm dm_X12_jobs 113 rfl) rfl ?_
          refine qr_ishl o (q_dm dm_X12_jobs 114 rfl) ?_
          refine qr_ior o (q_dm dm_X12_jobs 115 rfl) ?_
          refine qr_iast o (sh113 j r) (q_dm dm_X12_jobs 116 rfl) ?_
          refine qr_letm (fun m11 => ?_)
          refine qs_iincl2 (L' := fun x12 => [some (.inr (some 77)), some (.inl a1), none, some (.inl a3), some (.inl a4), some (.inl x12), none, none, none]) o (q_dm dm_X12_jobs 117 rfl) rfl ic_1 (Nat.le_of_ble_eq_true rfl) (fun _ => rfl) (fun x12 => ?_)
          refine qr_goto (tgt := 165) o (q_dm dm_X12_jobs 118 rfl) (by decide) ?_
          exact qr_loc (q_leS (q_leS (q_leN (q_leS (q_leS (q_leS (q_leN (q_leN (q_leN q_le0))))))))) (hK165 a1 a3 a4 x12 m11)

def f_X12_jobs_165 (n : Nat) (K147 : Int32 → Int32 → Int32 → qM → qR) : Nat → Int32 → Int32 → Int32 → Int32 → qM → qR
  | 0, _, _, _, _, _ => none
  | m + 1, a1, a3, a4, a5, M => b_X12_jobs_165 n K147 (f_X12_jobs_165 n K147 m) a1 a3 a4 a5 M
theorem w_X12_jobs_165 {g : qG} {k : qK} (n : Nat) (j r : Nat) (hj : q_isLaw j) (hr : q_isLaw r) (o : qOk g 6 zX12_jobs k) (K147 : Int32 → Int32 → Int32 → qM → qR) (hK147 : ∀ (a1 a3 a4 : Int32) (M : qM), qAE g k zX12_jobs (qL j r) 147 [some (.inr (some 77)), some (.inl a1), none, some (.inl a3), some (.inl a4), none, none, none, none] [] (qL j r, M) (K147 a1 a3 a4 M)) : ∀ (m : Nat) (a1 a3 a4 a5 : Int32) (M : qM), qAE g k zX12_jobs (qL j r) 165 [some (.inr (some 77)), some (.inl a1), none, some (.inl a3), some (.inl a4), some (.inl a5), none, none, none] [] (qL j r, M) (f_X12_jobs_165 n K147 m a1 a3 a4 a5 M) := by
  intro m
  induction m with
  | zero =>
    intro a1 a3 a4 a5 M
    exact qr_none
  | succ m ih =>
    intro a1 a3 a4 a5 M
    exact wb_X12_jobs_165 n j r hj hr o K147 hK147 (f_X12_jobs_165 n K147 m) ih a1 a3 a4 a5 M
def b_X12_jobs_147 (n : Nat) (K147 : Int32 → Int32 → Int32 → qM → qR) (a1 a3 a4 : Int32) (M : qM) : qR :=
  (if (12 : Int32) ≤ a4 then f_X12_jobs_238 n n a1 a3 (1 : Int32) (0 : Int32) M else qg a4 12 (qlm (mu M 113 a4.toNatClampNeg (0 : Int32)) (fun m1 => f_X12_jobs_165 n K147 n a1 a3 a4 (0 : Int32) m1)))
set_option maxRecDepth 4000 in
theorem wb_X12_jobs_147 {g : qG} {k : qK} (n : Nat) (j r : Nat) (hj : q_isLaw j) (hr : q_isLaw r) (o : qOk g 6 zX12_jobs k) (K147 : Int32 → Int32 → Int32 → qM → qR) (hK147 : ∀ (a1 a3 a4 : Int32) (M : qM), qAE g k zX12_jobs (qL j r) 147 [some (.inr (some 77)), some (.inl a1), none, some (.inl a3), some (.inl a4), none, none, none, none] [] (qL j r, M) (K147 a1 a3 a4 M)) (a1 a3 a4 : Int32) (M : qM) : qAE g k zX12_jobs (qL j r) 147 [some (.inr (some 77)), some (.inl a1), none, some (.inl a3), some (.inl a4), none, none, none, none] [] (qL j r, M) (b_X12_jobs_147 n K147 a1 a3 a4 M) := by
  unfold b_X12_jobs_147
  refine qr_iload o (q_dm dm_X12_jobs 79 rfl) rfl ?_
  refine qr_bipush o (q_dm dm_X12_jobs 80 rfl) bi_12 ?_
  refine qr_icmp_ge (tgt := 232) o (q_dm dm_X12_jobs 81 rfl) (by decide) ?_ ?_
  · refine qr_iconst o (q_dm dm_X12_jobs 121 rfl) ic_1 ?_
    refine qs_istore (L' := [some (.inr (some 77)), some (.inl a1), none, some (.inl a3), some (.inl (1 : Int32)), none, none, none, none]) o (q_dm dm_X12_jobs 122 rfl) (Nat.le_of_ble_eq_true rfl) rfl ?_
    refine qr_iconst o (q_dm dm_X12_jobs 123 rfl) ic_0 ?_
    refine qs_istore (L' := [some (.inr (some 77)), some (.inl a1), none, some (.inl a3), some (.inl (1 : Int32)), some (.inl (0 : Int32)), none, none, none]) o (q_dm dm_X12_jobs 124 rfl) (Nat.le_of_ble_eq_true rfl) rfl ?_
    exact qr_loc (q_leS (q_leS (q_leN (q_leS (q_leS (q_leS (q_leN (q_leN (q_leN q_le0))))))))) (w_X12_jobs_238 n j r hj hr o n a1 a3 (1 : Int32) (0 : Int32) M)
  · refine qr_aload_n o (q_dm dm_X12_jobs 82 rfl) rfl ?_
    refine qr_getr (kf := 56) o cf_X12 (sh77 j r) rfl (Nat.le_of_ble_eq_true rfl) fl_X12_118 (q_dm dm_X12_jobs 83 rfl) ?_
    refine qr_iload o (q_dm dm_X12_jobs 84 rfl) rfl ?_
    refine qr_iconst o (q_dm dm_X12_jobs 85 rfl) ic_0 ?_
    refine qr_iast o (sh113 j r) (q_dm dm_X12_jobs 86 rfl) ?_
    refine qr_letm (fun m1 => ?_)
    refine qr_iconst o (q_dm dm_X12_jobs 87 rfl) ic_0 ?_
    refine qs_istore (L' := [some (.inr (some 77)), some (.inl a1), none, some (.inl a3), some (.inl a4), some (.inl (0 : Int32)), none, none, none]) o (q_dm dm_X12_jobs 88 rfl) (Nat.le_of_ble_eq_true rfl) rfl ?_
    exact qr_loc (q_leS (q_leS (q_leN (q_leS (q_leS (q_leS (q_leN (q_leN (q_leN q_le0))))))))) (w_X12_jobs_165 n j r hj hr o K147 hK147 n a1 a3 a4 (0 : Int32) m1)

def f_X12_jobs_147 (n : Nat) : Nat → Int32 → Int32 → Int32 → qM → qR
  | 0, _, _, _, _ => none
  | m + 1, a1, a3, a4, M => b_X12_jobs_147 n (f_X12_jobs_147 n m) a1 a3 a4 M
theorem w_X12_jobs_147 {g : qG} {k : qK} (n : Nat) (j r : Nat) (hj : q_isLaw j) (hr : q_isLaw r) (o : qOk g 6 zX12_jobs k) : ∀ (m : Nat) (a1 a3 a4 : Int32) (M : qM), qAE g k zX12_jobs (qL j r) 147 [some (.inr (some 77)), some (.inl a1), none, some (.inl a3), some (.inl a4), none, none, none, none] [] (qL j r, M) (f_X12_jobs_147 n m a1 a3 a4 M) := by
  intro m
  induction m with
  | zero =>
    intro a1 a3 a4 M
    exact qr_none
  | succ m ih =>
    intro a1 a3 a4 M
    exact wb_X12_jobs_147 n j r hj hr o (f_X12_jobs_147 n m) ih a1 a3 a4 M
def b_X12_jobs_98 (n : Nat) (K98 : Int32 → Int32 → Int32 → Int32 → qM → qR) (a1 a2 a3 a4 : Int32) (M : qM) : qR :=
  (if (8 : Int32) ≤ a4 then f_X12_jobs_147 n n a1 a3 (0 : Int32) M else qc (f_X12_has0 n a2 a4 M) (fun r1 m2 => (if r1 = (0 : Int32) then ql (a4 + (1 : Int32)) (fun x6 => K98 a1 a2 a3 x6 m2) else qg (m2 77 60) 3 (qlm (mu m2 112 (m2 77 60).toNatClampNeg a4) (fun m3 => qlm (mu m3 77 60 ((m3 77 60) + (1 : Int32))) (fun m4 => ql (a4 + (1 : Int32)) (fun x5 => K98 a1 a2 a3 x5 m4)))))))
set_option maxRecDepth 4000 in
theorem wb_X12_jobs_98 {g : qG} {k : qK} (n : Nat) (j r : Nat) (hj : q_isLaw j) (hr : q_isLaw r) (o : qOk g 6 zX12_jobs k) (K98 : Int32 → Int32 → Int32 → Int32 → qM → qR) (hK98 : ∀ (a1 a2 a3 a4 : Int32) (M : qM), qAE g k zX12_jobs (qL j r) 98 [some (.inr (some 77)), some (.inl a1), some (.inl a2), some (.inl a3), some (.inl a4), none, none, none, none] [] (qL j r, M) (K98 a1 a2 a3 a4 M)) (a1 a2 a3 a4 : Int32) (M : qM) : qAE g k zX12_jobs (qL j r) 98 [some (.inr (some 77)), some (.inl a1), some (.inl a2), some (.inl a3), some (.inl a4), none, none, none, none] [] (qL j r, M) (b_X12_jobs_98 n K98 a1 a2 a3 a4 M) := by
  unfold b_X12_jobs_98
  refine qr_iload o (q_dm dm_X12_jobs 55 rfl) rfl ?_
  refine qr_bipush o (q_dm dm_X12_jobs 56 rfl) bi_8 ?_
  refine qr_icmp_ge (tgt := 144) o (q_dm dm_X12_jobs 57 rfl) (by decide) ?_ ?_
  · refine qr_iconst o (q_dm dm_X12_jobs 77 rfl) ic_0 ?_
    refine qs_istore (L' := [some (.inr (some 77)), some (.inl a1), some (.inl a2), some (.inl a3), some (.inl (0 : Int32)), none, none, none, none]) o (q_dm dm_X12_jobs 78 rfl) (Nat.le_of_ble_eq_true rfl) rfl ?_
    exact qr_loc (q_leS (q_leS (q_leN (q_leS (q_leS (q_leN (q_leN (q_leN (q_leN q_le0))))))))) (w_X12_jobs_147 n j r hj hr o n a1 a3 (0 : Int32) M)
  · refine qr_iload_n o (q_dm dm_X12_jobs 58 rfl) rfl ?_
    refine qr_iload o (q_dm dm_X12_jobs 59 rfl) rfl ?_
    refine qr_calls_i (As := [.inl a2, .inl a4]) (S := []) o (a_X12_has0 g k.2.1 n j r hj hr a2 a4 M) (Nat.le_of_ble_eq_true rfl) zs_X12_has0 rfl ml_X12_149 (Nat.le_of_ble_eq_true rfl) (q_dm dm_X12_jobs 60 rfl) (fun r1 m2 => ?_)
    refine qr_if_ne (tgt := 117) o (q_dm dm_X12_jobs 61 rfl) (by decide) ?_ ?_
    · refine qr_aload_n o (q_dm dm_X12_jobs 63 rfl) rfl ?_
      refine qr_getr (kf := 55) o cf_X12 (sh77 j r) rfl (Nat.le_of_ble_eq_true rfl) fl_X12_115 (q_dm dm_X12_jobs 64 rfl) ?_
      refine qr_aload_n o (q_dm dm_X12_jobs 65 rfl) rfl ?_
      refine qr_getf (kf := 60) o cf_X12 (sh77 j r) rfl (Nat.le_of_ble_eq_true rfl) fl_X12_435 (q_dm dm_X12_jobs 66 rfl) ?_
      refine qr_iload o (q_dm dm_X12_jobs 67 rfl) rfl ?_
      refine qr_iast o (sh112 j r) (q_dm dm_X12_jobs 68 rfl) ?_
      refine qr_letm (fun m3 => ?_)
      refine qr_aload_n o (q_dm dm_X12_jobs 69 rfl) rfl ?_
      refine qr_aload_n o (q_dm dm_X12_jobs 70 rfl) rfl ?_
      refine qr_getf (kf := 60) o cf_X12 (sh77 j r) rfl (Nat.le_of_ble_eq_true rfl) fl_X12_435 (q_dm dm_X12_jobs 71 rfl) ?_
      refine qr_iconst o (q_dm dm_X12_jobs 72 rfl) ic_1 ?_
      refine qr_iadd o (q_dm dm_X12_jobs 73 rfl) ?_
      refine qr_putf (kf := 60) o cf_X12 (sh77 j r) rfl (Nat.le_of_ble_eq_true rfl) fl_X12_435 rfl (by decide +kernel) (q_dm dm_X12_jobs 74 rfl) ?_
      refine qr_letm (fun m4 => ?_)
      refine qs_iincl2 (L' := fun x5 => [some (.inr (some 77)), some (.inl a1), some (.inl a2), some (.inl a3), some (.inl x5), none, none, none, none]) o (q_dm dm_X12_jobs 75 rfl) rfl ic_1 (Nat.le_of_ble_eq_true rfl) (fun _ => rfl) (fun x5 => ?_)
      refine qr_goto (tgt := 98) o (q_dm dm_X12_jobs 76 rfl) (by decide) ?_
      exact qr_loc (q_leS (q_leS (q_leS (q_leS (q_leS (q_leN (q_leN (q_leN (q_leN q_le0))))))))) (hK98 a1 a2 a3 x5 m4)
    · refine qr_goto (tgt := 138) o (q_dm dm_X12_jobs 62 rfl) (by decide) ?_
      refine qs_iincl2 (L' := fun x6 => [some (.inr (some 77)), some (.inl a1), some (.inl a2), some (.inl a3), some (.inl x6), none, none, none, none]) o (q_dm dm_X12_jobs 75 rfl) rfl ic_1 (Nat.le_of_ble_eq_true rfl) (fun _ => rfl) (fun x6 => ?_)
      refine qr_goto (tgt := 98) o (q_dm dm_X12_jobs 76 rfl) (by decide) ?_
      exact qr_loc (q_leS (q_leS (q_leS (q_leS (q_leS (q_leN (q_leN (q_leN (q_leN q_le0))))))))) (hK98 a1 a2 a3 x6 m2)

def f_X12_jobs_98 (n : Nat) : Nat → Int32 → Int32 → Int32 → Int32 → qM → qR
  | 0, _, _, _, _, _ => none
  | m + 1, a1, a2, a3, a4, M => b_X12_jobs_98 n (f_X12_jobs_98 n m) a1 a2 a3 a4 M
theorem w_X12_jobs_98 {g : qG} {k : qK} (n : Nat) (j r : Nat) (hj : q_isLaw j) (hr : q_isLaw r) (o : qOk g 6 zX12_jobs k) : ∀ (m : Nat) (a1 a2 a3 a4 : Int32) (M : qM), qAE g k zX12_jobs (qL j r) 98 [some (.inr (some 77)), some (.inl a1), some (.inl a2), some (.inl a3), some (.inl a4), none, none, none, none] [] (qL j r, M) (f_X12_jobs_98 n m a1 a2 a3 a4 M) := by
  intro m
  induction m with
  | zero =>
    intro a1 a2 a3 a4 M
    exact qr_none
  | succ m ih =>
    intro a1 a2 a3 a4 M
    exact wb_X12_jobs_98 n j r hj hr o (f_X12_jobs_98 n m) ih a1 a2 a3 a4 M
def f_X12_jobs_90 (n : Nat) (a1 a2 a3 : Int32) (M : qM) : qR :=
  qlm (mu M 77 60 (0 : Int32)) (fun m1 => f_X12_jobs_98 n n a1 a2 a3 (0 : Int32) m1)
set_option maxRecDepth 4000 in
theorem w_X12_jobs_90 {g : qG} {k : qK} (n : Nat) (j r : Nat) (hj : q_isLaw j) (hr : q_isLaw r) (o : qOk g 6 zX12_jobs k) (a1 a2 a3 : Int32) (M : qM) : qAE g k zX12_jobs (qL j r) 90 [some (.inr (some 77)), some (.inl a1), some (.inl a2), some (.inl a3), none, none, none, none, none] [] (qL j r, M) (f_X12_jobs_90 n a1 a2 a3 M) := by
  unfold f_X12_jobs_90
  refine qr_aload_n o (q_dm dm_X12_jobs 50 rfl) rfl ?_
  refine qr_iconst o (q_dm dm_X12_jobs 51 rfl) ic_0 ?_
  refine qr_putf (kf := 60) o cf_X12 (sh77 j r) rfl (Nat.le_of_ble_eq_true rfl) fl_X12_435 rfl (by decide +kernel) (q_dm dm_X12_jobs 52 rfl) ?_
  refine qr_letm (fun m1 => ?_)
  refine qr_iconst o (q_dm dm_X12_jobs 53 rfl) ic_0 ?_
  refine qs_istore (L' := [some (.inr (some 77)), some (.inl a1), some (.inl a2), some (.inl a3), some (.inl (0 : Int32)), none, none, none, none]) o (q_dm dm_X12_jobs 54 rfl) (Nat.le_of_ble_eq_true rfl) rfl ?_
  exact qr_loc (q_leS (q_leS (q_leS (q_leS (q_leS (q_leN (q_leN (q_leN (q_leN q_le0))))))))) (w_X12_jobs_98 n j r hj hr o n a1 a2 a3 (0 : Int32) m1)

def f_X12_jobs (n : Nat) (a1 a2 a3 : Int32) (M : qM) : qR :=
  qc (f_X12_in n a1 (1 : Int32) (8 : Int32) M) (fun r1 m2 => (if r1 = (0 : Int32) then some ((-1 : Int32), m2) else (if a1 ≤ (m2 77 8) then qlm (mu m2 77 8 (0 : Int32)) (fun m3 => qc (f_X12_takesJobs n a1 m3) (fun r4 m5 => (if r4 = (0 : Int32) then some ((-2 : Int32), m5) else qc (f_X12_in n a2 (1 : Int32) (255 : Int32) m5) (fun r6 m7 => (if r6 = (0 : Int32) then some ((-4 : Int32), m7) else (if (a2 &&& ((m7 78 312) ^^^ (-1 : Int32))) = (0 : Int32) then qc (f_X12_bits n a2 m7) (fun r8 m9 => (if (3 : Int32) < r8 then some ((-4 : Int32), m9) else (if a3 = (10 : Int32) then f_X12_jobs_90 n a1 a2 a3 m9 else qc (f_X12_in n a3 (0 : Int32) (a1 - (1 : Int32)) m9) (fun r10 m11 => (if r10 = (0 : Int32) then some ((-4 : Int32), m11) else f_X12_jobs_90 n a1 a2 a3 m11))))) else some ((-4 : Int32), m7))))))) else some ((-1 : Int32), m2))))
set_option maxRecDepth 4000 in
theorem w_X12_jobs {g : qG} {k : qK} (n : Nat) (j r : Nat) (hj : q_isLaw j) (hr : q_isLaw r) (o : qOk g 6 zX12_jobs k) (a1 a2 a3 : Int32) (M : qM) : qAE g k zX12_jobs (qL j r) 0 [some (.inr (some 77)), some (.inl a1), some (.inl a2), some (.inl a3), none, none, none, none, none] [] (qL j r, M) (f_X12_jobs n a1 a2 a3 M) := by
  unfold f_X12_jobs
  refine qr_iload_n o (q_dm dm_X12_jobs 0 rfl) rfl ?_
  refine qr_iconst o (q_dm dm_X12_jobs 1 rfl) ic_1 ?_
  refine qr_bipush o (q_dm dm_X12_jobs 2 rfl) bi_8 ?_
  refine qr_calls_i (As := [.inl a1, .inl (1 : Int32), .inl (8 : Int32)]) (S := []) o (a_X12_in g k.2.1 n j r hj hr a1 (1 : Int32) (8 : Int32) M) (Nat.le_of_ble_eq_true rfl) zs_X12_in rfl ml_X12_153 (Nat.le_of_ble_eq_true rfl) (q_dm dm_X12_jobs 3 rfl) (fun r1 m2 => ?_)
  refine qr_if_eq (tgt := 18) o (q_dm dm_X12_jobs 4 rfl) (by decide) ?_ ?_
  · refine qr_iconst o (q_dm dm_X12_jobs 9 rfl) ic_m1 ?_
    exact qr_iret o rfl rfl (q_dm dm_X12_jobs 10 rfl)
  · refine qr_iload_n o (q_dm dm_X12_jobs 5 rfl) rfl ?_
    refine qr_aload_n o (q_dm dm_X12_jobs 6 rfl) rfl ?_
    refine qr_getf (kf := 8) o cf_X12 (sh77 j r) rfl (Nat.le_of_ble_eq_true rfl) fl_X12_162 (q_dm dm_X12_jobs 7 rfl) ?_
    refine qr_icmp_le (tgt := 20) o (q_dm dm_X12_jobs 8 rfl) (by decide) ?_ ?_
    · refine qr_aload_n o (q_dm dm_X12_jobs 11 rfl) rfl ?_
      refine qr_iconst o (q_dm dm_X12_jobs 12 rfl) ic_0 ?_
      refine qr_putf (kf := 8) o cf_X12 (sh77 j r) rfl (Nat.le_of_ble_eq_true rfl) fl_X12_162 rfl (by decide +kernel) (q_dm dm_X12_jobs 13 rfl) ?_
      refine qr_letm (fun m3 => ?_)
      refine qr_aload_n o (q_dm dm_X12_jobs 14 rfl) rfl ?_
      refine qr_iload_n o (q_dm dm_X12_jobs 15 rfl) rfl ?_
      refine qr_callv_i (As := [.inl a1]) (S := []) o (a_X12_takesJobs g k.2.1 n j r hj hr a1 m3) (Nat.le_of_ble_eq_true rfl) zv_X12_takesJobs rfl cf_X12 (sh77 j r) ml_X12_444 (Nat.le_of_ble_eq_true rfl) (q_dm dm_X12_jobs 16 rfl) (fun r4 m5 => ?_)
      refine qr_if_ne (tgt := 36) o (q_dm dm_X12_jobs 17 rfl) (by decide) ?_ ?_
      · refine qr_iload_n o (q_dm dm_X12_jobs 20 rfl) rfl ?_
        refine qr_iconst o (q_dm dm_X12_jobs 21 rfl) ic_1 ?_
        refine qr_sipush o (q_dm dm_X12_jobs 22 rfl) si_255 ?_
        refine qr_calls_i (As := [.inl a2, .inl (1 : Int32), .inl (255 : Int32)]) (S := []) o (a_X12_in g k.2.1 n j r hj hr a2 (1 : Int32) (255 : Int32) m5) (Nat.le_of_ble_eq_true rfl) zs_X12_in rfl ml_X12_153 (Nat.le_of_ble_eq_true rfl) (q_dm dm_X12_jobs 23 rfl) (fun r6 m7 => ?_)
        refine qr_if_eq (tgt := 87) o (q_dm dm_X12_jobs 24 rfl) (by decide) ?_ ?_
        · refine qr_bipush o (q_dm dm_X12_jobs 48 rfl) bi_m4 ?_
          exact qr_iret o rfl rfl (q_dm dm_X12_jobs 49 rfl)
        · refine qr_iload_n o (q_dm dm_X12_jobs 25 rfl) rfl ?_
          refine qr_aload_n o (q_dm dm_X12_jobs 26 rfl) rfl ?_
          refine qr_getr (kf := 0) o cf_X12 (sh77 j r) rfl (Nat.le_of_ble_eq_true rfl) fl_X12_7 (q_dm dm_X12_jobs 27 rfl) ?_
          refine qr_sipush o (q_dm dm_X12_jobs 28 rfl) si_312 ?_
          refine qr_iald0 (c := 312) o (sh78 j r) (by decide) (by decide) (q_dm dm_X12_jobs 29 rfl) ?_
          refine qr_iconst o (q_dm dm_X12_jobs 30 rfl) ic_m1 ?_
          refine qr_ixor o (q_dm dm_X12_jobs 31 rfl) ?_
          refine qr_iand o (q_dm dm_X12_jobs 32 rfl) ?_
          refine qr_if_ne (tgt := 87) o (q_dm dm_X12_jobs 33 rfl) (by decide) ?_ ?_
          · refine qr_bipush o (q_dm dm_X12_jobs 48 rfl) bi_m4 ?_
            exact qr_iret o rfl rfl (q_dm dm_X12_jobs 49 rfl)
          · refine qr_iload_n o (q_dm dm_X12_jobs 34 rfl) rfl ?_
            refine qr_calls_i (As := [.inl a2]) (S := []) o (a_X12_bits g k.2.1 n j r hj hr a2 m7) (Nat.le_of_ble_eq_true rfl) zs_X12_bits rfl ml_X12_276 (Nat.le_of_ble_eq_true rfl) (q_dm dm_X12_jobs 35 rfl) (fun r8 m9 => ?_)
            refine qr_iconst o (q_dm dm_X12_jobs 36 rfl) ic_3 ?_
            refine qr_icmp_gt (tgt := 87) o (q_dm dm_X12_jobs 37 rfl) (by decide) ?_ ?_
            · refine qr_bipush o (q_dm dm_X12_jobs 48 rfl) bi_m4 ?_
              exact qr_iret o rfl rfl (q_dm dm_X12_jobs 49 rfl)
            · refine qr_iload_n o (q_dm dm_X12_jobs 38 rfl) rfl ?_
              refine qr_bipush o (q_dm dm_X12_jobs 39 rfl) bi_10 ?_
              refine qr_icmp_eq (tgt := 90) o (q_dm dm_X12_jobs 40 rfl) (by decide) ?_ ?_
              · exact qr_loc (q_leS (q_leS (q_leS (q_leS (q_leN (q_leN (q_leN (q_leN (q_leN q_le0))))))))) (w_X12_jobs_90 n j r hj hr o a1 a2 a3 m9)
              · refine qr_iload_n o (q_dm dm_X12_jobs 41 rfl) rfl ?_
                refine qr_iconst o (q_dm dm_X12_jobs 42 rfl) ic_0 ?_
                refine qr_iload_n o (q_dm dm_X12_jobs 43 rfl) rfl ?_
                refine qr_iconst o (q_dm dm_X12_jobs 44 rfl) ic_1 ?_
                refine qr_isub o (q_dm dm_X12_jobs 45 rfl) ?_
                refine qr_calls_i (As := [.inl a3, .inl (0 : Int32), .inl (a1 - (1 : Int32))]) (S := []) o (a_X12_in g k.2.1 n j r hj hr a3 (0 : Int32) (a1 - (1 : Int32)) m9) (Nat.le_of_ble_eq_true rfl) zs_X12_in rfl ml_X12_153 (Nat.le_of_ble_eq_true rfl) (q_dm dm_X12_jobs 46 rfl) (fun r10 m11 => ?_)
                refine qr_if_ne (tgt := 90) o (q_dm dm_X12_jobs 47 rfl) (by decide) ?_ ?_
                · exact qr_loc (q_leS (q_leS (q_leS (q_leS (q_leN (q_leN (q_leN (q_leN (q_leN q_le0))))))))) (w_X12_jobs_90 n j r hj hr o a1 a2 a3 m11)
                · refine qr_bipush o (q_dm dm_X12_jobs 48 rfl) bi_m4 ?_
                  exact qr_iret o rfl rfl (q_dm dm_X12_jobs 49 rfl)
      · refine qr_bipush o (q_dm dm_X12_jobs 18 rfl) bi_m2 ?_
        exact qr_iret o rfl rfl (q_dm dm_X12_jobs 19 rfl)
    · refine qr_iconst o (q_dm dm_X12_jobs 9 rfl) ic_m1 ?_
      exact qr_iret o rfl rfl (q_dm dm_X12_jobs 10 rfl)

theorem a_X12_jobs (g : qG) (l : Launch) (n : Nat) (j r : Nat) (hj : q_isLaw j) (hr : q_isLaw r) (a1 a2 a3 : Int32) (M : qM) : qAM g l 6 zX12_jobs (qL j r) [.inr (some 77), .inl a1, .inl a2, .inl a3] (qL j r, M) (f_X12_jobs n a1 a2 a3 M) :=
  qAM.of zv_X12_jobs.1 (by show 4 ≤ 9; decide) (fun k hk o => w_X12_jobs n j r hj hr o a1 a2 a3 M)
def tb_X12_jumps : List (Nat × Instr × Nat) := [(0, (.aload_n 0, 1)), (1, (.getfield 35, 3)), (4, (.aload_n 0, 1)), (5, (.getfield 199, 3)), (8, (.ldc 195, 2)), (10, (.iload_n 1, 1)), (11, (.imul, 1)), (12, (.aload_n 0, 1)), (13, (.getfield 192, 3)), (16, (.iadd, 1)), (17, (.iastore, 1)), (18, (.aload_n 0, 1)), (19, (.aload_n 0, 1)), (20, (.getfield 199, 3)), (23, (.iconst 1, 1)), (24, (.iadd, 1)), (25, (.putfield 199, 3)), (28, (.aload_n 0, 1)), (29, (.iload_n 1, 1)), (30, (.iconst 0, 1)), (31, (.invokevirtual 205, 3)), (34, (.aload_n 0, 1)), (35, (.aload_n 0, 1)), (36, (.getfield 169, 3)), (39, (.iconst 1, 1)), (40, (.iadd, 1)), (41, (.putfield 169, 3)), (44, (.return_, 1))]
theorem dm_X12_jumps : ∀ q ∈ tb_X12_jumps, decode zX12_jumps.2.1 q.1 = .ok q.2 := by decide +kernel
def f_X12_jumps (n : Nat) (a1 : Int32) (M : qM) : qR :=
  qg (M 77 15) 260 (qlm (mu M 86 (M 77 15).toNatClampNeg (((1048576 : Int32) * a1) + (M 77 14))) (fun m1 => qlm (mu m1 77 15 ((m1 77 15) + (1 : Int32))) (fun m2 => qc (f_X12_notes n a1 (0 : Int32) m2) (fun _ m3 => qlm (mu m3 77 9 ((m3 77 9) + (1 : Int32))) (fun m4 => some (0, m4))))))
set_option maxRecDepth 4000 in
theorem w_X12_jumps {g : qG} {k : qK} (n : Nat) (j r : Nat) (hj : q_isLaw j) (hr : q_isLaw r) (o : qOk g 1 zX12_jumps k) (a1 : Int32) (M : qM) : qAE g k zX12_jumps (qL j r) 0 [some (.inr (some 77)), some (.inl a1)] [] (qL j r, M) (f_X12_jumps n a1 M) := by
  unfold f_X12_jumps
  refine qr_aload_n o (q_dm dm_X12_jumps 0 rfl) rfl ?_
  refine qr_getr (kf := 19) o cf_X12 (sh77 j r) rfl (Nat.le_of_ble_eq_true rfl) fl_X12_35 (q_dm dm_X12_jumps 1 rfl) ?_
  refine qr_aload_n o (q_dm dm_X12_jumps 2 rfl) rfl ?_
  refine qr_getf (kf := 15) o cf_X12 (sh77 j r) rfl (Nat.le_of_ble_eq_true rfl) fl_X12_199 (q_dm dm_X12_jumps 3 rfl) ?_
  refine qr_ldc o (q_dm dm_X12_jumps 4 rfl) kc_X12_195 ?_
  refine qr_iload_n o (q_dm dm_X12_jumps 5 rfl) rfl ?_
  refine qr_imul o (q_dm dm_X12_jumps 6 rfl) ?_
  refine qr_aload_n o (q_dm dm_X12_jumps 7 rfl) rfl ?_
  refine qr_getf (kf := 14) o cf_X12 (sh77 j r) rfl (Nat.le_of_ble_eq_true rfl) fl_X12_192 (q_dm dm_X12_jumps 8 rfl) ?_
  refine qr_iadd o (q_dm dm_X12_jumps 9 rfl) ?_
  refine qr_iast o (sh86 j r) (q_dm dm_X12_jumps 10 rfl) ?_
  refine qr_letm (fun m1 => ?_)
  refine qr_aload_n o (q_dm dm_X12_jumps 11 rfl) rfl ?_
  refine qr_aload_n o (q_dm dm_X12_jumps 12 rfl) rfl ?_
  refine qr_getf (kf := 15) o cf_X12 (sh77 j r) rfl (Nat.le_of_ble_eq_true rfl) fl_X12_199 (q_dm dm_X12_jumps 13 rfl) ?_
  refine qr_iconst o (q_dm dm_X12_jumps 14 rfl) ic_1 ?_
  refine qr_iadd o (q_dm dm_X12_jumps 15 rfl) ?_
  refine qr_putf (kf := 15) o cf_X12 (sh77 j r) rfl (Nat.le_of_ble_eq_true rfl) fl_X12_199 rfl (by decide +kernel) (q_dm dm_X12_jumps 16 rfl) ?_
  refine qr_letm (fun m2 => ?_)
  refine qr_aload_n o (q_dm dm_X12_jumps 17 rfl) rfl ?_
  refine qr_iload_n o (q_dm dm_X12_jumps 18 rfl) rfl ?_
  refine qr_iconst o (q_dm dm_X12_jumps 19 rfl) ic_0 ?_
  refine qr_callv_v (As := [.inl a1, .inl (0 : Int32)]) (S := []) o (a_X12_notes g k.2.1 n j r hj hr a1 (0 : Int32) m2) (Nat.le_of_ble_eq_true rfl) zv_X12_notes rfl cf_X12 (sh77 j r) ml_X12_205 (Nat.le_of_ble_eq_true rfl) (q_dm dm_X12_jumps 20 rfl) (fun _ m3 => ?_)
  refine qr_aload_n o (q_dm dm_X12_jumps 21 rfl) rfl ?_
  refine qr_aload_n o (q_dm dm_X12_jumps 22 rfl) rfl ?_
  refine qr_getf (kf := 9) o cf_X12 (sh77 j r) rfl (Nat.le_of_ble_eq_true rfl) fl_X12_169 (q_dm dm_X12_jumps 23 rfl) ?_
  refine qr_iconst o (q_dm dm_X12_jumps 24 rfl) ic_1 ?_
  refine qr_iadd o (q_dm dm_X12_jumps 25 rfl) ?_
  refine qr_putf (kf := 9) o cf_X12 (sh77 j r) rfl (Nat.le_of_ble_eq_true rfl) fl_X12_169 rfl (by decide +kernel) (q_dm dm_X12_jumps 26 rfl) ?_
  refine qr_letm (fun m4 => ?_)
  exact qr_vret o rfl (q_dm dm_X12_jumps 27 rfl)

theorem a_X12_jumps (g : qG) (l : Launch) (n : Nat) (j r : Nat) (hj : q_isLaw j) (hr : q_isLaw r) (a1 : Int32) (M : qM) : qAM g l 1 zX12_jumps (qL j r) [.inr (some 77), .inl a1] (qL j r, M) (f_X12_jumps n a1 M) :=
  qAM.of zv_X12_jumps.1 (by show 2 ≤ 2; decide) (fun k hk o => w_X12_jumps n j r hj hr o a1 M)
def tb_X12_keep : List (Nat × Instr × Nat) := [(0, (.aload_n 0, 1)), (1, (.iconst 1, 1)), (2, (.putfield 489, 3)), (5, (.aload_n 0, 1)), (6, (.getfield 7, 3)), (9, (.aload_n 0, 1)), (10, (.getfield 16, 3)), (13, (.invokestatic 319, 3)), (16, (.aload_n 0, 1)), (17, (.getfield 7, 3)), (20, (.sipush 313, 3)), (23, (.iaload, 1)), (24, (.ireturn, 1))]
theorem dm_X12_keep : ∀ q ∈ tb_X12_keep, decode zX12_keep.2.1 q.1 = .ok q.2 := by decide +kernel
def f_X12_keep (n : Nat) (M : qM) : qR :=
  qlm (mu M 77 67 (1 : Int32)) (fun m1 => qc (f_X12_copies n 78 80 m1) (fun _ m2 => some ((m2 78 313), m2)))
set_option maxRecDepth 4000 in
theorem w_X12_keep {g : qG} {k : qK} (n : Nat) (j r : Nat) (hj : q_isLaw j) (hr : q_isLaw r) (o : qOk g 1 zX12_keep k) (M : qM) : qAE g k zX12_keep (qL j r) 0 [some (.inr (some 77))] [] (qL j r, M) (f_X12_keep n  M) := by
  unfold f_X12_keep
  refine qr_aload_n o (q_dm dm_X12_keep 0 rfl) rfl ?_
  refine qr_iconst o (q_dm dm_X12_keep 1 rfl) ic_1 ?_
  refine qr_putz (kf := 67) o cf_X12 (sh77 j r) rfl (Nat.le_of_ble_eq_true rfl) fl_X12_489 rfl (by decide +kernel) (by decide) (q_dm dm_X12_keep 2 rfl) ?_
  refine qr_letm (fun m1 => ?_)
  refine qr_aload_n o (q_dm dm_X12_keep 3 rfl) rfl ?_
  refine qr_getr (kf := 0) o cf_X12 (sh77 j r) rfl (Nat.le_of_ble_eq_true rfl) fl_X12_7 (q_dm dm_X12_keep 4 rfl) ?_
  refine qr_aload_n o (q_dm dm_X12_keep 5 rfl) rfl ?_
  refine qr_getr (kf := 2) o cf_X12 (sh77 j r) rfl (Nat.le_of_ble_eq_true rfl) fl_X12_16 (q_dm dm_X12_keep 6 rfl) ?_
  refine qr_calls_v (As := [.inr (some 78), .inr (some 80)]) (S := []) o (a_X12_copies g k.2.1 n j r hj hr (sh78 j r) (sh80 j r) m1) (Nat.le_of_ble_eq_true rfl) zs_X12_copies rfl ml_X12_319 (Nat.le_of_ble_eq_true rfl) (q_dm dm_X12_keep 7 rfl) (fun _ m2 => ?_)
  refine qr_aload_n o (q_dm dm_X12_keep 8 rfl) rfl ?_
  refine qr_getr (kf := 0) o cf_X12 (sh77 j r) rfl (Nat.le_of_ble_eq_true rfl) fl_X12_7 (q_dm dm_X12_keep 9 rfl) ?_
  refine qr_sipush o (q_dm dm_X12_keep 10 rfl) si_313 ?_
  refine qr_iald0 (c := 313) o (sh78 j r) (by decide) (by decide) (q_dm dm_X12_keep 11 rfl) ?_
  exact qr_iret o rfl rfl (q_dm dm_X12_keep 12 rfl)

theorem a_X12_keep (g : qG) (l : Launch) (n : Nat) (j r : Nat) (hj : q_isLaw j) (hr : q_isLaw r) (M : qM) : qAM g l 1 zX12_keep (qL j r) [.inr (some 77)] (qL j r, M) (f_X12_keep n  M) :=
  qAM.of zv_X12_keep.1 (by show 1 ≤ 1; decide) (fun k hk o => w_X12_keep n j r hj hr o  M)
def tb_X12_kind : List (Nat × Instr × Nat) := [(0, (.iload_n 1, 1)), (1, (.iconst 0, 1)), (2, (.bipush 11, 2)), (4, (.invokestatic 153, 3)), (7, (.ifCond .eq 57, 3)), (10, (.aload_n 0, 1)), (11, (.iload_n 1, 1)), (12, (.invokevirtual 157, 3)), (15, (.ifCond .ne 49, 3)), (18, (.iload_n 2, 1)), (19, (.iconst 1, 1)), (20, (.bipush 12, 2)), (22, (.invokestatic 153, 3)), (25, (.ifCond .eq 39, 3)), (28, (.iload_n 3, 1)), (29, (.iconst 0, 1)), (30, (.sipush 255, 3)), (33, (.invokestatic 153, 3)), (36, (.ifCond .eq 28, 3)), (39, (.iload 4, 2)), (41, (.ifCond .lt 23, 3)), (44, (.iload 4, 2)), (46, (.iconst 1, 1)), (47, (.iload_n 1, 1)), (48, (.ishl, 1)), (49, (.if_icmp .ge 15, 3)), (52, (.iload 4, 2)), (54, (.aload_n 0, 1)), (55, (.getfield 145, 3)), (58, (.iconst (-1), 1)), (59, (.ixor, 1)), (60, (.iand, 1)), (61, (.ifCond .eq 5, 3)), (64, (.iconst 0, 1)), (65, (.ireturn, 1)), (66, (.aload_n 0, 1)), (67, (.aload_n 0, 1)), (68, (.getfield 145, 3)), (71, (.iconst 1, 1)), (72, (.iload_n 1, 1)), (73, (.ishl, 1)), (74, (.ior, 1)), (75, (.putfield 145, 3)), (78, (.aload_n 0, 1)), (79, (.getfield 19, 3)), (82, (.iload_n 1, 1)), (83, (.iload_n 2, 1)), (84, (.iastore, 1)), (85, (.aload_n 0, 1)), (86, (.getfield 22, 3)), (89, (.iload_n 1, 1)), (90, (.iload_n 3, 1)), (91, (.iastore, 1)), (92, (.aload_n 0, 1)), (93, (.getfield 25, 3)), (96, (.iload_n 1, 1)), (97, (.iload 4, 2)), (99, (.iastore, 1)), (100, (.iconst 1, 1)), (101, (.ireturn, 1))]
theorem dm_X12_kind : ∀ q ∈ tb_X12_kind, decode zX12_kind.2.1 q.1 = .ok q.2 := by decide +kernel
def f_X12_kind (n : Nat) (a1 a2 a3 a4 : Int32) (M : qM) : qR :=
  qc (f_X12_in n a1 (0 : Int32) (11 : Int32) M) (fun r1 m2 => (if r1 = (0 : Int32) then some ((0 : Int32), m2) else qc (f_X12_isKind n a1 m2) (fun r3 m4 => (if r3 = (0 : Int32) then qc (f_X12_in n a2 (1 : Int32) (12 : Int32) m4) (fun r5 m6 => (if r5 = (0 : Int32) then some ((0 : Int32), m6) else qc (f_X12_in n a3 (0 : Int32) (255 : Int32) m6) (fun r7 m8 => (if r7 = (0 : Int32) then some ((0 : Int32), m8) else (if a4 < (0 : Int32) then some ((0 : Int32), m8) else (if ((1 : Int32) <<< (a1 &&& 31)) ≤ a4 then some ((0 : Int32), m8) else (if (a4 &&& ((m8 77 6) ^^^ (-1 : Int32))) = (0 : Int32) then qlm (mu m8 77 6 ((m8 77 6) ||| ((1 : Int32) <<< (a1 &&& 31)))) (fun m9 => qg a1 13 (qlm (mu m9 81 a1.toNatClampNeg a2) (fun m10 => qg a1 13 (qlm (mu m10 82 a1.toNatClampNeg a3) (fun m11 => qg a1 13 (qlm (mu m11 83 a1.toNatClampNeg a4) (fun m12 => some ((1 : Int32), m12)))))))) else some ((0 : Int32), m8)))))))) else some ((0 : Int32), m4)))))
set_option maxRecDepth 4000 in
theorem w_X12_kind {g : qG} {k : qK} (n : Nat) (j r : Nat) (hj : q_isLaw j) (hr : q_isLaw r) (o : qOk g 2 zX12_kind k) (a1 a2 a3 a4 : Int32) (M : qM) : qAE g k zX12_kind (qL j r) 0 [some (.inr (some 77)), some (.inl a1), some (.inl a2), some (.inl a3), some (.inl a4)] [] (qL j r, M) (f_X12_kind n a1 a2 a3 a4 M) := by
  unfold f_X12_kind
  refine qr_iload_n o (q_dm dm_X12_kind 0 rfl) rfl ?_
  refine qr_iconst o (q_dm dm_X12_kind 1 rfl) ic_0 ?_
  refine qr_bipush o (q_dm dm_X12_kind 2 rfl) bi_11 ?_
  refine qr_calls_i (As := [.inl a1, .inl (0 : Int32), .inl (11 : Int32)]) (S := []) o (a_X12_in g k.2.1 n j r hj hr a1 (0 : Int32) (11 : Int32) M) (Nat.le_of_ble_eq_true rfl) zs_X12_in rfl ml_X12_153 (Nat.le_of_ble_eq_true rfl) (q_dm dm_X12_kind 3 rfl) (fun r1 m2 => ?_)
  refine qr_if_eq (tgt := 64) o (q_dm dm_X12_kind 4 rfl) (by decide) ?_ ?_
  · refine qr_iconst o (q_dm dm_X12_kind 33 rfl) ic_0 ?_
    exact qr_iret o rfl (by decide) (q_dm dm_X12_kind 34 rfl)
  · refine qr_aload_n o (q_dm dm_X12_kind 5 rfl) rfl ?_
    refine qr_iload_n o (q_dm dm_X12_kind 6 rfl) rfl ?_
    refine qr_callv_i (As := [.inl a1]) (S := []) o (a_X12_isKind g k.2.1 n j r hj hr a1 m2) (Nat.le_of_ble_eq_true rfl) zv_X12_isKind rfl cf_X12 (sh77 j r) ml_X12_157 (Nat.le_of_ble_eq_true rfl) (q_dm dm_X12_kind 7 rfl) (fun r3 m4 => ?_)
    refine qr_if_ne (tgt := 64) o (q_dm dm_X12_kind 8 rfl) (by decide) ?_ ?_
    · refine qr_iconst o (q_dm dm_X12_kind 33 rfl) ic_0 ?_
      exact qr_iret o rfl (by decide) (q_dm dm_X12_kind 34 rfl)
    · refine qr_iload_n o (q_dm dm_X12_kind 9 rfl) rfl ?_
      refine qr_iconst o (q_dm dm_X12_kind 10 rfl) ic_1 ?_
      refine qr_bipush o (q_dm dm_X12_kind 11 rfl) bi_12 ?_
      refine qr_calls_i (As := [.inl a2, .inl (1 : Int32), .inl (12 : Int32)]) (S := []) o (a_X12_in g k.2.1 n j r hj hr a2 (1 : Int32) (12 : Int32) m4) (Nat.le_of_ble_eq_true rfl) zs_X12_in rfl ml_X12_153 (Nat.le_of_ble_eq_true rfl) (q_dm dm_X12_kind 12 rfl) (fun r5 m6 => ?_)
      refine qr_if_eq (tgt := 64) o (q_dm dm_X12_kind 13 rfl) (by decide) ?_ ?_
      · refine qr_iconst o (q_dm dm_X12_kind 33 rfl) ic_0 ?_
        exact qr_iret o rfl (by decide) (q_dm dm_X12_kind 34 rfl)
      · refine qr_iload_n o (q_dm dm_X12_kind 14 rfl) rfl ?_
        refine qr_iconst o (q_dm dm_X12_kind 15 rfl) ic_0 ?_
        refine qr_sipush o (q_dm dm_X12_kind 16 rfl) si_255 ?_
        refine qr_calls_i (As := [.inl a3, .inl (0 : Int32), .inl (255 : Int32)]) (S := []) o (a_X12_in g k.2.1 n j r hj hr a3 (0 : Int32) (255 : Int32) m6) (Nat.le_of_ble_eq_true rfl) zs_X12_in rfl ml_X12_153 (Nat.le_of_ble_eq_true rfl) (q_dm dm_X12_kind 17 rfl) (fun r7 m8 => ?_)
        refine qr_if_eq (tgt := 64) o (q_dm dm_X12_kind 18 rfl) (by decide) ?_ ?_
        · refine qr_iconst o (q_dm dm_X12_kind 33 rfl) ic_0 ?_
          exact qr_iret o rfl (by decide) (q_dm dm_X12_kind 34 rfl)
        · refine qr_iload o (q_dm dm_X12_kind 19 rfl) rfl ?_
          refine qr_if_lt (tgt := 64) o (q_dm dm_X12_kind 20 rfl) (by decide) ?_ ?_
          · refine qr_iconst o (q_dm dm_X12_kind 33 rfl) ic_0 ?_
            exact qr_iret o rfl (by decide) (q_dm dm_X12_kind 34 rfl)
          · refine qr_iload o (q_dm dm_X12_kind 21 rfl) rfl ?_
            refine qr_iconst o (q_dm dm_X12_kind 22 rfl) ic_1 ?_
            refine qr_iload_n o (q_dm dm_X12_kind 23 rfl) rfl ?_
            refine qr_ishl o (q_dm dm_X12_kind 24 rfl) ?_
            refine qr_icmp_ge (tgt := 64) o (q_dm dm_X12_kind 25 rfl) (by decide) ?_ ?_
            · refine qr_iconst o (q_dm dm_X12_kind 33 rfl) ic_0 ?_
              exact qr_iret o rfl (by decide) (q_dm dm_X12_kind 34 rfl)
            · refine qr_iload o (q_dm dm_X12_kind 26 rfl) rfl ?_
              refine qr_aload_n o (q_dm dm_X12_kind 27 rfl) rfl ?_
              refine qr_getf (kf := 6) o cf_X12 (sh77 j r) rfl (Nat.le_of_ble_eq_true rfl) fl_X12_145 (q_dm dm_X12_kind 28 rfl) ?_
              refine qr_iconst o (q_dm dm_X12_kind 29 rfl) ic_m1 ?_
              refine qr_ixor o (q_dm dm_X12_kind 30 rfl) ?_
              refine qr_iand o (q_dm dm_X12_kind 31 rfl) ?_
              refine qr_if_eq (tgt := 66) o (q_dm dm_X12_kind 32 rfl) (by decide) ?_ ?_
              · refine qr_aload_n o (q_dm dm_X12_kind 35 rfl) rfl ?_
                refine qr_aload_n o (q_dm dm_X12_kind 36 rfl) rfl ?_
                refine qr_getf (kf := 6) o cf_X12 (sh77 j r) rfl (Nat.le_of_ble_eq_true rfl) fl_X12_145 (q_dm dm_X12_kind 37 rfl) ?_
                refine qr_iconst o (q_dm dm_X12_kind 38 rfl) ic_1 ?_
                refine qr_iload_n o (q_dm dm_X12_kind 39 rfl) rfl ?_
                refine qr_ishl o (q_dm dm_X12_kind 40 rfl) ?_
                refine qr_ior o (q_dm dm_X12_kind 41 rfl) ?_
                refine qr_putf (kf := 6) o cf_X12 (sh77 j r) rfl (Nat.le_of_ble_eq_true rfl) fl_X12_145 rfl (by decide +kernel) (q_dm dm_X12_kind 42 rfl) ?_
                refine qr_letm (fun m9 => ?_)
                refine qr_aload_n o (q_dm dm_X12_kind 43 rfl) rfl ?_
                refine qr_getr (kf := 3) o cf_X12 (sh77 j r) rfl (Nat.le_of_ble_eq_true rfl) fl_X12_19 (q_dm dm_X12_kind 44 rfl) ?_
                refine qr_iload_n o (q_dm dm_X12_kind 45 rfl) rfl ?_
                refine qr_iload_n o (q_dm dm_X12_kind 46 rfl) rfl ?_
                refine qr_iast o (sh81 j r) (q_dm dm_X12_kind 47 rfl) ?_
                refine qr_letm (fun m10 => ?_)
                refine qr_aload_n o (q_dm dm_X12_kind 48 rfl) rfl ?_
                refine qr_getr (kf := 4) o cf_X12 (sh77 j r) rfl (Nat.le_of_ble_eq_true rfl) fl_X12_22 (q_dm dm_X12_kind 49 rfl) ?_
                refine qr_iload_n o (q_dm dm_X12_kind 50 rfl) rfl ?_
                refine qr_iload_n o (q_dm dm_X12_kind 51 rfl) rfl ?_
                refine qr_iast o (sh82 j r) (q_dm dm_X12_kind 52 rfl) ?_
                refine qr_letm (fun m11 => ?_)
                refine qr_aload_n o (q_dm dm_X12_kind 53 rfl) rfl ?_
                refine qr_getr (kf := 5) o cf_X12 (sh77 j r) rfl (Nat.le_of_ble_eq_true rfl) fl_X12_25 (q_dm dm_X12_kind 54 rfl) ?_
                refine qr_iload_n o (q_dm dm_X12_kind 55 rfl) rfl ?_
                refine qr_iload o (q_dm dm_X12_kind 56 rfl) rfl ?_
                refine qr_iast o (sh83 j r) (q_dm dm_X12_kind 57 rfl) ?_
                refine qr_letm (fun m12 => ?_)
                refine qr_iconst o (q_dm dm_X12_kind 58 rfl) ic_1 ?_
                exact qr_iret o rfl (by decide) (q_dm dm_X12_kind 59 rfl)
              · refine qr_iconst o (q_dm dm_X12_kind 33 rfl) ic_0 ?_
                exact qr_iret o rfl (by decide) (q_dm dm_X12_kind 34 rfl)

theorem a_X12_kind (g : qG) (l : Launch) (n : Nat) (j r : Nat) (hj : q_isLaw j) (hr : q_isLaw r) (a1 a2 a3 a4 : Int32) (M : qM) : qAM g l 2 zX12_kind (qL j r) [.inr (some 77), .inl a1, .inl a2, .inl a3, .inl a4] (qL j r, M) (f_X12_kind n a1 a2 a3 a4 M) :=
  qAM.of zv_X12_kind.1 (by show 5 ≤ 5; decide) (fun k hk o => w_X12_kind n j r hj hr o a1 a2 a3 a4 M)
def tb_X12_lands : List (Nat × Instr × Nat) := [(0, (.aload_n 0, 1)), (1, (.invokevirtual 202, 3)), (4, (.bipush 11, 2)), (6, (.if_icmp .eq 16, 3)), (9, (.iload_n 1, 1)), (10, (.ifCond .eq 63, 3)), (13, (.aload_n 0, 1)), (14, (.invokevirtual 202, 3)), (17, (.bipush 12, 2)), (19, (.if_icmp .ne 54, 3)), (22, (.aload_n 0, 1)), (23, (.getfield 35, 3)), (26, (.aload_n 0, 1)), (27, (.getfield 199, 3)), (30, (.iconst 1, 1)), (31, (.isub, 1)), (32, (.iaload, 1)), (33, (.ldc 195, 2)), (35, (.irem, 1)), (36, (.istore_n 2, 1)), (37, (.aload_n 0, 1)), (38, (.getfield 32, 3)), (41, (.iload_n 2, 1)), (42, (.ldc 195, 2)), (44, (.aload_n 0, 1)), (45, (.getfield 32, 3)), (48, (.iload_n 2, 1)), (49, (.iaload, 1)), (50, (.ldc 195, 2)), (52, (.idiv, 1)), (53, (.imul, 1)), (54, (.aload_n 0, 1)), (55, (.getfield 192, 3)), (58, (.iadd, 1)), (59, (.iastore, 1)), (60, (.aload_n 0, 1)), (61, (.aload_n 0, 1)), (62, (.getfield 199, 3)), (65, (.iconst 1, 1)), (66, (.isub, 1)), (67, (.putfield 199, 3)), (70, (.goto (-70), 3)), (73, (.return_, 1))]
theorem dm_X12_lands : ∀ q ∈ tb_X12_lands, decode zX12_lands.2.1 q.1 = .ok q.2 := by decide +kernel
def f_X12_lands_22 (n : Nat) (K0 : Int32 → qM → qR) (a1 : Int32) (M : qM) : qR :=
  qg ((M 77 15) - (1 : Int32)) 260 (ql ((M 86 ((M 77 15) - (1 : Int32)).toNatClampNeg) - (M 86 ((M 77 15) - (1 : Int32)).toNatClampNeg) / (1048576 : Int32) * (1048576 : Int32)) (fun x1 => qg x1 260 (qg x1 260 (qlm (mu M 85 x1.toNatClampNeg (((1048576 : Int32) * ((M 85 x1.toNatClampNeg) / (1048576 : Int32))) + (M 77 14))) (fun m2 => qlm (mu m2 77 15 ((m2 77 15) - (1 : Int32))) (fun m3 => K0 a1 m3))))))
set_option maxRecDepth 4000 in
theorem w_X12_lands_22 {g : qG} {k : qK} (n : Nat) (j r : Nat) (hj : q_isLaw j) (hr : q_isLaw r) (o : qOk g 1 zX12_lands k) (K0 : Int32 → qM → qR) (hK0 : ∀ (a1 : Int32) (M : qM), qAE g k zX12_lands (qL j r) 0 [some (.inr (some 77)), some (.inl a1), none] [] (qL j r, M) (K0 a1 M)) (a1 : Int32) (M : qM) : qAE g k zX12_lands (qL j r) 22 [some (.inr (some 77)), some (.inl a1), none] [] (qL j r, M) (f_X12_lands_22 n K0 a1 M) := by
  unfold f_X12_lands_22
  refine qr_aload_n o (q_dm dm_X12_lands 10 rfl) rfl ?_
  refine qr_getr (kf := 19) o cf_X12 (sh77 j r) rfl (Nat.le_of_ble_eq_true rfl) fl_X12_35 (q_dm dm_X12_lands 11 rfl) ?_
  refine qr_aload_n o (q_dm dm_X12_lands 12 rfl) rfl ?_
  refine qr_getf (kf := 15) o cf_X12 (sh77 j r) rfl (Nat.le_of_ble_eq_true rfl) fl_X12_199 (q_dm dm_X12_lands 13 rfl) ?_
  refine qr_iconst o (q_dm dm_X12_lands 14 rfl) ic_1 ?_
  refine qr_isub o (q_dm dm_X12_lands 15 rfl) ?_
  refine qr_iald o (sh86 j r) (q_dm dm_X12_lands 16 rfl) ?_
  refine qr_ldc o (q_dm dm_X12_lands 17 rfl) kc_X12_195 ?_
  refine qr_iremc o (q_dm dm_X12_lands 18 rfl) (by decide) ?_
  refine qr_lt (fun x1 => ?_)
  refine qs_istore_n (L' := [some (.inr (some 77)), some (.inl a1), some (.inl x1)]) o (q_dm dm_X12_lands 19 rfl) (Nat.le_of_ble_eq_true rfl) rfl ?_
  refine qr_aload_n o (q_dm dm_X12_lands 20 rfl) rfl ?_
  refine qr_getr (kf := 18) o cf_X12 (sh77 j r) rfl (Nat.le_of_ble_eq_true rfl) fl_X12_32 (q_dm dm_X12_lands 21 rfl) ?_
  refine qr_iload_n o (q_dm dm_X12_lands 22 rfl) rfl ?_
  refine qr_ldc o (q_dm dm_X12_lands 23 rfl) kc_X12_195 ?_
  refine qr_aload_n o (q_dm dm_X12_lands 24 rfl) rfl ?_
  refine qr_getr (kf := 18) o cf_X12 (sh77 j r) rfl (Nat.le_of_ble_eq_true rfl) fl_X12_32 (q_dm dm_X12_lands 25 rfl) ?_
  refine qr_iload_n o (q_dm dm_X12_lands 26 rfl) rfl ?_
  refine qr_iald o (sh85 j r) (q_dm dm_X12_lands 27 rfl) ?_
  refine qr_ldc o (q_dm dm_X12_lands 28 rfl) kc_X12_195 ?_
  refine qr_idivc o (q_dm dm_X12_lands 29 rfl) (by decide) ?_
  refine qr_imul o (q_dm dm_X12_lands 30 rfl) ?_
  refine qr_aload_n o (q_dm dm_X12_lands 31 rfl) rfl ?_
  refine qr_getf (kf := 14) o cf_X12 (sh77 j r) rfl (Nat.le_of_ble_eq_true rfl) fl_X12_192 (q_dm dm_X12_lands 32 rfl) ?_
  refine qr_iadd o (q_dm dm_X12_lands 33 rfl) ?_
  refine qr_iast o (sh85 j r) (q_dm dm_X12_lands 34 rfl) ?_
  refine qr_letm (fun m2 => ?_)
  refine qr_aload_n o (q_dm dm_X12_lands 35 rfl) rfl ?_
  refine qr_aload_n o (q_dm dm_X12_lands 36 rfl) rfl ?_
  refine qr_getf (kf := 15) o cf_X12 (sh77 j r) rfl (Nat.le_of_ble_eq_true rfl) fl_X12_199 (q_dm dm_X12_lands 37 rfl) ?_
  refine qr_iconst o (q_dm dm_X12_lands 38 rfl) ic_1 ?_
  refine qr_isub o (q_dm dm_X12_lands 39 rfl) ?_
  refine qr_putf (kf := 15) o cf_X12 (sh77 j r) rfl (Nat.le_of_ble_eq_true rfl) fl_X12_199 rfl (by decide +kernel) (q_dm dm_X12_lands 40 rfl) ?_
  refine qr_letm (fun m3 => ?_)
  refine qr_goto (tgt := 0) o (q_dm dm_X12_lands 41 rfl) (by decide) ?_
  exact qr_loc (q_leS (q_leS (q_leN q_le0))) (hK0 a1 m3)

def b_X12_lands_0 (n : Nat) (K0 : Int32 → qM → qR) (a1 : Int32) (M : qM) : qR :=
  qc (f_X12_waitTop n  M) (fun r1 m2 => (if r1 = (11 : Int32) then f_X12_lands_22 n K0 a1 m2 else (if a1 = (0 : Int32) then some (0, m2) else qc (f_X12_waitTop n  m2) (fun r3 m4 => (if r3 = (12 : Int32) then f_X12_lands_22 n K0 a1 m4 else some (0, m4))))))
set_option maxRecDepth 4000 in
theorem wb_X12_lands_0 {g : qG} {k : qK} (n : Nat) (j r : Nat) (hj : q_isLaw j) (hr : q_isLaw r) (o : qOk g 1 zX12_lands k) (K0 : Int32 → qM → qR) (hK0 : ∀ (a1 : Int32) (M : qM), qAE g k zX12_lands (qL j r) 0 [some (.inr (some 77)), some (.inl a1), none] [] (qL j r, M) (K0 a1 M)) (a1 : Int32) (M : qM) : qAE g k zX12_lands (qL j r) 0 [some (.inr (some 77)), some (.inl a1), none] [] (qL j r, M) (b_X12_lands_0 n K0 a1 M) := by
  unfold b_X12_lands_0
  refine qr_aload_n o (q_dm dm_X12_lands 0 rfl) rfl ?_
  refine qr_callv_i (As := []) (S := []) o (a_X12_waitTop g k.2.1 n j r hj hr  M) (Nat.le_of_ble_eq_true rfl) zv_X12_waitTop rfl cf_X12 (sh77 j r) ml_X12_202 (Nat.le_of_ble_eq_true rfl) (q_dm dm_X12_lands 1 rfl) (fun r1 m2 => ?_)
  refine qr_bipush o (q_dm dm_X12_lands 2 rfl) bi_11 ?_
  refine qr_icmp_eq (tgt := 22) o (q_dm dm_X12_lands 3 rfl) (by decide) ?_ ?_
  · exact qr_loc (q_leS (q_leS (q_leN q_le0))) (w_X12_lands_22 n j r hj hr o K0 hK0 a1 m2)
  · refine qr_iload_n o (q_dm dm_X12_lands 4 rfl) rfl ?_
    refine qr_if_eq (tgt := 73) o (q_dm dm_X12_lands 5 rfl) (by decide) ?_ ?_
    · exact qr_vret o rfl (q_dm dm_X12_lands 42 rfl)
    · refine qr_aload_n o (q_dm dm_X12_lands 6 rfl) rfl ?_
      refine qr_callv_i (As := []) (S := []) o (a_X12_waitTop g k.2.1 n j r hj hr  m2) (Nat.le_of_ble_eq_true rfl) zv_X12_waitTop rfl cf_X12 (sh77 j r) ml_X12_202 (Nat.le_of_ble_eq_true rfl) (q_dm dm_X12_lands 7 rfl) (fun r3 m4 => ?_)
      refine qr_bipush o (q_dm dm_X12_lands 8 rfl) bi_12 ?_
      refine qr_icmp_ne (tgt := 73) o (q_dm dm_X12_lands 9 rfl) (by decide) ?_ ?_
      · exact qr_vret o rfl (q_dm dm_X12_lands 42 rfl)
      · exact qr_loc (q_leS (q_leS (q_leN q_le0))) (w_X12_lands_22 n j r hj hr o K0 hK0 a1 m4)

def f_X12_lands_0 (n : Nat) : Nat → Int32 → qM → qR
  | 0, _, _ => none
  | m + 1, a1, M => b_X12_lands_0 n (f_X12_lands_0 n m) a1 M
theorem w_X12_lands_0 {g : qG} {k : qK} (n : Nat) (j r : Nat) (hj : q_isLaw j) (hr : q_isLaw r) (o : qOk g 1 zX12_lands k) : ∀ (m : Nat) (a1 : Int32) (M : qM), qAE g k zX12_lands (qL j r) 0 [some (.inr (some 77)), some (.inl a1), none] [] (qL j r, M) (f_X12_lands_0 n m a1 M) := by
  intro m
  induction m with
  | zero =>
    intro a1 M
    exact qr_none
  | succ m ih =>
    intro a1 M
    exact wb_X12_lands_0 n j r hj hr o (f_X12_lands_0 n m) ih a1 M
def f_X12_lands (n : Nat) (a1 : Int32) (M : qM) : qR :=
  f_X12_lands_0 n n a1 M
set_option maxRecDepth 4000 in
theorem w_X12_lands {g : qG} {k : qK} (n : Nat) (j r : Nat) (hj : q_isLaw j) (hr : q_isLaw r) (o : qOk g 1 zX12_lands k) (a1 : Int32) (M : qM) : qAE g k zX12_lands (qL j r) 0 [some (.inr (some 77)), some (.inl a1), none] [] (qL j r, M) (f_X12_lands n a1 M) := by
  unfold f_X12_lands
  exact qr_loc (q_leS (q_leS (q_leN q_le0))) (w_X12_lands_0 n j r hj hr o n a1 M)

theorem a_X12_lands (g : qG) (l : Launch) (n : Nat) (j r : Nat) (hj : q_isLaw j) (hr : q_isLaw r) (a1 : Int32) (M : qM) : qAM g l 1 zX12_lands (qL j r) [.inr (some 77), .inl a1] (qL j r, M) (f_X12_lands n a1 M) :=
  qAM.of zv_X12_lands.1 (by show 2 ≤ 3; decide) (fun k hk o => w_X12_lands n j r hj hr o a1 M)
def tb_X12_opens : List (Nat × Instr × Nat) := [(0, (.aload_n 0, 1)), (1, (.getfield 196, 3)), (4, (.bipush 6, 2)), (6, (.if_icmp .ne 13, 3)), (9, (.aload_n 0, 1)), (10, (.iconst 5, 1)), (11, (.aload_n 0, 1)), (12, (.getfield 169, 3)), (15, (.invokevirtual 182, 3)), (18, (.ireturn, 1)), (19, (.aload_n 0, 1)), (20, (.aload_n 0, 1)), (21, (.getfield 196, 3)), (24, (.iconst 1, 1)), (25, (.iadd, 1)), (26, (.putfield 196, 3)), (29, (.aload_n 0, 1)), (30, (.getfield 35, 3)), (33, (.aload_n 0, 1)), (34, (.getfield 199, 3)), (37, (.ldc 195, 2)), (39, (.iload_n 1, 1)), (40, (.imul, 1)), (41, (.iastore, 1)), (42, (.aload_n 0, 1)), (43, (.aload_n 0, 1)), (44, (.getfield 199, 3)), (47, (.iconst 1, 1)), (48, (.iadd, 1)), (49, (.putfield 199, 3)), (52, (.aload_n 0, 1)), (53, (.aload_n 0, 1)), (54, (.getfield 169, 3)), (57, (.iconst 1, 1)), (58, (.iadd, 1)), (59, (.putfield 169, 3)), (62, (.iconst 1, 1)), (63, (.ireturn, 1))]
theorem dm_X12_opens : ∀ q ∈ tb_X12_opens, decode zX12_opens.2.1 q.1 = .ok q.2 := by decide +kernel
def f_X12_opens (n : Nat) (a1 : Int32) (M : qM) : qR :=
  (if (M 77 13) = (6 : Int32) then qc (f_X12_wrongAt n (5 : Int32) (M 77 9) M) (fun r5 m6 => qb r5 (some (r5, m6))) else qlm (mu M 77 13 ((M 77 13) + (1 : Int32))) (fun m1 => qg (m1 77 15) 260 (qlm (mu m1 86 (m1 77 15).toNatClampNeg ((1048576 : Int32) * a1)) (fun m2 => qlm (mu m2 77 15 ((m2 77 15) + (1 : Int32))) (fun m3 => qlm (mu m3 77 9 ((m3 77 9) + (1 : Int32))) (fun m4 => some ((1 : Int32), m4)))))))
set_option maxRecDepth 4000 in
theorem w_X12_opens {g : qG} {k : qK} (n : Nat) (j r : Nat) (hj : q_isLaw j) (hr : q_isLaw r) (o : qOk g 1 zX12_opens k) (a1 : Int32) (M : qM) : qAE g k zX12_opens (qL j r) 0 [some (.inr (some 77)), some (.inl a1)] [] (qL j r, M) (f_X12_opens n a1 M) := by
  unfold f_X12_opens
  refine qr_aload_n o (q_dm dm_X12_opens 0 rfl) rfl ?_
  refine qr_getf (kf := 13) o cf_X12 (sh77 j r) rfl (Nat.le_of_ble_eq_true rfl) fl_X12_196 (q_dm dm_X12_opens 1 rfl) ?_
  refine qr_bipush o (q_dm dm_X12_opens 2 rfl) bi_6 ?_
  refine qr_icmp_ne (tgt := 19) o (q_dm dm_X12_opens 3 rfl) (by decide) ?_ ?_
  · refine qr_aload_n o (q_dm dm_X12_opens 10 rfl) rfl ?_
    refine qr_aload_n o (q_dm dm_X12_opens 11 rfl) rfl ?_
    refine qr_getf (kf := 13) o cf_X12 (sh77 j r) rfl (Nat.le_of_ble_eq_true rfl) fl_X12_196 (q_dm dm_X12_opens 12 rfl) ?_
    refine qr_iconst o (q_dm dm_X12_opens 13 rfl) ic_1 ?_
    refine qr_iadd o (q_dm dm_X12_opens 14 rfl) ?_
    refine qr_putf (kf := 13) o cf_X12 (sh77 j r) rfl (Nat.le_of_ble_eq_true rfl) fl_X12_196 rfl (by decide +kernel) (q_dm dm_X12_opens 15 rfl) ?_
    refine qr_letm (fun m1 => ?_)
    refine qr_aload_n o (q_dm dm_X12_opens 16 rfl) rfl ?_
    refine qr_getr (kf := 19) o cf_X12 (sh77 j r) rfl (Nat.le_of_ble_eq_true rfl) fl_X12_35 (q_dm dm_X12_opens 17 rfl) ?_
    refine qr_aload_n o (q_dm dm_X12_opens 18 rfl) rfl ?_
    refine qr_getf (kf := 15) o cf_X12 (sh77 j r) rfl (Nat.le_of_ble_eq_true rfl) fl_X12_199 (q_dm dm_X12_opens 19 rfl) ?_
    refine qr_ldc o (q_dm dm_X12_opens 20 rfl) kc_X12_195 ?_
    refine qr_iload_n o (q_dm dm_X12_opens 21 rfl) rfl ?_
    refine qr_imul o (q_dm dm_X12_opens 22 rfl) ?_
    refine qr_iast o (sh86 j r) (q_dm dm_X12_opens 23 rfl) ?_
    refine qr_letm (fun m2 => ?_)
    refine qr_aload_n o (q_dm dm_X12_opens 24 rfl) rfl ?_
    refine qr_aload_n o (q_dm dm_X12_opens 25 rfl) rfl ?_
    refine qr_getf (kf := 15) o cf_X12 (sh77 j r) rfl (Nat.le_of_ble_eq_true rfl) fl_X12_199 (q_dm dm_X12_opens 26 rfl) ?_
    refine qr_iconst o (q_dm dm_X12_opens 27 rfl) ic_1 ?_
    refine qr_iadd o (q_dm dm_X12_opens 28 rfl) ?_
    refine qr_putf (kf := 15) o cf_X12 (sh77 j r) rfl (Nat.le_of_ble_eq_true rfl) fl_X12_199 rfl (by decide +kernel) (q_dm dm_X12_opens 29 rfl) ?_
    refine qr_letm (fun m3 => ?_)
    refine qr_aload_n o (q_dm dm_X12_opens 30 rfl) rfl ?_
    refine qr_aload_n o (q_dm dm_X12_opens 31 rfl) rfl ?_
    refine qr_getf (kf := 9) o cf_X12 (sh77 j r) rfl (Nat.le_of_ble_eq_true rfl) fl_X12_169 (q_dm dm_X12_opens 32 rfl) ?_
    refine qr_iconst o (q_dm dm_X12_opens 33 rfl) ic_1 ?_
    refine qr_iadd o (q_dm dm_X12_opens 34 rfl) ?_
    refine qr_putf (kf := 9) o cf_X12 (sh77 j r) rfl (Nat.le_of_ble_eq_true rfl) fl_X12_169 rfl (by decide +kernel) (q_dm dm_X12_opens 35 rfl) ?_
    refine qr_letm (fun m4 => ?_)
    refine qr_iconst o (q_dm dm_X12_opens 36 rfl) ic_1 ?_
    exact qr_iret o rfl (by decide) (q_dm dm_X12_opens 37 rfl)
  · refine qr_aload_n o (q_dm dm_X12_opens 4 rfl) rfl ?_
    refine qr_iconst o (q_dm dm_X12_opens 5 rfl) ic_5 ?_
    refine qr_aload_n o (q_dm dm_X12_opens 6 rfl) rfl ?_
    refine qr_getf (kf := 9) o cf_X12 (sh77 j r) rfl (Nat.le_of_ble_eq_true rfl) fl_X12_169 (q_dm dm_X12_opens 7 rfl) ?_
    refine qr_callv_i (As := [.inl (5 : Int32), .inl (M 77 9)]) (S := []) o (a_X12_wrongAt g k.2.1 n j r hj hr (5 : Int32) (M 77 9) M) (Nat.le_of_ble_eq_true rfl) zv_X12_wrongAt rfl cf_X12 (sh77 j r) ml_X12_182 (Nat.le_of_ble_eq_true rfl) (q_dm dm_X12_opens 8 rfl) (fun r5 m6 => ?_)
    exact qr_zret o rfl (q_dm dm_X12_opens 9 rfl)

theorem a_X12_opens (g : qG) (l : Launch) (n : Nat) (j r : Nat) (hj : q_isLaw j) (hr : q_isLaw r) (a1 : Int32) (M : qM) : qAM g l 1 zX12_opens (qL j r) [.inr (some 77), .inl a1] (qL j r, M) (f_X12_opens n a1 M) :=
  qAM.of zv_X12_opens.1 (by show 2 ≤ 2; decide) (fun k hk o => w_X12_opens n j r hj hr o a1 M)
def tb_X12_readsNumber : List (Nat × Instr × Nat) := [(0, (.aload_n 0, 1)), (1, (.getfield 169, 3)), (4, (.istore_n 1, 1)), (5, (.aload_n 0, 1)), (6, (.iconst 0, 1)), (7, (.putfield 185, 3)), (10, (.aload_n 0, 1)), (11, (.invokevirtual 188, 3)), (14, (.ifCond .eq 55, 3)), (17, (.aload_n 0, 1)), (18, (.getfield 169, 3)), (21, (.iload_n 1, 1)), (22, (.iconst 5, 1)), (23, (.iadd, 1)), (24, (.if_icmp .ne 13, 3)), (27, (.aload_n 0, 1)), (28, (.iconst 2, 1)), (29, (.aload_n 0, 1)), (30, (.getfield 169, 3)), (33, (.invokevirtual 182, 3)), (36, (.ireturn, 1)), (37, (.aload_n 0, 1)), (38, (.bipush 10, 2)), (40, (.aload_n 0, 1)), (41, (.getfield 185, 3)), (44, (.imul, 1)), (45, (.aload_n 0, 1)), (46, (.invokevirtual 175, 3)), (49, (.iadd, 1)), (50, (.bipush 48, 2)), (52, (.isub, 1)), (53, (.putfield 185, 3)), (56, (.aload_n 0, 1)), (57, (.aload_n 0, 1)), (58, (.getfield 169, 3)), (61, (.iconst 1, 1)), (62, (.iadd, 1)), (63, (.putfield 169, 3)), (66, (.goto (-56), 3)), (69, (.iconst 1, 1)), (70, (.ireturn, 1))]
theorem dm_X12_readsNumber : ∀ q ∈ tb_X12_readsNumber, decode zX12_readsNumber.2.1 q.1 = .ok q.2 := by decide +kernel
def b_X12_readsNumber_10 (n : Nat) (K10 : Int32 → qM → qR) (a1 : Int32) (M : qM) : qR :=
  qc (f_X12_isDigit n  M) (fun r1 m2 => (if r1 = (0 : Int32) then some ((1 : Int32), m2) else (if (m2 77 9) = (a1 + (5 : Int32)) then qc (f_X12_wrongAt n (2 : Int32) (m2 77 9) m2) (fun r7 m8 => qb r7 (some (r7, m8))) else qc (f_X12_here n  m2) (fun r3 m4 => qlm (mu m4 77 12 ((((10 : Int32) * (m2 77 12)) + r3) - (48 : Int32))) (fun m5 => qlm (mu m5 77 9 ((m5 77 9) + (1 : Int32))) (fun m6 => K10 a1 m6))))))
set_option maxRecDepth 4000 in
theorem wb_X12_readsNumber_10 {g : qG} {k : qK} (n : Nat) (j r : Nat) (hj : q_isLaw j) (hr : q_isLaw r) (o : qOk g 2 zX12_readsNumber k) (K10 : Int32 → qM → qR) (hK10 : ∀ (a1 : Int32) (M : qM), qAE g k zX12_readsNumber (qL j r) 10 [some (.inr (some 77)), some (.inl a1)] [] (qL j r, M) (K10 a1 M)) (a1 : Int32) (M : qM) : qAE g k zX12_readsNumber (qL j r) 10 [some (.inr (some 77)), some (.inl a1)] [] (qL j r, M) (b_X12_readsNumber_10 n K10 a1 M) := by
  unfold b_X12_readsNumber_10
  refine qr_aload_n o (q_dm dm_X12_readsNumber 6 rfl) rfl ?_
  refine qr_callv_i (As := []) (S := []) o (a_X12_isDigit g k.2.1 n j r hj hr  M) (Nat.le_of_ble_eq_true rfl) zv_X12_isDigit rfl cf_X12 (sh77 j r) ml_X12_188 (Nat.le_of_ble_eq_true rfl) (q_dm dm_X12_readsNumber 7 rfl) (fun r1 m2 => ?_)
  refine qr_if_eq (tgt := 69) o (q_dm dm_X12_readsNumber 8 rfl) (by decide) ?_ ?_
  · refine qr_iconst o (q_dm dm_X12_readsNumber 39 rfl) ic_1 ?_
    exact qr_iret o rfl (by decide) (q_dm dm_X12_readsNumber 40 rfl)
  · refine qr_aload_n o (q_dm dm_X12_readsNumber 9 rfl) rfl ?_
    refine qr_getf (kf := 9) o cf_X12 (sh77 j r) rfl (Nat.le_of_ble_eq_true rfl) fl_X12_169 (q_dm dm_X12_readsNumber 10 rfl) ?_
    refine qr_iload_n o (q_dm dm_X12_readsNumber 11 rfl) rfl ?_
    refine qr_iconst o (q_dm dm_X12_readsNumber 12 rfl) ic_5 ?_
    refine qr_iadd o (q_dm dm_X12_readsNumber 13 rfl) ?_
    refine qr_icmp_ne (tgt := 37) o (q_dm dm_X12_readsNumber 14 rfl) (by decide) ?_ ?_
    · refine qr_aload_n o (q_dm dm_X12_readsNumber 21 rfl) rfl ?_
      refine qr_bipush o (q_dm dm_X12_readsNumber 22 rfl) bi_10 ?_
      refine qr_aload_n o (q_dm dm_X12_readsNumber 23 rfl) rfl ?_
      refine qr_getf (kf := 12) o cf_X12 (sh77 j r) rfl (Nat.le_of_ble_eq_true rfl) fl_X12_185 (q_dm dm_X12_readsNumber 24 rfl) ?_
      refine qr_imul o (q_dm dm_X12_readsNumber 25 rfl) ?_
      refine qr_aload_n o (q_dm dm_X12_readsNumber 26 rfl) rfl ?_
      refine qr_callv_i (As := []) (S := [.inl ((10 : Int32) * (m2 77 12)), .inr (some 77)]) o (a_X12_here g k.2.1 n j r hj hr  m2) (Nat.le_of_ble_eq_true rfl) zv_X12_here rfl cf_X12 (sh77 j r) ml_X12_175 (Nat.le_of_ble_eq_true rfl) (q_dm dm_X12_readsNumber 27 rfl) (fun r3 m4 => ?_)
      refine qr_iadd o (q_dm dm_X12_readsNumber 28 rfl) ?_
      refine qr_bipush o (q_dm dm_X12_readsNumber 29 rfl) bi_48 ?_
      refine qr_isub o (q_dm dm_X12_readsNumber 30 rfl) ?_
      refine qr_putf (kf := 12) o cf_X12 (sh77 j r) rfl (Nat.le_of_ble_eq_true rfl) fl_X12_185 rfl (by decide +kernel) (q_dm dm_X12_readsNumber 31 rfl) ?_
      refine qr_letm (fun m5 => ?_)
      refine qr_aload_n o (q_dm dm_X12_readsNumber 32 rfl) rfl ?_
      refine qr_aload_n o (q_dm dm_X12_readsNumber 33 rfl) rfl ?_
      refine qr_getf (kf := 9) o cf_X12 (sh77 j r) rfl (Nat.le_of_ble_eq_true rfl) fl_X12_169 (q_dm dm_X12_readsNumber 34 rfl) ?_
      refine qr_iconst o (q_dm dm_X12_readsNumber 35 rfl) ic_1 ?_
      refine qr_iadd o (q_dm dm_X12_readsNumber 36 rfl) ?_
      refine qr_putf (kf := 9) o cf_X12 (sh77 j r) rfl (Nat.le_of_ble_eq_true rfl) fl_X12_169 rfl (by decide +kernel) (q_dm dm_X12_readsNumber 37 rfl) ?_
      refine qr_letm (fun m6 => ?_)
      refine qr_goto (tgt := 10) o (q_dm dm_X12_readsNumber 38 rfl) (by decide) ?_
      exact qr_loc (q_leS (q_leS q_le0)) (hK10 a1 m6)
    · refine qr_aload_n o (q_dm dm_X12_readsNumber 15 rfl) rfl ?_
      refine qr_iconst o (q_dm dm_X12_readsNumber 16 rfl) ic_2 ?_
      refine qr_aload_n o (q_dm dm_X12_readsNumber 17 rfl) rfl ?_
      refine qr_getf (kf := 9) o cf_X12 (sh77 j r) rfl (Nat.le_of_ble_eq_true rfl) fl_X12_169 (q_dm dm_X12_readsNumber 18 rfl) ?_
      refine qr_callv_i (As := [.inl (2 : Int32), .inl (m2 77 9)]) (S := []) o (a_X12_wrongAt g k.2.1 n j r hj hr (2 : Int32) (m2 77 9) m2) (Nat.le_of_ble_eq_true rfl) zv_X12_wrongAt rfl cf_X12 (sh77 j r) ml_X12_182 (Nat.le_of_ble_eq_true rfl) (q_dm dm_X12_readsNumber 19 rfl) (fun r7 m8 => ?_)
      exact qr_zret o rfl (q_dm dm_X12_readsNumber 20 rfl)

def f_X12_readsNumber_10 (n : Nat) : Nat → Int32 → qM → qR
  | 0, _, _ => none
  | m + 1, a1, M => b_X12_readsNumber_10 n (f_X12_readsNumber_10 n m) a1 M
theorem w_X12_readsNumber_10 {g : qG} {k : qK} (n : Nat) (j r : Nat) (hj : q_isLaw j) (hr : q_isLaw r) (o : qOk g 2 zX12_readsNumber k) : ∀ (m : Nat) (a1 : Int32) (M : qM), qAE g k zX12_readsNumber (qL j r) 10 [some (.inr (some 77)), some (.inl a1)] [] (qL j r, M) (f_X12_readsNumber_10 n m a1 M) := by
  intro m
  induction m with
  | zero =>
    intro a1 M
    exact qr_none
  | succ m ih =>
    intro a1 M
    exact wb_X12_readsNumber_10 n j r hj hr o (f_X12_readsNumber_10 n m) ih a1 M
def f_X12_readsNumber (n : Nat) (M : qM) : qR :=
  ql (M 77 9) (fun x1 => qlm (mu M 77 12 (0 : Int32)) (fun m2 => f_X12_readsNumber_10 n n x1 m2))
set_option maxRecDepth 4000 in
theorem w_X12_readsNumber {g : qG} {k : qK} (n : Nat) (j r : Nat) (hj : q_isLaw j) (hr : q_isLaw r) (o : qOk g 2 zX12_readsNumber k) (M : qM) : qAE g k zX12_readsNumber (qL j r) 0 [some (.inr (some 77)), none] [] (qL j r, M) (f_X12_readsNumber n  M) := by
  unfold f_X12_readsNumber
  refine qr_aload_n o (q_dm dm_X12_readsNumber 0 rfl) rfl ?_
  refine qr_getf (kf := 9) o cf_X12 (sh77 j r) rfl (Nat.le_of_ble_eq_true rfl) fl_X12_169 (q_dm dm_X12_readsNumber 1 rfl) ?_
  refine qr_lt (fun x1 => ?_)
  refine qs_istore_n (L' := [some (.inr (some 77)), some (.inl x1)]) o (q_dm dm_X12_readsNumber 2 rfl) (Nat.le_of_ble_eq_true rfl) rfl ?_
  refine qr_aload_n o (q_dm dm_X12_readsNumber 3 rfl) rfl ?_
  refine qr_iconst o (q_dm dm_X12_readsNumber 4 rfl) ic_0 ?_
  refine qr_putf (kf := 12) o cf_X12 (sh77 j r) rfl (Nat.le_of_ble_eq_true rfl) fl_X12_185 rfl (by decide +kernel) (q_dm dm_X12_readsNumber 5 rfl) ?_
  refine qr_letm (fun m2 => ?_)
  exact qr_loc (q_leS (q_leS q_le0)) (w_X12_readsNumber_10 n j r hj hr o n x1 m2)

theorem a_X12_readsNumber (g : qG) (l : Launch) (n : Nat) (j r : Nat) (hj : q_isLaw j) (hr : q_isLaw r) (M : qM) : qAM g l 2 zX12_readsNumber (qL j r) [.inr (some 77)] (qL j r, M) (f_X12_readsNumber n  M) :=
  qAM.of zv_X12_readsNumber.1 (by show 1 ≤ 2; decide) (fun k hk o => w_X12_readsNumber n j r hj hr o  M)
