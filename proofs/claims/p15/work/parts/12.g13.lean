def tb_X12_leastPrice : List (Nat × Instr × Nat) := [(0, (.ldc_w 398, 3)), (3, (.istore_n 3, 1)), (4, (.iconst 0, 1)), (5, (.istore 4, 2)), (7, (.iload 4, 2)), (9, (.bipush 8, 2)), (11, (.if_icmp .ge 53, 3)), (14, (.aload_n 0, 1)), (15, (.iload 4, 2)), (17, (.invokevirtual 310, 3)), (20, (.ifCond .eq 38, 3)), (23, (.iload 4, 2)), (25, (.iload_n 1, 1)), (26, (.if_icmp .eq 32, 3)), (29, (.aload_n 0, 1)), (30, (.getfield 7, 3)), (33, (.iconst 0, 1)), (34, (.iload 4, 2)), (36, (.iload_n 2, 1)), (37, (.invokestatic 282, 3)), (40, (.iadd, 1)), (41, (.iaload, 1)), (42, (.ifCond .le 16, 3)), (45, (.iload_n 3, 1)), (46, (.aload_n 0, 1)), (47, (.iload_n 1, 1)), (48, (.iload_n 2, 1)), (49, (.iload 4, 2)), (51, (.invokevirtual 316, 3)), (54, (.invokestatic 307, 3)), (57, (.istore_n 3, 1)), (58, (.iinc 4 1, 3)), (61, (.goto (-54), 3)), (64, (.iload_n 3, 1)), (65, (.ireturn, 1))]
theorem dm_X12_leastPrice : ∀ q ∈ tb_X12_leastPrice, decode zX12_leastPrice.2.1 q.1 = .ok q.2 := by decide +kernel
def b_X12_leastPrice_7 (n : Nat) (K7 : Int32 → Int32 → Int32 → Int32 → qM → qR) (a1 a2 a3 a4 : Int32) (M : qM) : qR :=
  (if (8 : Int32) ≤ a4 then some (a3, M) else qc (f_X12_isPerson n a4 M) (fun r1 m2 => (if r1 = (0 : Int32) then ql (a4 + (1 : Int32)) (fun x3 => K7 a1 a2 a3 x3 m2) else (if a4 = a1 then ql (a4 + (1 : Int32)) (fun x4 => K7 a1 a2 a3 x4 m2) else qc (f_X12_at n a4 a2 m2) (fun r5 m6 => qg ((0 : Int32) + r5) 954 ((if (m6 78 ((0 : Int32) + r5).toNatClampNeg) ≤ (0 : Int32) then ql (a4 + (1 : Int32)) (fun x7 => K7 a1 a2 a3 x7 m6) else qc (f_X12_costOf n a1 a2 a4 m6) (fun r8 m9 => qc (f_X12_min n a3 r8 m9) (fun r10 m11 => ql (a4 + (1 : Int32)) (fun x12 => K7 a1 a2 r10 x12 m11))))))))))
set_option maxRecDepth 4000 in
theorem wb_X12_leastPrice_7 {g : qG} {k : qK} (n : Nat) (j r : Nat) (hj : q_isLaw j) (hr : q_isLaw r) (o : qOk g 4 zX12_leastPrice k) (K7 : Int32 → Int32 → Int32 → Int32 → qM → qR) (hK7 : ∀ (a1 a2 a3 a4 : Int32) (M : qM), qAE g k zX12_leastPrice (qL j r) 7 [some (.inr (some 77)), some (.inl a1), some (.inl a2), some (.inl a3), some (.inl a4)] [] (qL j r, M) (K7 a1 a2 a3 a4 M)) (a1 a2 a3 a4 : Int32) (M : qM) : qAE g k zX12_leastPrice (qL j r) 7 [some (.inr (some 77)), some (.inl a1), some (.inl a2), some (.inl a3), some (.inl a4)] [] (qL j r, M) (b_X12_leastPrice_7 n K7 a1 a2 a3 a4 M) := by
  unfold b_X12_leastPrice_7
  refine qr_iload o (q_dm dm_X12_leastPrice 4 rfl) rfl ?_
  refine qr_bipush o (q_dm dm_X12_leastPrice 5 rfl) bi_8 ?_
  refine qr_icmp_ge (tgt := 64) o (q_dm dm_X12_leastPrice 6 rfl) (by decide) ?_ ?_
  · refine qr_iload_n o (q_dm dm_X12_leastPrice 33 rfl) rfl ?_
    exact qr_iret o rfl rfl (q_dm dm_X12_leastPrice 34 rfl)
  · refine qr_aload_n o (q_dm dm_X12_leastPrice 7 rfl) rfl ?_
    refine qr_iload o (q_dm dm_X12_leastPrice 8 rfl) rfl ?_
    refine qr_callv_i (As := [.inl a4]) (S := []) o (a_X12_isPerson g k.2.1 n j r hj hr a4 M) (Nat.le_of_ble_eq_true rfl) zv_X12_isPerson rfl cf_X12 (sh77 j r) ml_X12_310 (Nat.le_of_ble_eq_true rfl) (q_dm dm_X12_leastPrice 9 rfl) (fun r1 m2 => ?_)
    refine qr_if_eq (tgt := 58) o (q_dm dm_X12_leastPrice 10 rfl) (by decide) ?_ ?_
    · refine qs_iincl2 (L' := fun x3 => [some (.inr (some 77)), some (.inl a1), some (.inl a2), some (.inl a3), some (.inl x3)]) o (q_dm dm_X12_leastPrice 31 rfl) rfl ic_1 (Nat.le_of_ble_eq_true rfl) (fun _ => rfl) (fun x3 => ?_)
      refine qr_goto (tgt := 7) o (q_dm dm_X12_leastPrice 32 rfl) (by decide) ?_
      exact qr_loc (q_leS (q_leS (q_leS (q_leS (q_leS q_le0))))) (hK7 a1 a2 a3 x3 m2)
    · refine qr_iload o (q_dm dm_X12_leastPrice 11 rfl) rfl ?_
      refine qr_iload_n o (q_dm dm_X12_leastPrice 12 rfl) rfl ?_
      refine qr_icmp_eq (tgt := 58) o (q_dm dm_X12_leastPrice 13 rfl) (by decide) ?_ ?_
      · refine qs_iincl2 (L' := fun x4 => [some (.inr (some 77)), some (.inl a1), some (.inl a2), some (.inl a3), some (.inl x4)]) o (q_dm dm_X12_leastPrice 31 rfl) rfl ic_1 (Nat.le_of_ble_eq_true rfl) (fun _ => rfl) (fun x4 => ?_)
        refine qr_goto (tgt := 7) o (q_dm dm_X12_leastPrice 32 rfl) (by decide) ?_
        exact qr_loc (q_leS (q_leS (q_leS (q_leS (q_leS q_le0))))) (hK7 a1 a2 a3 x4 m2)
      · refine qr_aload_n o (q_dm dm_X12_leastPrice 14 rfl) rfl ?_
        refine qr_getr (kf := 0) o cf_X12 (sh77 j r) rfl (Nat.le_of_ble_eq_true rfl) fl_X12_7 (q_dm dm_X12_leastPrice 15 rfl) ?_
        refine qr_iconst o (q_dm dm_X12_leastPrice 16 rfl) ic_0 ?_
        refine qr_iload o (q_dm dm_X12_leastPrice 17 rfl) rfl ?_
        refine qr_iload_n o (q_dm dm_X12_leastPrice 18 rfl) rfl ?_
        refine qr_calls_i (As := [.inl a4, .inl a2]) (S := [.inl (0 : Int32), .inr (some 78)]) o (a_X12_at g k.2.1 n j r hj hr a4 a2 m2) (Nat.le_of_ble_eq_true rfl) zs_X12_at rfl ml_X12_282 (Nat.le_of_ble_eq_true rfl) (q_dm dm_X12_leastPrice 19 rfl) (fun r5 m6 => ?_)
        refine qr_iadd o (q_dm dm_X12_leastPrice 20 rfl) ?_
        refine qr_iald o (sh78 j r) (q_dm dm_X12_leastPrice 21 rfl) ?_
        refine qr_if_le (tgt := 58) o (q_dm dm_X12_leastPrice 22 rfl) (by decide) ?_ ?_
        · refine qs_iincl2 (L' := fun x7 => [some (.inr (some 77)), some (.inl a1), some (.inl a2), some (.inl a3), some (.inl x7)]) o (q_dm dm_X12_leastPrice 31 rfl) rfl ic_1 (Nat.le_of_ble_eq_true rfl) (fun _ => rfl) (fun x7 => ?_)
          refine qr_goto (tgt := 7) o (q_dm dm_X12_leastPrice 32 rfl) (by decide) ?_
          exact qr_loc (q_leS (q_leS (q_leS (q_leS (q_leS q_le0))))) (hK7 a1 a2 a3 x7 m6)
        · refine qr_iload_n o (q_dm dm_X12_leastPrice 23 rfl) rfl ?_
          refine qr_aload_n o (q_dm dm_X12_leastPrice 24 rfl) rfl ?_
          refine qr_iload_n o (q_dm dm_X12_leastPrice 25 rfl) rfl ?_
          refine qr_iload_n o (q_dm dm_X12_leastPrice 26 rfl) rfl ?_
          refine qr_iload o (q_dm dm_X12_leastPrice 27 rfl) rfl ?_
          refine qr_callv_i (As := [.inl a1, .inl a2, .inl a4]) (S := [.inl a3]) o (a_X12_costOf g k.2.1 n j r hj hr a1 a2 a4 m6) (Nat.le_of_ble_eq_true rfl) zv_X12_costOf rfl cf_X12 (sh77 j r) ml_X12_316 (Nat.le_of_ble_eq_true rfl) (q_dm dm_X12_leastPrice 28 rfl) (fun r8 m9 => ?_)
          refine qr_calls_i (As := [.inl a3, .inl r8]) (S := []) o (a_X12_min g k.2.1 n j r hj hr a3 r8 m9) (Nat.le_of_ble_eq_true rfl) zs_X12_min rfl ml_X12_307 (Nat.le_of_ble_eq_true rfl) (q_dm dm_X12_leastPrice 29 rfl) (fun r10 m11 => ?_)
          refine qs_istore_n (L' := [some (.inr (some 77)), some (.inl a1), some (.inl a2), some (.inl r10), some (.inl a4)]) o (q_dm dm_X12_leastPrice 30 rfl) (Nat.le_of_ble_eq_true rfl) rfl ?_
          refine qs_iincl2 (L' := fun x12 => [some (.inr (some 77)), some (.inl a1), some (.inl a2), some (.inl r10), some (.inl x12)]) o (q_dm dm_X12_leastPrice 31 rfl) rfl ic_1 (Nat.le_of_ble_eq_true rfl) (fun _ => rfl) (fun x12 => ?_)
          refine qr_goto (tgt := 7) o (q_dm dm_X12_leastPrice 32 rfl) (by decide) ?_
          exact qr_loc (q_leS (q_leS (q_leS (q_leS (q_leS q_le0))))) (hK7 a1 a2 r10 x12 m11)

def f_X12_leastPrice_7 (n : Nat) : Nat → Int32 → Int32 → Int32 → Int32 → qM → qR
  | 0, _, _, _, _, _ => none
  | m + 1, a1, a2, a3, a4, M => b_X12_leastPrice_7 n (f_X12_leastPrice_7 n m) a1 a2 a3 a4 M
theorem w_X12_leastPrice_7 {g : qG} {k : qK} (n : Nat) (j r : Nat) (hj : q_isLaw j) (hr : q_isLaw r) (o : qOk g 4 zX12_leastPrice k) : ∀ (m : Nat) (a1 a2 a3 a4 : Int32) (M : qM), qAE g k zX12_leastPrice (qL j r) 7 [some (.inr (some 77)), some (.inl a1), some (.inl a2), some (.inl a3), some (.inl a4)] [] (qL j r, M) (f_X12_leastPrice_7 n m a1 a2 a3 a4 M) := by
  intro m
  induction m with
  | zero =>
    intro a1 a2 a3 a4 M
    exact qr_none
  | succ m ih =>
    intro a1 a2 a3 a4 M
    exact wb_X12_leastPrice_7 n j r hj hr o (f_X12_leastPrice_7 n m) ih a1 a2 a3 a4 M
def f_X12_leastPrice (n : Nat) (a1 a2 : Int32) (M : qM) : qR :=
  f_X12_leastPrice_7 n n a1 a2 (1000000000 : Int32) (0 : Int32) M
set_option maxRecDepth 4000 in
theorem w_X12_leastPrice {g : qG} {k : qK} (n : Nat) (j r : Nat) (hj : q_isLaw j) (hr : q_isLaw r) (o : qOk g 4 zX12_leastPrice k) (a1 a2 : Int32) (M : qM) : qAE g k zX12_leastPrice (qL j r) 0 [some (.inr (some 77)), some (.inl a1), some (.inl a2), none, none] [] (qL j r, M) (f_X12_leastPrice n a1 a2 M) := by
  unfold f_X12_leastPrice
  refine qr_ldc_w o (q_dm dm_X12_leastPrice 0 rfl) kc_X12_398 ?_
  refine qs_istore_n (L' := [some (.inr (some 77)), some (.inl a1), some (.inl a2), some (.inl (1000000000 : Int32)), none]) o (q_dm dm_X12_leastPrice 1 rfl) (Nat.le_of_ble_eq_true rfl) rfl ?_
  refine qr_iconst o (q_dm dm_X12_leastPrice 2 rfl) ic_0 ?_
  refine qs_istore (L' := [some (.inr (some 77)), some (.inl a1), some (.inl a2), some (.inl (1000000000 : Int32)), some (.inl (0 : Int32))]) o (q_dm dm_X12_leastPrice 3 rfl) (Nat.le_of_ble_eq_true rfl) rfl ?_
  exact qr_loc (q_leS (q_leS (q_leS (q_leS (q_leS q_le0))))) (w_X12_leastPrice_7 n j r hj hr o n a1 a2 (1000000000 : Int32) (0 : Int32) M)

theorem a_X12_leastPrice (g : qG) (l : Launch) (n : Nat) (j r : Nat) (hj : q_isLaw j) (hr : q_isLaw r) (a1 a2 : Int32) (M : qM) : qAM g l 4 zX12_leastPrice (qL j r) [.inr (some 77), .inl a1, .inl a2] (qL j r, M) (f_X12_leastPrice n a1 a2 M) :=
  qAM.of zv_X12_leastPrice.1 (by show 3 ≤ 5; decide) (fun k hk o => w_X12_leastPrice n j r hj hr o a1 a2 M)
def tb_X12_goesNow : List (Nat × Instr × Nat) := [(0, (.iconst 0, 1)), (1, (.istore_n 1, 1)), (2, (.iconst 0, 1)), (3, (.istore_n 2, 1)), (4, (.iload_n 2, 1)), (5, (.aload_n 0, 1)), (6, (.getfield 365, 3)), (9, (.if_icmp .ge 23, 3)), (12, (.iload_n 1, 1)), (13, (.aload_n 0, 1)), (14, (.getfield 86, 3)), (17, (.aload_n 0, 1)), (18, (.getfield 101, 3)), (21, (.iload_n 2, 1)), (22, (.iaload, 1)), (23, (.iaload, 1)), (24, (.iadd, 1)), (25, (.istore_n 1, 1)), (26, (.iinc 2 1, 3)), (29, (.goto (-25), 3)), (32, (.iload_n 1, 1)), (33, (.ireturn, 1))]
theorem dm_X12_goesNow : ∀ q ∈ tb_X12_goesNow, decode zX12_goesNow.2.1 q.1 = .ok q.2 := by decide +kernel
def b_X12_goesNow_4 (n : Nat) (K4 : Int32 → Int32 → qM → qR) (a1 a2 : Int32) (M : qM) : qR :=
  (if (M 77 43) ≤ a2 then some (a1, M) else qg a2 4 (qg (M 108 a2.toNatClampNeg) 20 (ql (a1 + (M 103 (M 108 a2.toNatClampNeg).toNatClampNeg)) (fun x1 => ql (a2 + (1 : Int32)) (fun x2 => K4 x1 x2 M)))))
set_option maxRecDepth 4000 in
theorem wb_X12_goesNow_4 {g : qG} {k : qK} (n : Nat) (j r : Nat) (hj : q_isLaw j) (hr : q_isLaw r) (o : qOk g 0 zX12_goesNow k) (K4 : Int32 → Int32 → qM → qR) (hK4 : ∀ (a1 a2 : Int32) (M : qM), qAE g k zX12_goesNow (qL j r) 4 [some (.inr (some 77)), some (.inl a1), some (.inl a2)] [] (qL j r, M) (K4 a1 a2 M)) (a1 a2 : Int32) (M : qM) : qAE g k zX12_goesNow (qL j r) 4 [some (.inr (some 77)), some (.inl a1), some (.inl a2)] [] (qL j r, M) (b_X12_goesNow_4 n K4 a1 a2 M) := by
  unfold b_X12_goesNow_4
  refine qr_iload_n o (q_dm dm_X12_goesNow 4 rfl) rfl ?_
  refine qr_aload_n o (q_dm dm_X12_goesNow 5 rfl) rfl ?_
  refine qr_getf (kf := 43) o cf_X12 (sh77 j r) rfl (Nat.le_of_ble_eq_true rfl) fl_X12_365 (q_dm dm_X12_goesNow 6 rfl) ?_
  refine qr_icmp_ge (tgt := 32) o (q_dm dm_X12_goesNow 7 rfl) (by decide) ?_ ?_
  · refine qr_iload_n o (q_dm dm_X12_goesNow 20 rfl) rfl ?_
    exact qr_iret o rfl rfl (q_dm dm_X12_goesNow 21 rfl)
  · refine qr_iload_n o (q_dm dm_X12_goesNow 8 rfl) rfl ?_
    refine qr_aload_n o (q_dm dm_X12_goesNow 9 rfl) rfl ?_
    refine qr_getr (kf := 46) o cf_X12 (sh77 j r) rfl (Nat.le_of_ble_eq_true rfl) fl_X12_86 (q_dm dm_X12_goesNow 10 rfl) ?_
    refine qr_aload_n o (q_dm dm_X12_goesNow 11 rfl) rfl ?_
    refine qr_getr (kf := 51) o cf_X12 (sh77 j r) rfl (Nat.le_of_ble_eq_true rfl) fl_X12_101 (q_dm dm_X12_goesNow 12 rfl) ?_
    refine qr_iload_n o (q_dm dm_X12_goesNow 13 rfl) rfl ?_
    refine qr_iald o (sh108 j r) (q_dm dm_X12_goesNow 14 rfl) ?_
    refine qr_iald o (sh103 j r) (q_dm dm_X12_goesNow 15 rfl) ?_
    refine qr_iadd o (q_dm dm_X12_goesNow 16 rfl) ?_
    refine qr_lt (fun x1 => ?_)
    refine qs_istore_n (L' := [some (.inr (some 77)), some (.inl x1), some (.inl a2)]) o (q_dm dm_X12_goesNow 17 rfl) (Nat.le_of_ble_eq_true rfl) rfl ?_
    refine qs_iincl2 (L' := fun x2 => [some (.inr (some 77)), some (.inl x1), some (.inl x2)]) o (q_dm dm_X12_goesNow 18 rfl) rfl ic_1 (Nat.le_of_ble_eq_true rfl) (fun _ => rfl) (fun x2 => ?_)
    refine qr_goto (tgt := 4) o (q_dm dm_X12_goesNow 19 rfl) (by decide) ?_
    exact qr_loc (q_leS (q_leS (q_leS q_le0))) (hK4 x1 x2 M)

def f_X12_goesNow_4 (n : Nat) : Nat → Int32 → Int32 → qM → qR
  | 0, _, _, _ => none
  | m + 1, a1, a2, M => b_X12_goesNow_4 n (f_X12_goesNow_4 n m) a1 a2 M
theorem w_X12_goesNow_4 {g : qG} {k : qK} (n : Nat) (j r : Nat) (hj : q_isLaw j) (hr : q_isLaw r) (o : qOk g 0 zX12_goesNow k) : ∀ (m : Nat) (a1 a2 : Int32) (M : qM), qAE g k zX12_goesNow (qL j r) 4 [some (.inr (some 77)), some (.inl a1), some (.inl a2)] [] (qL j r, M) (f_X12_goesNow_4 n m a1 a2 M) := by
  intro m
  induction m with
  | zero =>
    intro a1 a2 M
    exact qr_none
  | succ m ih =>
    intro a1 a2 M
    exact wb_X12_goesNow_4 n j r hj hr o (f_X12_goesNow_4 n m) ih a1 a2 M
def f_X12_goesNow (n : Nat) (M : qM) : qR :=
  f_X12_goesNow_4 n n (0 : Int32) (0 : Int32) M
set_option maxRecDepth 4000 in
theorem w_X12_goesNow {g : qG} {k : qK} (n : Nat) (j r : Nat) (hj : q_isLaw j) (hr : q_isLaw r) (o : qOk g 0 zX12_goesNow k) (M : qM) : qAE g k zX12_goesNow (qL j r) 0 [some (.inr (some 77)), none, none] [] (qL j r, M) (f_X12_goesNow n  M) := by
  unfold f_X12_goesNow
  refine qr_iconst o (q_dm dm_X12_goesNow 0 rfl) ic_0 ?_
  refine qs_istore_n (L' := [some (.inr (some 77)), some (.inl (0 : Int32)), none]) o (q_dm dm_X12_goesNow 1 rfl) (Nat.le_of_ble_eq_true rfl) rfl ?_
  refine qr_iconst o (q_dm dm_X12_goesNow 2 rfl) ic_0 ?_
  refine qs_istore_n (L' := [some (.inr (some 77)), some (.inl (0 : Int32)), some (.inl (0 : Int32))]) o (q_dm dm_X12_goesNow 3 rfl) (Nat.le_of_ble_eq_true rfl) rfl ?_
  exact qr_loc (q_leS (q_leS (q_leS q_le0))) (w_X12_goesNow_4 n j r hj hr o n (0 : Int32) (0 : Int32) M)

theorem a_X12_goesNow (g : qG) (l : Launch) (n : Nat) (j r : Nat) (hj : q_isLaw j) (hr : q_isLaw r) (M : qM) : qAM g l 0 zX12_goesNow (qL j r) [.inr (some 77)] (qL j r, M) (f_X12_goesNow n  M) :=
  qAM.of zv_X12_goesNow.1 (by show 1 ≤ 3; decide) (fun k hk o => w_X12_goesNow n j r hj hr o  M)
def tb_X12_madeNow : List (Nat × Instr × Nat) := [(0, (.iconst 0, 1)), (1, (.istore_n 1, 1)), (2, (.iconst 0, 1)), (3, (.istore_n 2, 1)), (4, (.iload_n 2, 1)), (5, (.aload_n 0, 1)), (6, (.getfield 365, 3)), (9, (.if_icmp .ge 23, 3)), (12, (.iload_n 1, 1)), (13, (.aload_n 0, 1)), (14, (.getfield 83, 3)), (17, (.aload_n 0, 1)), (18, (.getfield 101, 3)), (21, (.iload_n 2, 1)), (22, (.iaload, 1)), (23, (.iaload, 1)), (24, (.iadd, 1)), (25, (.istore_n 1, 1)), (26, (.iinc 2 1, 3)), (29, (.goto (-25), 3)), (32, (.iload_n 1, 1)), (33, (.ireturn, 1))]
theorem dm_X12_madeNow : ∀ q ∈ tb_X12_madeNow, decode zX12_madeNow.2.1 q.1 = .ok q.2 := by decide +kernel
def b_X12_madeNow_4 (n : Nat) (K4 : Int32 → Int32 → qM → qR) (a1 a2 : Int32) (M : qM) : qR :=
  (if (M 77 43) ≤ a2 then some (a1, M) else qg a2 4 (qg (M 108 a2.toNatClampNeg) 20 (ql (a1 + (M 102 (M 108 a2.toNatClampNeg).toNatClampNeg)) (fun x1 => ql (a2 + (1 : Int32)) (fun x2 => K4 x1 x2 M)))))
set_option maxRecDepth 4000 in
theorem wb_X12_madeNow_4 {g : qG} {k : qK} (n : Nat) (j r : Nat) (hj : q_isLaw j) (hr : q_isLaw r) (o : qOk g 0 zX12_madeNow k) (K4 : Int32 → Int32 → qM → qR) (hK4 : ∀ (a1 a2 : Int32) (M : qM), qAE g k zX12_madeNow (qL j r) 4 [some (.inr (some 77)), some (.inl a1), some (.inl a2)] [] (qL j r, M) (K4 a1 a2 M)) (a1 a2 : Int32) (M : qM) : qAE g k zX12_madeNow (qL j r) 4 [some (.inr (some 77)), some (.inl a1), some (.inl a2)] [] (qL j r, M) (b_X12_madeNow_4 n K4 a1 a2 M) := by
  unfold b_X12_madeNow_4
  refine qr_iload_n o (q_dm dm_X12_madeNow 4 rfl) rfl ?_
  refine qr_aload_n o (q_dm dm_X12_madeNow 5 rfl) rfl ?_
  refine qr_getf (kf := 43) o cf_X12 (sh77 j r) rfl (Nat.le_of_ble_eq_true rfl) fl_X12_365 (q_dm dm_X12_madeNow 6 rfl) ?_
  refine qr_icmp_ge (tgt := 32) o (q_dm dm_X12_madeNow 7 rfl) (by decide) ?_ ?_
  · refine qr_iload_n o (q_dm dm_X12_madeNow 20 rfl) rfl ?_
    exact qr_iret o rfl rfl (q_dm dm_X12_madeNow 21 rfl)
  · refine qr_iload_n o (q_dm dm_X12_madeNow 8 rfl) rfl ?_
    refine qr_aload_n o (q_dm dm_X12_madeNow 9 rfl) rfl ?_
    refine qr_getr (kf := 45) o cf_X12 (sh77 j r) rfl (Nat.le_of_ble_eq_true rfl) fl_X12_83 (q_dm dm_X12_madeNow 10 rfl) ?_
    refine qr_aload_n o (q_dm dm_X12_madeNow 11 rfl) rfl ?_
    refine qr_getr (kf := 51) o cf_X12 (sh77 j r) rfl (Nat.le_of_ble_eq_true rfl) fl_X12_101 (q_dm dm_X12_madeNow 12 rfl) ?_
    refine qr_iload_n o (q_dm dm_X12_madeNow 13 rfl) rfl ?_
    refine qr_iald o (sh108 j r) (q_dm dm_X12_madeNow 14 rfl) ?_
    refine qr_iald o (sh102 j r) (q_dm dm_X12_madeNow 15 rfl) ?_
    refine qr_iadd o (q_dm dm_X12_madeNow 16 rfl) ?_
    refine qr_lt (fun x1 => ?_)
    refine qs_istore_n (L' := [some (.inr (some 77)), some (.inl x1), some (.inl a2)]) o (q_dm dm_X12_madeNow 17 rfl) (Nat.le_of_ble_eq_true rfl) rfl ?_
    refine qs_iincl2 (L' := fun x2 => [some (.inr (some 77)), some (.inl x1), some (.inl x2)]) o (q_dm dm_X12_madeNow 18 rfl) rfl ic_1 (Nat.le_of_ble_eq_true rfl) (fun _ => rfl) (fun x2 => ?_)
    refine qr_goto (tgt := 4) o (q_dm dm_X12_madeNow 19 rfl) (by decide) ?_
    exact qr_loc (q_leS (q_leS (q_leS q_le0))) (hK4 x1 x2 M)

def f_X12_madeNow_4 (n : Nat) : Nat → Int32 → Int32 → qM → qR
  | 0, _, _, _ => none
  | m + 1, a1, a2, M => b_X12_madeNow_4 n (f_X12_madeNow_4 n m) a1 a2 M
theorem w_X12_madeNow_4 {g : qG} {k : qK} (n : Nat) (j r : Nat) (hj : q_isLaw j) (hr : q_isLaw r) (o : qOk g 0 zX12_madeNow k) : ∀ (m : Nat) (a1 a2 : Int32) (M : qM), qAE g k zX12_madeNow (qL j r) 4 [some (.inr (some 77)), some (.inl a1), some (.inl a2)] [] (qL j r, M) (f_X12_madeNow_4 n m a1 a2 M) := by
  intro m
  induction m with
  | zero =>
    intro a1 a2 M
    exact qr_none
  | succ m ih =>
    intro a1 a2 M
    exact wb_X12_madeNow_4 n j r hj hr o (f_X12_madeNow_4 n m) ih a1 a2 M
def f_X12_madeNow (n : Nat) (M : qM) : qR :=
  f_X12_madeNow_4 n n (0 : Int32) (0 : Int32) M
set_option maxRecDepth 4000 in
theorem w_X12_madeNow {g : qG} {k : qK} (n : Nat) (j r : Nat) (hj : q_isLaw j) (hr : q_isLaw r) (o : qOk g 0 zX12_madeNow k) (M : qM) : qAE g k zX12_madeNow (qL j r) 0 [some (.inr (some 77)), none, none] [] (qL j r, M) (f_X12_madeNow n  M) := by
  unfold f_X12_madeNow
  refine qr_iconst o (q_dm dm_X12_madeNow 0 rfl) ic_0 ?_
  refine qs_istore_n (L' := [some (.inr (some 77)), some (.inl (0 : Int32)), none]) o (q_dm dm_X12_madeNow 1 rfl) (Nat.le_of_ble_eq_true rfl) rfl ?_
  refine qr_iconst o (q_dm dm_X12_madeNow 2 rfl) ic_0 ?_
  refine qs_istore_n (L' := [some (.inr (some 77)), some (.inl (0 : Int32)), some (.inl (0 : Int32))]) o (q_dm dm_X12_madeNow 3 rfl) (Nat.le_of_ble_eq_true rfl) rfl ?_
  exact qr_loc (q_leS (q_leS (q_leS q_le0))) (w_X12_madeNow_4 n j r hj hr o n (0 : Int32) (0 : Int32) M)

theorem a_X12_madeNow (g : qG) (l : Launch) (n : Nat) (j r : Nat) (hj : q_isLaw j) (hr : q_isLaw r) (M : qM) : qAM g l 0 zX12_madeNow (qL j r) [.inr (some 77)] (qL j r, M) (f_X12_madeNow n  M) :=
  qAM.of zv_X12_madeNow.1 (by show 1 ≤ 3; decide) (fun k hk o => w_X12_madeNow n j r hj hr o  M)
def tb_X12_takesState : List (Nat × Instr × Nat) := [(0, (.iload_n 1, 1)), (1, (.istore_n 2, 1)), (2, (.iconst 0, 1)), (3, (.istore_n 3, 1)), (4, (.iload_n 3, 1)), (5, (.aload_n 0, 1)), (6, (.getfield 365, 3)), (9, (.if_icmp .ge 24, 3)), (12, (.aload_n 0, 1)), (13, (.getfield 101, 3)), (16, (.iload_n 3, 1)), (17, (.iload_n 2, 1)), (18, (.bipush 20, 2)), (20, (.irem, 1)), (21, (.iastore, 1)), (22, (.iload_n 2, 1)), (23, (.bipush 20, 2)), (25, (.idiv, 1)), (26, (.istore_n 2, 1)), (27, (.iinc 3 1, 3)), (30, (.goto (-26), 3)), (33, (.return_, 1))]
theorem dm_X12_takesState : ∀ q ∈ tb_X12_takesState, decode zX12_takesState.2.1 q.1 = .ok q.2 := by decide +kernel
def b_X12_takesState_4 (n : Nat) (K4 : Int32 → Int32 → qM → qR) (a2 a3 : Int32) (M : qM) : qR :=
  (if (M 77 43) ≤ a3 then some (0, M) else qg a3 4 (qlm (mu M 108 a3.toNatClampNeg (a2 - a2 / (20 : Int32) * (20 : Int32))) (fun m1 => ql (a2 / (20 : Int32)) (fun x2 => ql (a3 + (1 : Int32)) (fun x3 => K4 x2 x3 m1)))))
set_option maxRecDepth 4000 in
theorem wb_X12_takesState_4 {g : qG} {k : qK} (n : Nat) (j r : Nat) (hj : q_isLaw j) (hr : q_isLaw r) (o : qOk g 0 zX12_takesState k) (K4 : Int32 → Int32 → qM → qR) (hK4 : ∀ (a2 a3 : Int32) (M : qM), qAE g k zX12_takesState (qL j r) 4 [some (.inr (some 77)), none, some (.inl a2), some (.inl a3)] [] (qL j r, M) (K4 a2 a3 M)) (a2 a3 : Int32) (M : qM) : qAE g k zX12_takesState (qL j r) 4 [some (.inr (some 77)), none, some (.inl a2), some (.inl a3)] [] (qL j r, M) (b_X12_takesState_4 n K4 a2 a3 M) := by
  unfold b_X12_takesState_4
  refine qr_iload_n o (q_dm dm_X12_takesState 4 rfl) rfl ?_
  refine qr_aload_n o (q_dm dm_X12_takesState 5 rfl) rfl ?_
  refine qr_getf (kf := 43) o cf_X12 (sh77 j r) rfl (Nat.le_of_ble_eq_true rfl) fl_X12_365 (q_dm dm_X12_takesState 6 rfl) ?_
  refine qr_icmp_ge (tgt := 33) o (q_dm dm_X12_takesState 7 rfl) (by decide) ?_ ?_
  · exact qr_vret o rfl (q_dm dm_X12_takesState 21 rfl)
  · refine qr_aload_n o (q_dm dm_X12_takesState 8 rfl) rfl ?_
    refine qr_getr (kf := 51) o cf_X12 (sh77 j r) rfl (Nat.le_of_ble_eq_true rfl) fl_X12_101 (q_dm dm_X12_takesState 9 rfl) ?_
    refine qr_iload_n o (q_dm dm_X12_takesState 10 rfl) rfl ?_
    refine qr_iload_n o (q_dm dm_X12_takesState 11 rfl) rfl ?_
    refine qr_bipush o (q_dm dm_X12_takesState 12 rfl) bi_20 ?_
    refine qr_iremc o (q_dm dm_X12_takesState 13 rfl) (by decide) ?_
    refine qr_iast o (sh108 j r) (q_dm dm_X12_takesState 14 rfl) ?_
    refine qr_letm (fun m1 => ?_)
    refine qr_iload_n o (q_dm dm_X12_takesState 15 rfl) rfl ?_
    refine qr_bipush o (q_dm dm_X12_takesState 16 rfl) bi_20 ?_
    refine qr_idivc o (q_dm dm_X12_takesState 17 rfl) (by decide) ?_
    refine qr_lt (fun x2 => ?_)
    refine qs_istore_n (L' := [some (.inr (some 77)), none, some (.inl x2), some (.inl a3)]) o (q_dm dm_X12_takesState 18 rfl) (Nat.le_of_ble_eq_true rfl) rfl ?_
    refine qs_iincl2 (L' := fun x3 => [some (.inr (some 77)), none, some (.inl x2), some (.inl x3)]) o (q_dm dm_X12_takesState 19 rfl) rfl ic_1 (Nat.le_of_ble_eq_true rfl) (fun _ => rfl) (fun x3 => ?_)
    refine qr_goto (tgt := 4) o (q_dm dm_X12_takesState 20 rfl) (by decide) ?_
    exact qr_loc (q_leS (q_leN (q_leS (q_leS q_le0)))) (hK4 x2 x3 m1)

def f_X12_takesState_4 (n : Nat) : Nat → Int32 → Int32 → qM → qR
  | 0, _, _, _ => none
  | m + 1, a2, a3, M => b_X12_takesState_4 n (f_X12_takesState_4 n m) a2 a3 M
theorem w_X12_takesState_4 {g : qG} {k : qK} (n : Nat) (j r : Nat) (hj : q_isLaw j) (hr : q_isLaw r) (o : qOk g 0 zX12_takesState k) : ∀ (m : Nat) (a2 a3 : Int32) (M : qM), qAE g k zX12_takesState (qL j r) 4 [some (.inr (some 77)), none, some (.inl a2), some (.inl a3)] [] (qL j r, M) (f_X12_takesState_4 n m a2 a3 M) := by
  intro m
  induction m with
  | zero =>
    intro a2 a3 M
    exact qr_none
  | succ m ih =>
    intro a2 a3 M
    exact wb_X12_takesState_4 n j r hj hr o (f_X12_takesState_4 n m) ih a2 a3 M
def f_X12_takesState (n : Nat) (a1 : Int32) (M : qM) : qR :=
  f_X12_takesState_4 n n a1 (0 : Int32) M
set_option maxRecDepth 4000 in
theorem w_X12_takesState {g : qG} {k : qK} (n : Nat) (j r : Nat) (hj : q_isLaw j) (hr : q_isLaw r) (o : qOk g 0 zX12_takesState k) (a1 : Int32) (M : qM) : qAE g k zX12_takesState (qL j r) 0 [some (.inr (some 77)), some (.inl a1), none, none] [] (qL j r, M) (f_X12_takesState n a1 M) := by
  unfold f_X12_takesState
  refine qr_iload_n o (q_dm dm_X12_takesState 0 rfl) rfl ?_
  refine qs_istore_n (L' := [some (.inr (some 77)), some (.inl a1), some (.inl a1), none]) o (q_dm dm_X12_takesState 1 rfl) (Nat.le_of_ble_eq_true rfl) rfl ?_
  refine qr_iconst o (q_dm dm_X12_takesState 2 rfl) ic_0 ?_
  refine qs_istore_n (L' := [some (.inr (some 77)), some (.inl a1), some (.inl a1), some (.inl (0 : Int32))]) o (q_dm dm_X12_takesState 3 rfl) (Nat.le_of_ble_eq_true rfl) rfl ?_
  exact qr_loc (q_leS (q_leN (q_leS (q_leS q_le0)))) (w_X12_takesState_4 n j r hj hr o n a1 (0 : Int32) M)

theorem a_X12_takesState (g : qG) (l : Launch) (n : Nat) (j r : Nat) (hj : q_isLaw j) (hr : q_isLaw r) (a1 : Int32) (M : qM) : qAM g l 0 zX12_takesState (qL j r) [.inr (some 77), .inl a1] (qL j r, M) (f_X12_takesState n a1 M) :=
  qAM.of zv_X12_takesState.1 (by show 2 ≤ 4; decide) (fun k hk o => w_X12_takesState n j r hj hr o a1 M)
def tb_X12_marksBought : List (Nat × Instr × Nat) := [(0, (.iconst 0, 1)), (1, (.istore_n 2, 1)), (2, (.iload_n 2, 1)), (3, (.iload_n 1, 1)), (4, (.if_icmp .ge 98, 3)), (7, (.aload_n 0, 1)), (8, (.iload_n 2, 1)), (9, (.invokevirtual 399, 3)), (12, (.aload_n 0, 1)), (13, (.invokevirtual 405, 3)), (16, (.ifCond .ne 15, 3)), (19, (.aload_n 0, 1)), (20, (.invokevirtual 374, 3)), (23, (.iconst 3, 1)), (24, (.if_icmp .gt 7, 3)), (27, (.iconst 1, 1)), (28, (.goto 4, 3)), (31, (.iconst 0, 1)), (32, (.istore_n 3, 1)), (33, (.iconst 0, 1)), (34, (.istore 4, 2)), (36, (.iload 4, 2)), (38, (.aload_n 0, 1)), (39, (.getfield 365, 3)), (42, (.if_icmp .ge 47, 3)), (45, (.iload_n 3, 1)), (46, (.ifCond .eq 35, 3)), (49, (.aload_n 0, 1)), (50, (.getfield 86, 3)), (53, (.aload_n 0, 1)), (54, (.getfield 101, 3)), (57, (.iload 4, 2)), (59, (.iaload, 1)), (60, (.iaload, 1)), (61, (.ifCond .eq 16, 3)), (64, (.aload_n 0, 1)), (65, (.getfield 104, 3)), (68, (.iload 4, 2)), (70, (.iaload, 1)), (71, (.ldc_w 398, 3)), (74, (.if_icmp .ge 7, 3)), (77, (.iconst 1, 1)), (78, (.goto 4, 3)), (81, (.iconst 0, 1)), (82, (.istore_n 3, 1)), (83, (.iinc 4 1, 3)), (86, (.goto (-50), 3)), (89, (.aload_n 0, 1)), (90, (.getfield 108, 3)), (93, (.iload_n 2, 1)), (94, (.iload_n 3, 1)), (95, (.bastore, 1)), (96, (.iinc 2 1, 3)), (99, (.goto (-97), 3)), (102, (.return_, 1))]
theorem dm_X12_marksBought : ∀ q ∈ tb_X12_marksBought, decode zX12_marksBought.2.1 q.1 = .ok q.2 := by decide +kernel
def f_X12_marksBought_81 (n : Nat) (K2 : Int32 → Int32 → qM → qR) (K36 : Int32 → Int32 → Int32 → Int32 → qM → qR) (a1 a2 a4 : Int32) (M : qM) : qR :=
  ql (a4 + (1 : Int32)) (fun x1 => K36 a1 a2 (0 : Int32) x1 M)
set_option maxRecDepth 4000 in
theorem w_X12_marksBought_81 {g : qG} {k : qK} (n : Nat) (j r : Nat) (hj : q_isLaw j) (hr : q_isLaw r) (o : qOk g 1 zX12_marksBought k) (K2 : Int32 → Int32 → qM → qR) (hK2 : ∀ (a1 a2 : Int32) (M : qM), qAE g k zX12_marksBought (qL j r) 2 [some (.inr (some 77)), some (.inl a1), some (.inl a2), none, none] [] (qL j r, M) (K2 a1 a2 M)) (K36 : Int32 → Int32 → Int32 → Int32 → qM → qR) (hK36 : ∀ (a1 a2 a3 a4 : Int32) (M : qM), qAE g k zX12_marksBought (qL j r) 36 [some (.inr (some 77)), some (.inl a1), some (.inl a2), some (.inl a3), some (.inl a4)] [] (qL j r, M) (K36 a1 a2 a3 a4 M)) (a1 a2 a4 : Int32) (M : qM) : qAE g k zX12_marksBought (qL j r) 81 [some (.inr (some 77)), some (.inl a1), some (.inl a2), none, some (.inl a4)] [] (qL j r, M) (f_X12_marksBought_81 n K2 K36 a1 a2 a4 M) := by
  unfold f_X12_marksBought_81
  refine qr_iconst o (q_dm dm_X12_marksBought 43 rfl) ic_0 ?_
  refine qs_istore_n (L' := [some (.inr (some 77)), some (.inl a1), some (.inl a2), some (.inl (0 : Int32)), some (.inl a4)]) o (q_dm dm_X12_marksBought 44 rfl) (Nat.le_of_ble_eq_true rfl) rfl ?_
  refine qs_iincl2 (L' := fun x1 => [some (.inr (some 77)), some (.inl a1), some (.inl a2), some (.inl (0 : Int32)), some (.inl x1)]) o (q_dm dm_X12_marksBought 45 rfl) rfl ic_1 (Nat.le_of_ble_eq_true rfl) (fun _ => rfl) (fun x1 => ?_)
  refine qr_goto (tgt := 36) o (q_dm dm_X12_marksBought 46 rfl) (by decide) ?_
  exact qr_loc (q_leS (q_leS (q_leS (q_leS (q_leS q_le0))))) (hK36 a1 a2 (0 : Int32) x1 M)

def b_X12_marksBought_36 (n : Nat) (K2 : Int32 → Int32 → qM → qR) (K36 : Int32 → Int32 → Int32 → Int32 → qM → qR) (a1 a2 a3 a4 : Int32) (M : qM) : qR :=
  (if (M 77 43) ≤ a4 then qg a2 160000 (qlm (mu M 110 a2.toNatClampNeg (vp_nar .boolean a3)) (fun m1 => ql (a2 + (1 : Int32)) (fun x2 => K2 a1 x2 m1))) else (if a3 = (0 : Int32) then f_X12_marksBought_81 n K2 K36 a1 a2 a4 M else qg a4 4 (qg (M 108 a4.toNatClampNeg) 20 ((if (M 103 (M 108 a4.toNatClampNeg).toNatClampNeg) = (0 : Int32) then ql (a4 + (1 : Int32)) (fun x3 => K36 a1 a2 (1 : Int32) x3 M) else qg a4 4 ((if (1000000000 : Int32) ≤ (M 109 a4.toNatClampNeg) then f_X12_marksBought_81 n K2 K36 a1 a2 a4 M else ql (a4 + (1 : Int32)) (fun x4 => K36 a1 a2 (1 : Int32) x4 M))))))))
set_option maxRecDepth 4000 in
theorem wb_X12_marksBought_36 {g : qG} {k : qK} (n : Nat) (j r : Nat) (hj : q_isLaw j) (hr : q_isLaw r) (o : qOk g 1 zX12_marksBought k) (K2 : Int32 → Int32 → qM → qR) (hK2 : ∀ (a1 a2 : Int32) (M : qM), qAE g k zX12_marksBought (qL j r) 2 [some (.inr (some 77)), some (.inl a1), some (.inl a2), none, none] [] (qL j r, M) (K2 a1 a2 M)) (K36 : Int32 → Int32 → Int32 → Int32 → qM → qR) (hK36 : ∀ (a1 a2 a3 a4 : Int32) (M : qM), qAE g k zX12_marksBought (qL j r) 36 [some (.inr (some 77)), some (.inl a1), some (.inl a2), some (.inl a3), some (.inl a4)] [] (qL j r, M) (K36 a1 a2 a3 a4 M)) (a1 a2 a3 a4 : Int32) (M : qM) : qAE g k zX12_marksBought (qL j r) 36 [some (.inr (some 77)), some (.inl a1), some (.inl a2), some (.inl a3), some (.inl a4)] [] (qL j r, M) (b_X12_marksBought_36 n K2 K36 a1 a2 a3 a4 M) := by
  unfold b_X12_marksBought_36
  refine qr_iload o (q_dm dm_X12_marksBought 21 rfl) rfl ?_
  refine qr_aload_n o (q_dm dm_X12_marksBought 22 rfl) rfl ?_
  refine qr_getf (kf := 43) o cf_X12 (sh77 j r) rfl (Nat.le_of_ble_eq_true rfl) fl_X12_365 (q_dm dm_X12_marksBought 23 rfl) ?_
  refine qr_icmp_ge (tgt := 89) o (q_dm dm_X12_marksBought 24 rfl) (by decide) ?_ ?_
  · refine qr_aload_n o (q_dm dm_X12_marksBought 47 rfl) rfl ?_
    refine qr_getr (kf := 53) o cf_X12 (sh77 j r) rfl (Nat.le_of_ble_eq_true rfl) fl_X12_108 (q_dm dm_X12_marksBought 48 rfl) ?_
    refine qr_iload_n o (q_dm dm_X12_marksBought 49 rfl) rfl ?_
    refine qr_iload_n o (q_dm dm_X12_marksBought 50 rfl) rfl ?_
    refine qr_zast o (sh110 j r) (q_dm dm_X12_marksBought 51 rfl) ?_
    refine qr_letm (fun m1 => ?_)
    refine qs_iincl2 (L' := fun x2 => [some (.inr (some 77)), some (.inl a1), some (.inl x2), some (.inl a3), some (.inl a4)]) o (q_dm dm_X12_marksBought 52 rfl) rfl ic_1 (Nat.le_of_ble_eq_true rfl) (fun _ => rfl) (fun x2 => ?_)
    refine qr_goto (tgt := 2) o (q_dm dm_X12_marksBought 53 rfl) (by decide) ?_
    exact qr_loc (q_leS (q_leS (q_leS (q_leN (q_leN q_le0))))) (hK2 a1 x2 m1)
  · refine qr_iload_n o (q_dm dm_X12_marksBought 25 rfl) rfl ?_
    refine qr_if_eq (tgt := 81) o (q_dm dm_X12_marksBought 26 rfl) (by decide) ?_ ?_
    · exact qr_loc (q_leS (q_leS (q_leS (q_leN (q_leS q_le0))))) (w_X12_marksBought_81 n j r hj hr o K2 hK2 K36 hK36 a1 a2 a4 M)
    · refine qr_aload_n o (q_dm dm_X12_marksBought 27 rfl) rfl ?_
      refine qr_getr (kf := 46) o cf_X12 (sh77 j r) rfl (Nat.le_of_ble_eq_true rfl) fl_X12_86 (q_dm dm_X12_marksBought 28 rfl) ?_
      refine qr_aload_n o (q_dm dm_X12_marksBought 29 rfl) rfl ?_
      refine qr_getr (kf := 51) o cf_X12 (sh77 j r) rfl (Nat.le_of_ble_eq_true rfl) fl_X12_101 (q_dm dm_X12_marksBought 30 rfl) ?_
      refine qr_iload o (q_dm dm_X12_marksBought 31 rfl) rfl ?_
      refine qr_iald o (sh108 j r) (q_dm dm_X12_marksBought 32 rfl) ?_
      refine qr_iald o (sh103 j r) (q_dm dm_X12_marksBought 33 rfl) ?_
      refine qr_if_eq (tgt := 77) o (q_dm dm_X12_marksBought 34 rfl) (by decide) ?_ ?_
      · refine qr_iconst o (q_dm dm_X12_marksBought 41 rfl) ic_1 ?_
        refine qr_goto (tgt := 82) o (q_dm dm_X12_marksBought 42 rfl) (by decide) ?_
        refine qs_istore_n (L' := [some (.inr (some 77)), some (.inl a1), some (.inl a2), some (.inl (1 : Int32)), some (.inl a4)]) o (q_dm dm_X12_marksBought 44 rfl) (Nat.le_of_ble_eq_true rfl) rfl ?_
        refine qs_iincl2 (L' := fun x3 => [some (.inr (some 77)), some (.inl a1), some (.inl a2), some (.inl (1 : Int32)), some (.inl x3)]) o (q_dm dm_X12_marksBought 45 rfl) rfl ic_1 (Nat.le_of_ble_eq_true rfl) (fun _ => rfl) (fun x3 => ?_)
        refine qr_goto (tgt := 36) o (q_dm dm_X12_marksBought 46 rfl) (by decide) ?_
        exact qr_loc (q_leS (q_leS (q_leS (q_leS (q_leS q_le0))))) (hK36 a1 a2 (1 : Int32) x3 M)
      · refine qr_aload_n o (q_dm dm_X12_marksBought 35 rfl) rfl ?_
        refine qr_getr (kf := 52) o cf_X12 (sh77 j r) rfl (Nat.le_of_ble_eq_true rfl) fl_X12_104 (q_dm dm_X12_marksBought 36 rfl) ?_
        refine qr_iload o (q_dm dm_X12_marksBought 37 rfl) rfl ?_
        refine qr_iald o (sh109 j r) (q_dm dm_X12_marksBought 38 rfl) ?_
        refine qr_ldc_w o (q_dm dm_X12_marksBought 39 rfl) kc_X12_398 ?_
        refine qr_icmp_ge (tgt := 81) o (q_dm dm_X12_marksBought 40 rfl) (by decide) ?_ ?_
        · exact qr_loc (q_leS (q_leS (q_leS (q_leN (q_leS q_le0))))) (w_X12_marksBought_81 n j r hj hr o K2 hK2 K36 hK36 a1 a2 a4 M)
        · refine qr_iconst o (q_dm dm_X12_marksBought 41 rfl) ic_1 ?_
          refine qr_goto (tgt := 82) o (q_dm dm_X12_marksBought 42 rfl) (by decide) ?_
          refine qs_istore_n (L' := [some (.inr (some 77)), some (.inl a1), some (.inl a2), some (.inl (1 : Int32)), some (.inl a4)]) o (q_dm dm_X12_marksBought 44 rfl) (Nat.le_of_ble_eq_true rfl) rfl ?_
          refine qs_iincl2 (L' := fun x4 => [some (.inr (some 77)), some (.inl a1), some (.inl a2), some (.inl (1 : Int32)), some (.inl x4)]) o (q_dm dm_X12_marksBought 45 rfl) rfl ic_1 (Nat.le_of_ble_eq_true rfl) (fun _ => rfl) (fun x4 => ?_)
          refine qr_goto (tgt := 36) o (q_dm dm_X12_marksBought 46 rfl) (by decide) ?_
          exact qr_loc (q_leS (q_leS (q_leS (q_leS (q_leS q_le0))))) (hK36 a1 a2 (1 : Int32) x4 M)

def f_X12_marksBought_36 (n : Nat) (K2 : Int32 → Int32 → qM → qR) : Nat → Int32 → Int32 → Int32 → Int32 → qM → qR
  | 0, _, _, _, _, _ => none
  | m + 1, a1, a2, a3, a4, M => b_X12_marksBought_36 n K2 (f_X12_marksBought_36 n K2 m) a1 a2 a3 a4 M
theorem w_X12_marksBought_36 {g : qG} {k : qK} (n : Nat) (j r : Nat) (hj : q_isLaw j) (hr : q_isLaw r) (o : qOk g 1 zX12_marksBought k) (K2 : Int32 → Int32 → qM → qR) (hK2 : ∀ (a1 a2 : Int32) (M : qM), qAE g k zX12_marksBought (qL j r) 2 [some (.inr (some 77)), some (.inl a1), some (.inl a2), none, none] [] (qL j r, M) (K2 a1 a2 M)) : ∀ (m : Nat) (a1 a2 a3 a4 : Int32) (M : qM), qAE g k zX12_marksBought (qL j r) 36 [some (.inr (some 77)), some (.inl a1), some (.inl a2), some (.inl a3), some (.inl a4)] [] (qL j r, M) (f_X12_marksBought_36 n K2 m a1 a2 a3 a4 M) := by
  intro m
  induction m with
  | zero =>
    intro a1 a2 a3 a4 M
    exact qr_none
  | succ m ih =>
    intro a1 a2 a3 a4 M
    exact wb_X12_marksBought_36 n j r hj hr o K2 hK2 (f_X12_marksBought_36 n K2 m) ih a1 a2 a3 a4 M
def f_X12_marksBought_32 (n : Nat) (K2 : Int32 → Int32 → qM → qR) (a1 a2 s0 : Int32) (M : qM) : qR :=
  f_X12_marksBought_36 n K2 n a1 a2 s0 (0 : Int32) M
set_option maxRecDepth 4000 in
theorem w_X12_marksBought_32 {g : qG} {k : qK} (n : Nat) (j r : Nat) (hj : q_isLaw j) (hr : q_isLaw r) (o : qOk g 1 zX12_marksBought k) (K2 : Int32 → Int32 → qM → qR) (hK2 : ∀ (a1 a2 : Int32) (M : qM), qAE g k zX12_marksBought (qL j r) 2 [some (.inr (some 77)), some (.inl a1), some (.inl a2), none, none] [] (qL j r, M) (K2 a1 a2 M)) (a1 a2 s0 : Int32) (M : qM) : qAE g k zX12_marksBought (qL j r) 32 [some (.inr (some 77)), some (.inl a1), some (.inl a2), none, none] [.inl s0] (qL j r, M) (f_X12_marksBought_32 n K2 a1 a2 s0 M) := by
  unfold f_X12_marksBought_32
  refine qs_istore_n (L' := [some (.inr (some 77)), some (.inl a1), some (.inl a2), some (.inl s0), none]) o (q_dm dm_X12_marksBought 18 rfl) (Nat.le_of_ble_eq_true rfl) rfl ?_
  refine qr_iconst o (q_dm dm_X12_marksBought 19 rfl) ic_0 ?_
  refine qs_istore (L' := [some (.inr (some 77)), some (.inl a1), some (.inl a2), some (.inl s0), some (.inl (0 : Int32))]) o (q_dm dm_X12_marksBought 20 rfl) (Nat.le_of_ble_eq_true rfl) rfl ?_
  exact qr_loc (q_leS (q_leS (q_leS (q_leS (q_leS q_le0))))) (w_X12_marksBought_36 n j r hj hr o K2 hK2 n a1 a2 s0 (0 : Int32) M)

def f_X12_marksBought_31 (n : Nat) (K2 : Int32 → Int32 → qM → qR) (a1 a2 : Int32) (M : qM) : qR :=
  f_X12_marksBought_32 n K2 a1 a2 (0 : Int32) M
set_option maxRecDepth 4000 in
theorem w_X12_marksBought_31 {g : qG} {k : qK} (n : Nat) (j r : Nat) (hj : q_isLaw j) (hr : q_isLaw r) (o : qOk g 1 zX12_marksBought k) (K2 : Int32 → Int32 → qM → qR) (hK2 : ∀ (a1 a2 : Int32) (M : qM), qAE g k zX12_marksBought (qL j r) 2 [some (.inr (some 77)), some (.inl a1), some (.inl a2), none, none] [] (qL j r, M) (K2 a1 a2 M)) (a1 a2 : Int32) (M : qM) : qAE g k zX12_marksBought (qL j r) 31 [some (.inr (some 77)), some (.inl a1), some (.inl a2), none, none] [] (qL j r, M) (f_X12_marksBought_31 n K2 a1 a2 M) := by
  unfold f_X12_marksBought_31
  refine qr_iconst o (q_dm dm_X12_marksBought 17 rfl) ic_0 ?_
  exact qr_loc (q_leS (q_leS (q_leS (q_leN (q_leN q_le0))))) (w_X12_marksBought_32 n j r hj hr o K2 hK2 a1 a2 (0 : Int32) M)

def b_X12_marksBought_2 (n : Nat) (K2 : Int32 → Int32 → qM → qR) (a1 a2 : Int32) (M : qM) : qR :=
  (if a1 ≤ a2 then some (0, M) else qc (f_X12_takesState n a2 M) (fun _ m1 => qc (f_X12_madeNow n  m1) (fun r2 m3 => (if r2 = (0 : Int32) then qc (f_X12_goesNow n  m3) (fun r4 m5 => (if (3 : Int32) < r4 then f_X12_marksBought_31 n K2 a1 a2 m5 else f_X12_marksBought_32 n K2 a1 a2 (1 : Int32) m5)) else f_X12_marksBought_31 n K2 a1 a2 m3))))
set_option maxRecDepth 4000 in
theorem wb_X12_marksBought_2 {g : qG} {k : qK} (n : Nat) (j r : Nat) (hj : q_isLaw j) (hr : q_isLaw r) (o : qOk g 1 zX12_marksBought k) (K2 : Int32 → Int32 → qM → qR) (hK2 : ∀ (a1 a2 : Int32) (M : qM), qAE g k zX12_marksBought (qL j r) 2 [some (.inr (some 77)), some (.inl a1), some (.inl a2), none, none] [] (qL j r, M) (K2 a1 a2 M)) (a1 a2 : Int32) (M : qM) : qAE g k zX12_marksBought (qL j r) 2 [some (.inr (some 77)), some (.inl a1), some (.inl a2), none, none] [] (qL j r, M) (b_X12_marksBought_2 n K2 a1 a2 M) := by
  unfold b_X12_marksBought_2
  refine qr_iload_n o (q_dm dm_X12_marksBought 2 rfl) rfl ?_
  refine qr_iload_n o (q_dm dm_X12_marksBought 3 rfl) rfl ?_
  refine qr_icmp_ge (tgt := 102) o (q_dm dm_X12_marksBought 4 rfl) (by decide) ?_ ?_
  · exact qr_vret o rfl (q_dm dm_X12_marksBought 54 rfl)
  · refine qr_aload_n o (q_dm dm_X12_marksBought 5 rfl) rfl ?_
    refine qr_iload_n o (q_dm dm_X12_marksBought 6 rfl) rfl ?_
    refine qr_callv_v (As := [.inl a2]) (S := []) o (a_X12_takesState g k.2.1 n j r hj hr a2 M) (Nat.le_of_ble_eq_true rfl) zv_X12_takesState rfl cf_X12 (sh77 j r) ml_X12_399 (Nat.le_of_ble_eq_true rfl) (q_dm dm_X12_marksBought 7 rfl) (fun _ m1 => ?_)
    refine qr_aload_n o (q_dm dm_X12_marksBought 8 rfl) rfl ?_
    refine qr_callv_i (As := []) (S := []) o (a_X12_madeNow g k.2.1 n j r hj hr  m1) (Nat.le_of_ble_eq_true rfl) zv_X12_madeNow rfl cf_X12 (sh77 j r) ml_X12_405 (Nat.le_of_ble_eq_true rfl) (q_dm dm_X12_marksBought 9 rfl) (fun r2 m3 => ?_)
    refine qr_if_ne (tgt := 31) o (q_dm dm_X12_marksBought 10 rfl) (by decide) ?_ ?_
    · exact qr_loc (q_leS (q_leS (q_leS (q_leN (q_leN q_le0))))) (w_X12_marksBought_31 n j r hj hr o K2 hK2 a1 a2 m3)
    · refine qr_aload_n o (q_dm dm_X12_marksBought 11 rfl) rfl ?_
      refine qr_callv_i (As := []) (S := []) o (a_X12_goesNow g k.2.1 n j r hj hr  m3) (Nat.le_of_ble_eq_true rfl) zv_X12_goesNow rfl cf_X12 (sh77 j r) ml_X12_374 (Nat.le_of_ble_eq_true rfl) (q_dm dm_X12_marksBought 12 rfl) (fun r4 m5 => ?_)
      refine qr_iconst o (q_dm dm_X12_marksBought 13 rfl) ic_3 ?_
      refine qr_icmp_gt (tgt := 31) o (q_dm dm_X12_marksBought 14 rfl) (by decide) ?_ ?_
      · exact qr_loc (q_leS (q_leS (q_leS (q_leN (q_leN q_le0))))) (w_X12_marksBought_31 n j r hj hr o K2 hK2 a1 a2 m5)
      · refine qr_iconst o (q_dm dm_X12_marksBought 15 rfl) ic_1 ?_
        refine qr_goto (tgt := 32) o (q_dm dm_X12_marksBought 16 rfl) (by decide) ?_
        exact qr_loc (q_leS (q_leS (q_leS (q_leN (q_leN q_le0))))) (w_X12_marksBought_32 n j r hj hr o K2 hK2 a1 a2 (1 : Int32) m5)

def f_X12_marksBought_2 (n : Nat) : Nat → Int32 → Int32 → qM → qR
  | 0, _, _, _ => none
  | m + 1, a1, a2, M => b_X12_marksBought_2 n (f_X12_marksBought_2 n m) a1 a2 M
theorem w_X12_marksBought_2 {g : qG} {k : qK} (n : Nat) (j r : Nat) (hj : q_isLaw j) (hr : q_isLaw r) (o : qOk g 1 zX12_marksBought k) : ∀ (m : Nat) (a1 a2 : Int32) (M : qM), qAE g k zX12_marksBought (qL j r) 2 [some (.inr (some 77)), some (.inl a1), some (.inl a2), none, none] [] (qL j r, M) (f_X12_marksBought_2 n m a1 a2 M) := by
  intro m
  induction m with
  | zero =>
    intro a1 a2 M
    exact qr_none
  | succ m ih =>
    intro a1 a2 M
    exact wb_X12_marksBought_2 n j r hj hr o (f_X12_marksBought_2 n m) ih a1 a2 M
def f_X12_marksBought (n : Nat) (a1 : Int32) (M : qM) : qR :=
  f_X12_marksBought_2 n n a1 (0 : Int32) M
set_option maxRecDepth 4000 in
theorem w_X12_marksBought {g : qG} {k : qK} (n : Nat) (j r : Nat) (hj : q_isLaw j) (hr : q_isLaw r) (o : qOk g 1 zX12_marksBought k) (a1 : Int32) (M : qM) : qAE g k zX12_marksBought (qL j r) 0 [some (.inr (some 77)), some (.inl a1), none, none, none] [] (qL j r, M) (f_X12_marksBought n a1 M) := by
  unfold f_X12_marksBought
  refine qr_iconst o (q_dm dm_X12_marksBought 0 rfl) ic_0 ?_
  refine qs_istore_n (L' := [some (.inr (some 77)), some (.inl a1), some (.inl (0 : Int32)), none, none]) o (q_dm dm_X12_marksBought 1 rfl) (Nat.le_of_ble_eq_true rfl) rfl ?_
  exact qr_loc (q_leS (q_leS (q_leS (q_leN (q_leN q_le0))))) (w_X12_marksBought_2 n j r hj hr o n a1 (0 : Int32) M)

theorem a_X12_marksBought (g : qG) (l : Launch) (n : Nat) (j r : Nat) (hj : q_isLaw j) (hr : q_isLaw r) (a1 : Int32) (M : qM) : qAM g l 1 zX12_marksBought (qL j r) [.inr (some 77), .inl a1] (qL j r, M) (f_X12_marksBought n a1 M) :=
  qAM.of zv_X12_marksBought.1 (by show 2 ≤ 5; decide) (fun k hk o => w_X12_marksBought n j r hj hr o a1 M)
def tb_X12_placeOf : List (Nat × Instr × Nat) := [(0, (.iconst 0, 1)), (1, (.istore_n 2, 1)), (2, (.aload_n 0, 1)), (3, (.getfield 92, 3)), (6, (.iload_n 2, 1)), (7, (.iaload, 1)), (8, (.iload_n 1, 1)), (9, (.if_icmp .eq 10, 3)), (12, (.iload_n 2, 1)), (13, (.iconst 1, 1)), (14, (.iadd, 1)), (15, (.istore_n 2, 1)), (16, (.goto (-14), 3)), (19, (.iload_n 2, 1)), (20, (.ireturn, 1))]
theorem dm_X12_placeOf : ∀ q ∈ tb_X12_placeOf, decode zX12_placeOf.2.1 q.1 = .ok q.2 := by decide +kernel
def b_X12_placeOf_2 (n : Nat) (K2 : Int32 → Int32 → qM → qR) (a1 a2 : Int32) (M : qM) : qR :=
  qg a2 4 ((if (M 105 a2.toNatClampNeg) = a1 then some (a2, M) else ql (a2 + (1 : Int32)) (fun x1 => K2 a1 x1 M)))
set_option maxRecDepth 4000 in
theorem wb_X12_placeOf_2 {g : qG} {k : qK} (n : Nat) (j r : Nat) (hj : q_isLaw j) (hr : q_isLaw r) (o : qOk g 0 zX12_placeOf k) (K2 : Int32 → Int32 → qM → qR) (hK2 : ∀ (a1 a2 : Int32) (M : qM), qAE g k zX12_placeOf (qL j r) 2 [some (.inr (some 77)), some (.inl a1), some (.inl a2)] [] (qL j r, M) (K2 a1 a2 M)) (a1 a2 : Int32) (M : qM) : qAE g k zX12_placeOf (qL j r) 2 [some (.inr (some 77)), some (.inl a1), some (.inl a2)] [] (qL j r, M) (b_X12_placeOf_2 n K2 a1 a2 M) := by
  unfold b_X12_placeOf_2
  refine qr_aload_n o (q_dm dm_X12_placeOf 2 rfl) rfl ?_
  refine qr_getr (kf := 48) o cf_X12 (sh77 j r) rfl (Nat.le_of_ble_eq_true rfl) fl_X12_92 (q_dm dm_X12_placeOf 3 rfl) ?_
  refine qr_iload_n o (q_dm dm_X12_placeOf 4 rfl) rfl ?_
  refine qr_iald o (sh105 j r) (q_dm dm_X12_placeOf 5 rfl) ?_
  refine qr_iload_n o (q_dm dm_X12_placeOf 6 rfl) rfl ?_
  refine qr_icmp_eq (tgt := 19) o (q_dm dm_X12_placeOf 7 rfl) (by decide) ?_ ?_
  · refine qr_iload_n o (q_dm dm_X12_placeOf 13 rfl) rfl ?_
    exact qr_iret o rfl rfl (q_dm dm_X12_placeOf 14 rfl)
  · refine qr_iload_n o (q_dm dm_X12_placeOf 8 rfl) rfl ?_
    refine qr_iconst o (q_dm dm_X12_placeOf 9 rfl) ic_1 ?_
    refine qr_iadd o (q_dm dm_X12_placeOf 10 rfl) ?_
    refine qr_lt (fun x1 => ?_)
    refine qs_istore_n (L' := [some (.inr (some 77)), some (.inl a1), some (.inl x1)]) o (q_dm dm_X12_placeOf 11 rfl) (Nat.le_of_ble_eq_true rfl) rfl ?_
    refine qr_goto (tgt := 2) o (q_dm dm_X12_placeOf 12 rfl) (by decide) ?_
    exact qr_loc (q_leS (q_leS (q_leS q_le0))) (hK2 a1 x1 M)

def f_X12_placeOf_2 (n : Nat) : Nat → Int32 → Int32 → qM → qR
  | 0, _, _, _ => none
  | m + 1, a1, a2, M => b_X12_placeOf_2 n (f_X12_placeOf_2 n m) a1 a2 M
theorem w_X12_placeOf_2 {g : qG} {k : qK} (n : Nat) (j r : Nat) (hj : q_isLaw j) (hr : q_isLaw r) (o : qOk g 0 zX12_placeOf k) : ∀ (m : Nat) (a1 a2 : Int32) (M : qM), qAE g k zX12_placeOf (qL j r) 2 [some (.inr (some 77)), some (.inl a1), some (.inl a2)] [] (qL j r, M) (f_X12_placeOf_2 n m a1 a2 M) := by
  intro m
  induction m with
  | zero =>
    intro a1 a2 M
    exact qr_none
  | succ m ih =>
    intro a1 a2 M
    exact wb_X12_placeOf_2 n j r hj hr o (f_X12_placeOf_2 n m) ih a1 a2 M
def f_X12_placeOf (n : Nat) (a1 : Int32) (M : qM) : qR :=
  f_X12_placeOf_2 n n a1 (0 : Int32) M
set_option maxRecDepth 4000 in
theorem w_X12_placeOf {g : qG} {k : qK} (n : Nat) (j r : Nat) (hj : q_isLaw j) (hr : q_isLaw r) (o : qOk g 0 zX12_placeOf k) (a1 : Int32) (M : qM) : qAE g k zX12_placeOf (qL j r) 0 [some (.inr (some 77)), some (.inl a1), none] [] (qL j r, M) (f_X12_placeOf n a1 M) := by
  unfold f_X12_placeOf
  refine qr_iconst o (q_dm dm_X12_placeOf 0 rfl) ic_0 ?_
  refine qs_istore_n (L' := [some (.inr (some 77)), some (.inl a1), some (.inl (0 : Int32))]) o (q_dm dm_X12_placeOf 1 rfl) (Nat.le_of_ble_eq_true rfl) rfl ?_
  exact qr_loc (q_leS (q_leS (q_leS q_le0))) (w_X12_placeOf_2 n j r hj hr o n a1 (0 : Int32) M)

theorem a_X12_placeOf (g : qG) (l : Launch) (n : Nat) (j r : Nat) (hj : q_isLaw j) (hr : q_isLaw r) (a1 : Int32) (M : qM) : qAM g l 0 zX12_placeOf (qL j r) [.inr (some 77), .inl a1] (qL j r, M) (f_X12_placeOf n a1 M) :=
  qAM.of zv_X12_placeOf.1 (by show 2 ≤ 3; decide) (fun k hk o => w_X12_placeOf n j r hj hr o a1 M)
def tb_X12_stateNow : List (Nat × Instr × Nat) := [(0, (.iconst 0, 1)), (1, (.istore_n 1, 1)), (2, (.aload_n 0, 1)), (3, (.getfield 365, 3)), (6, (.iconst 1, 1)), (7, (.isub, 1)), (8, (.istore_n 2, 1)), (9, (.iload_n 2, 1)), (10, (.ifCond .lt 21, 3)), (13, (.bipush 20, 2)), (15, (.iload_n 1, 1)), (16, (.imul, 1)), (17, (.aload_n 0, 1)), (18, (.getfield 101, 3)), (21, (.iload_n 2, 1)), (22, (.iaload, 1)), (23, (.iadd, 1)), (24, (.istore_n 1, 1)), (25, (.iinc 2 (-1), 3)), (28, (.goto (-19), 3)), (31, (.iload_n 1, 1)), (32, (.ireturn, 1))]
theorem dm_X12_stateNow : ∀ q ∈ tb_X12_stateNow, decode zX12_stateNow.2.1 q.1 = .ok q.2 := by decide +kernel
def b_X12_stateNow_9 (n : Nat) (K9 : Int32 → Int32 → qM → qR) (a1 a2 : Int32) (M : qM) : qR :=
  (if a2 < (0 : Int32) then some (a1, M) else qg a2 4 (ql (((20 : Int32) * a1) + (M 108 a2.toNatClampNeg)) (fun x1 => ql (a2 + (-1 : Int32)) (fun x2 => K9 x1 x2 M))))
set_option maxRecDepth 4000 in
theorem wb_X12_stateNow_9 {g : qG} {k : qK} (n : Nat) (j r : Nat) (hj : q_isLaw j) (hr : q_isLaw r) (o : qOk g 0 zX12_stateNow k) (K9 : Int32 → Int32 → qM → qR) (hK9 : ∀ (a1 a2 : Int32) (M : qM), qAE g k zX12_stateNow (qL j r) 9 [some (.inr (some 77)), some (.inl a1), some (.inl a2)] [] (qL j r, M) (K9 a1 a2 M)) (a1 a2 : Int32) (M : qM) : qAE g k zX12_stateNow (qL j r) 9 [some (.inr (some 77)), some (.inl a1), some (.inl a2)] [] (qL j r, M) (b_X12_stateNow_9 n K9 a1 a2 M) := by
  unfold b_X12_stateNow_9
  refine qr_iload_n o (q_dm dm_X12_stateNow 7 rfl) rfl ?_
  refine qr_if_lt (tgt := 31) o (q_dm dm_X12_stateNow 8 rfl) (by decide) ?_ ?_
  · refine qr_iload_n o (q_dm dm_X12_stateNow 20 rfl) rfl ?_
    exact qr_iret o rfl rfl (q_dm dm_X12_stateNow 21 rfl)
  · refine qr_bipush o (q_dm dm_X12_stateNow 9 rfl) bi_20 ?_
    refine qr_iload_n o (q_dm dm_X12_stateNow 10 rfl) rfl ?_
    refine qr_imul o (q_dm dm_X12_stateNow 11 rfl) ?_
    refine qr_aload_n o (q_dm dm_X12_stateNow 12 rfl) rfl ?_
    refine qr_getr (kf := 51) o cf_X12 (sh77 j r) rfl (Nat.le_of_ble_eq_true rfl) fl_X12_101 (q_dm dm_X12_stateNow 13 rfl) ?_
    refine qr_iload_n o (q_dm dm_X12_stateNow 14 rfl) rfl ?_
    refine qr_iald o (sh108 j r) (q_dm dm_X12_stateNow 15 rfl) ?_
    refine qr_iadd o (q_dm dm_X12_stateNow 16 rfl) ?_
    refine qr_lt (fun x1 => ?_)
    refine qs_istore_n (L' := [some (.inr (some 77)), some (.inl x1), some (.inl a2)]) o (q_dm dm_X12_stateNow 17 rfl) (Nat.le_of_ble_eq_true rfl) rfl ?_
    refine qs_iincl2 (L' := fun x2 => [some (.inr (some 77)), some (.inl x1), some (.inl x2)]) o (q_dm dm_X12_stateNow 18 rfl) rfl ic_m1 (Nat.le_of_ble_eq_true rfl) (fun _ => rfl) (fun x2 => ?_)
    refine qr_goto (tgt := 9) o (q_dm dm_X12_stateNow 19 rfl) (by decide) ?_
    exact qr_loc (q_leS (q_leS (q_leS q_le0))) (hK9 x1 x2 M)

def f_X12_stateNow_9 (n : Nat) : Nat → Int32 → Int32 → qM → qR
  | 0, _, _, _ => none
  | m + 1, a1, a2, M => b_X12_stateNow_9 n (f_X12_stateNow_9 n m) a1 a2 M
theorem w_X12_stateNow_9 {g : qG} {k : qK} (n : Nat) (j r : Nat) (hj : q_isLaw j) (hr : q_isLaw r) (o : qOk g 0 zX12_stateNow k) : ∀ (m : Nat) (a1 a2 : Int32) (M : qM), qAE g k zX12_stateNow (qL j r) 9 [some (.inr (some 77)), some (.inl a1), some (.inl a2)] [] (qL j r, M) (f_X12_stateNow_9 n m a1 a2 M) := by
  intro m
  induction m with
  | zero =>
    intro a1 a2 M
    exact qr_none
  | succ m ih =>
    intro a1 a2 M
    exact wb_X12_stateNow_9 n j r hj hr o (f_X12_stateNow_9 n m) ih a1 a2 M
def f_X12_stateNow (n : Nat) (M : qM) : qR :=
  ql ((M 77 43) - (1 : Int32)) (fun x1 => f_X12_stateNow_9 n n (0 : Int32) x1 M)
set_option maxRecDepth 4000 in
theorem w_X12_stateNow {g : qG} {k : qK} (n : Nat) (j r : Nat) (hj : q_isLaw j) (hr : q_isLaw r) (o : qOk g 0 zX12_stateNow k) (M : qM) : qAE g k zX12_stateNow (qL j r) 0 [some (.inr (some 77)), none, none] [] (qL j r, M) (f_X12_stateNow n  M) := by
  unfold f_X12_stateNow
  refine qr_iconst o (q_dm dm_X12_stateNow 0 rfl) ic_0 ?_
  refine qs_istore_n (L' := [some (.inr (some 77)), some (.inl (0 : Int32)), none]) o (q_dm dm_X12_stateNow 1 rfl) (Nat.le_of_ble_eq_true rfl) rfl ?_
  refine qr_aload_n o (q_dm dm_X12_stateNow 2 rfl) rfl ?_
  refine qr_getf (kf := 43) o cf_X12 (sh77 j r) rfl (Nat.le_of_ble_eq_true rfl) fl_X12_365 (q_dm dm_X12_stateNow 3 rfl) ?_
  refine qr_iconst o (q_dm dm_X12_stateNow 4 rfl) ic_1 ?_
  refine qr_isub o (q_dm dm_X12_stateNow 5 rfl) ?_
  refine qr_lt (fun x1 => ?_)
  refine qs_istore_n (L' := [some (.inr (some 77)), some (.inl (0 : Int32)), some (.inl x1)]) o (q_dm dm_X12_stateNow 6 rfl) (Nat.le_of_ble_eq_true rfl) rfl ?_
  exact qr_loc (q_leS (q_leS (q_leS q_le0))) (w_X12_stateNow_9 n j r hj hr o n (0 : Int32) x1 M)

theorem a_X12_stateNow (g : qG) (l : Launch) (n : Nat) (j r : Nat) (hj : q_isLaw j) (hr : q_isLaw r) (M : qM) : qAM g l 0 zX12_stateNow (qL j r) [.inr (some 77)] (qL j r, M) (f_X12_stateNow n  M) :=
  qAM.of zv_X12_stateNow.1 (by show 1 ≤ 3; decide) (fun k hk o => w_X12_stateNow n j r hj hr o  M)
def tb_X12_marks : List (Nat × Instr × Nat) := [(0, (.aload_n 0, 1)), (1, (.getfield 101, 3)), (4, (.iload_n 1, 1)), (5, (.iaload, 1)), (6, (.istore_n 3, 1)), (7, (.aload_n 0, 1)), (8, (.getfield 101, 3)), (11, (.iload_n 1, 1)), (12, (.iload_n 2, 1)), (13, (.iastore, 1)), (14, (.aload_n 0, 1)), (15, (.getfield 108, 3)), (18, (.aload_n 0, 1)), (19, (.invokevirtual 371, 3)), (22, (.iconst 1, 1)), (23, (.bastore, 1)), (24, (.aload_n 0, 1)), (25, (.getfield 101, 3)), (28, (.iload_n 1, 1)), (29, (.iload_n 3, 1)), (30, (.iastore, 1)), (31, (.return_, 1))]
theorem dm_X12_marks : ∀ q ∈ tb_X12_marks, decode zX12_marks.2.1 q.1 = .ok q.2 := by decide +kernel
def f_X12_marks (n : Nat) (a1 a2 : Int32) (M : qM) : qR :=
  qg a1 4 (ql (M 108 a1.toNatClampNeg) (fun x1 => qg a1 4 (qlm (mu M 108 a1.toNatClampNeg a2) (fun m2 => qc (f_X12_stateNow n  m2) (fun r3 m4 => qg r3 160000 (qlm (mu m4 110 r3.toNatClampNeg (vp_nar .boolean (1 : Int32))) (fun m5 => qg a1 4 (qlm (mu m5 108 a1.toNatClampNeg x1) (fun m6 => some (0, m6))))))))))
set_option maxRecDepth 4000 in
theorem w_X12_marks {g : qG} {k : qK} (n : Nat) (j r : Nat) (hj : q_isLaw j) (hr : q_isLaw r) (o : qOk g 1 zX12_marks k) (a1 a2 : Int32) (M : qM) : qAE g k zX12_marks (qL j r) 0 [some (.inr (some 77)), some (.inl a1), some (.inl a2), none] [] (qL j r, M) (f_X12_marks n a1 a2 M) := by
  unfold f_X12_marks
  refine qr_aload_n o (q_dm dm_X12_marks 0 rfl) rfl ?_
  refine qr_getr (kf := 51) o cf_X12 (sh77 j r) rfl (Nat.le_of_ble_eq_true rfl) fl_X12_101 (q_dm dm_X12_marks 1 rfl) ?_
  refine qr_iload_n o (q_dm dm_X12_marks 2 rfl) rfl ?_
  refine qr_iald o (sh108 j r) (q_dm dm_X12_marks 3 rfl) ?_
  refine qr_lt (fun x1 => ?_)
  refine qs_istore_n (L' := [some (.inr (some 77)), some (.inl a1), some (.inl a2), some (.inl x1)]) o (q_dm dm_X12_marks 4 rfl) (Nat.le_of_ble_eq_true rfl) rfl ?_
  refine qr_aload_n o (q_dm dm_X12_marks 5 rfl) rfl ?_
  refine qr_getr (kf := 51) o cf_X12 (sh77 j r) rfl (Nat.le_of_ble_eq_true rfl) fl_X12_101 (q_dm dm_X12_marks 6 rfl) ?_
  refine qr_iload_n o (q_dm dm_X12_marks 7 rfl) rfl ?_
  refine qr_iload_n o (q_dm dm_X12_marks 8 rfl) rfl ?_
  refine qr_iast o (sh108 j r) (q_dm dm_X12_marks 9 rfl) ?_
  refine qr_letm (fun m2 => ?_)
  refine qr_aload_n o (q_dm dm_X12_marks 10 rfl) rfl ?_
  refine qr_getr (kf := 53) o cf_X12 (sh77 j r) rfl (Nat.le_of_ble_eq_true rfl) fl_X12_108 (q_dm dm_X12_marks 11 rfl) ?_
  refine qr_aload_n o (q_dm dm_X12_marks 12 rfl) rfl ?_
  refine qr_callv_i (As := []) (S := [.inr (some 110)]) o (a_X12_stateNow g k.2.1 n j r hj hr  m2) (Nat.le_of_ble_eq_true rfl) zv_X12_stateNow rfl cf_X12 (sh77 j r) ml_X12_371 (Nat.le_of_ble_eq_true rfl) (q_dm dm_X12_marks 13 rfl) (fun r3 m4 => ?_)
  refine qr_iconst o (q_dm dm_X12_marks 14 rfl) ic_1 ?_
  refine qr_zast o (sh110 j r) (q_dm dm_X12_marks 15 rfl) ?_
  refine qr_letm (fun m5 => ?_)
  refine qr_aload_n o (q_dm dm_X12_marks 16 rfl) rfl ?_
  refine qr_getr (kf := 51) o cf_X12 (sh77 j r) rfl (Nat.le_of_ble_eq_true rfl) fl_X12_101 (q_dm dm_X12_marks 17 rfl) ?_
  refine qr_iload_n o (q_dm dm_X12_marks 18 rfl) rfl ?_
  refine qr_iload_n o (q_dm dm_X12_marks 19 rfl) rfl ?_
  refine qr_iast o (sh108 j r) (q_dm dm_X12_marks 20 rfl) ?_
  refine qr_letm (fun m6 => ?_)
  exact qr_vret o rfl (q_dm dm_X12_marks 21 rfl)

theorem a_X12_marks (g : qG) (l : Launch) (n : Nat) (j r : Nat) (hj : q_isLaw j) (hr : q_isLaw r) (a1 a2 : Int32) (M : qM) : qAM g l 1 zX12_marks (qL j r) [.inr (some 77), .inl a1, .inl a2] (qL j r, M) (f_X12_marks n a1 a2 M) :=
  qAM.of zv_X12_marks.1 (by show 3 ≤ 4; decide) (fun k hk o => w_X12_marks n j r hj hr o a1 a2 M)
def tb_X12_wayWith : List (Nat × Instr × Nat) := [(0, (.iconst 0, 1)), (1, (.istore 4, 2)), (3, (.iload 4, 2)), (5, (.bipush 20, 2)), (7, (.if_icmp .ge 45, 3)), (10, (.aload_n 0, 1)), (11, (.getfield 83, 3)), (14, (.iload 4, 2)), (16, (.iaload, 1)), (17, (.iload_n 1, 1)), (18, (.if_icmp .ne 28, 3)), (21, (.aload_n 0, 1)), (22, (.getfield 86, 3)), (25, (.iload 4, 2)), (27, (.iaload, 1)), (28, (.iload_n 2, 1)), (29, (.if_icmp .ne 17, 3)), (32, (.aload_n 0, 1)), (33, (.getfield 89, 3)), (36, (.iload 4, 2)), (38, (.iaload, 1)), (39, (.iload_n 3, 1)), (40, (.if_icmp .ne 6, 3)), (43, (.iload 4, 2)), (45, (.ireturn, 1)), (46, (.iinc 4 1, 3)), (49, (.goto (-46), 3)), (52, (.iconst (-1), 1)), (53, (.ireturn, 1))]
theorem dm_X12_wayWith : ∀ q ∈ tb_X12_wayWith, decode zX12_wayWith.2.1 q.1 = .ok q.2 := by decide +kernel
def b_X12_wayWith_3 (n : Nat) (K3 : Int32 → Int32 → Int32 → Int32 → qM → qR) (a1 a2 a3 a4 : Int32) (M : qM) : qR :=
  (if (20 : Int32) ≤ a4 then some ((-1 : Int32), M) else qg a4 20 ((if (M 102 a4.toNatClampNeg) = a1 then qg a4 20 ((if (M 103 a4.toNatClampNeg) = a2 then qg a4 20 ((if (M 104 a4.toNatClampNeg) = a3 then some (a4, M) else ql (a4 + (1 : Int32)) (fun x3 => K3 a1 a2 a3 x3 M))) else ql (a4 + (1 : Int32)) (fun x2 => K3 a1 a2 a3 x2 M))) else ql (a4 + (1 : Int32)) (fun x1 => K3 a1 a2 a3 x1 M))))
set_option maxRecDepth 4000 in
theorem wb_X12_wayWith_3 {g : qG} {k : qK} (n : Nat) (j r : Nat) (hj : q_isLaw j) (hr : q_isLaw r) (o : qOk g 0 zX12_wayWith k) (K3 : Int32 → Int32 → Int32 → Int32 → qM → qR) (hK3 : ∀ (a1 a2 a3 a4 : Int32) (M : qM), qAE g k zX12_wayWith (qL j r) 3 [some (.inr (some 77)), some (.inl a1), some (.inl a2), some (.inl a3), some (.inl a4)] [] (qL j r, M) (K3 a1 a2 a3 a4 M)) (a1 a2 a3 a4 : Int32) (M : qM) : qAE g k zX12_wayWith (qL j r) 3 [some (.inr (some 77)), some (.inl a1), some (.inl a2), some (.inl a3), some (.inl a4)] [] (qL j r, M) (b_X12_wayWith_3 n K3 a1 a2 a3 a4 M) := by
  unfold b_X12_wayWith_3
  refine qr_iload o (q_dm dm_X12_wayWith 2 rfl) rfl ?_
  refine qr_bipush o (q_dm dm_X12_wayWith 3 rfl) bi_20 ?_
  refine qr_icmp_ge (tgt := 52) o (q_dm dm_X12_wayWith 4 rfl) (by decide) ?_ ?_
  · refine qr_iconst o (q_dm dm_X12_wayWith 27 rfl) ic_m1 ?_
    exact qr_iret o rfl rfl (q_dm dm_X12_wayWith 28 rfl)
  · refine qr_aload_n o (q_dm dm_X12_wayWith 5 rfl) rfl ?_
    refine qr_getr (kf := 45) o cf_X12 (sh77 j r) rfl (Nat.le_of_ble_eq_true rfl) fl_X12_83 (q_dm dm_X12_wayWith 6 rfl) ?_
    refine qr_iload o (q_dm dm_X12_wayWith 7 rfl) rfl ?_
    refine qr_iald o (sh102 j r) (q_dm dm_X12_wayWith 8 rfl) ?_
    refine qr_iload_n o (q_dm dm_X12_wayWith 9 rfl) rfl ?_
    refine qr_icmp_ne (tgt := 46) o (q_dm dm_X12_wayWith 10 rfl) (by decide) ?_ ?_
    · refine qs_iincl2 (L' := fun x1 => [some (.inr (some 77)), some (.inl a1), some (.inl a2), some (.inl a3), some (.inl x1)]) o (q_dm dm_X12_wayWith 25 rfl) rfl ic_1 (Nat.le_of_ble_eq_true rfl) (fun _ => rfl) (fun x1 => ?_)
      refine qr_goto (tgt := 3) o (q_dm dm_X12_wayWith 26 rfl) (by decide) ?_
      exact qr_loc (q_leS (q_leS (q_leS (q_leS (q_leS q_le0))))) (hK3 a1 a2 a3 x1 M)
    · refine qr_aload_n o (q_dm dm_X12_wayWith 11 rfl) rfl ?_
      refine qr_getr (kf := 46) o cf_X12 (sh77 j r) rfl (Nat.le_of_ble_eq_true rfl) fl_X12_86 (q_dm dm_X12_wayWith 12 rfl) ?_
      refine qr_iload o (q_dm dm_X12_wayWith 13 rfl) rfl ?_
      refine qr_iald o (sh103 j r) (q_dm dm_X12_wayWith 14 rfl) ?_
      refine qr_iload_n o (q_dm dm_X12_wayWith 15 rfl) rfl ?_
      refine qr_icmp_ne (tgt := 46) o (q_dm dm_X12_wayWith 16 rfl) (by decide) ?_ ?_
      · refine qs_iincl2 (L' := fun x2 => [some (.inr (some 77)), some (.inl a1), some (.inl a2), some (.inl a3), some (.inl x2)]) o (q_dm dm_X12_wayWith 25 rfl) rfl ic_1 (Nat.le_of_ble_eq_true rfl) (fun _ => rfl) (fun x2 => ?_)
        refine qr_goto (tgt := 3) o (q_dm dm_X12_wayWith 26 rfl) (by decide) ?_
        exact qr_loc (q_leS (q_leS (q_leS (q_leS (q_leS q_le0))))) (hK3 a1 a2 a3 x2 M)
      · refine qr_aload_n o (q_dm dm_X12_wayWith 17 rfl) rfl ?_
        refine qr_getr (kf := 47) o cf_X12 (sh77 j r) rfl (Nat.le_of_ble_eq_true rfl) fl_X12_89 (q_dm dm_X12_wayWith 18 rfl) ?_
        refine qr_iload o (q_dm dm_X12_wayWith 19 rfl) rfl ?_
        refine qr_iald o (sh104 j r) (q_dm dm_X12_wayWith 20 rfl) ?_
        refine qr_iload_n o (q_dm dm_X12_wayWith 21 rfl) rfl ?_
        refine qr_icmp_ne (tgt := 46) o (q_dm dm_X12_wayWith 22 rfl) (by decide) ?_ ?_
        · refine qs_iincl2 (L' := fun x3 => [some (.inr (some 77)), some (.inl a1), some (.inl a2), some (.inl a3), some (.inl x3)]) o (q_dm dm_X12_wayWith 25 rfl) rfl ic_1 (Nat.le_of_ble_eq_true rfl) (fun _ => rfl) (fun x3 => ?_)
          refine qr_goto (tgt := 3) o (q_dm dm_X12_wayWith 26 rfl) (by decide) ?_
          exact qr_loc (q_leS (q_leS (q_leS (q_leS (q_leS q_le0))))) (hK3 a1 a2 a3 x3 M)
        · refine qr_iload o (q_dm dm_X12_wayWith 23 rfl) rfl ?_
          exact qr_iret o rfl rfl (q_dm dm_X12_wayWith 24 rfl)

def f_X12_wayWith_3 (n : Nat) : Nat → Int32 → Int32 → Int32 → Int32 → qM → qR
  | 0, _, _, _, _, _ => none
  | m + 1, a1, a2, a3, a4, M => b_X12_wayWith_3 n (f_X12_wayWith_3 n m) a1 a2 a3 a4 M
theorem w_X12_wayWith_3 {g : qG} {k : qK} (n : Nat) (j r : Nat) (hj : q_isLaw j) (hr : q_isLaw r) (o : qOk g 0 zX12_wayWith k) : ∀ (m : Nat) (a1 a2 a3 a4 : Int32) (M : qM), qAE g k zX12_wayWith (qL j r) 3 [some (.inr (some 77)), some (.inl a1), some (.inl a2), some (.inl a3), some (.inl a4)] [] (qL j r, M) (f_X12_wayWith_3 n m a1 a2 a3 a4 M) := by
  intro m
  induction m with
  | zero =>
    intro a1 a2 a3 a4 M
    exact qr_none
  | succ m ih =>
    intro a1 a2 a3 a4 M
    exact wb_X12_wayWith_3 n j r hj hr o (f_X12_wayWith_3 n m) ih a1 a2 a3 a4 M
def f_X12_wayWith (n : Nat) (a1 a2 a3 : Int32) (M : qM) : qR :=
  f_X12_wayWith_3 n n a1 a2 a3 (0 : Int32) M
set_option maxRecDepth 4000 in
theorem w_X12_wayWith {g : qG} {k : qK} (n : Nat) (j r : Nat) (hj : q_isLaw j) (hr : q_isLaw r) (o : qOk g 0 zX12_wayWith k) (a1 a2 a3 : Int32) (M : qM) : qAE g k zX12_wayWith (qL j r) 0 [some (.inr (some 77)), some (.inl a1), some (.inl a2), some (.inl a3), none] [] (qL j r, M) (f_X12_wayWith n a1 a2 a3 M) := by
  unfold f_X12_wayWith
  refine qr_iconst o (q_dm dm_X12_wayWith 0 rfl) ic_0 ?_
  refine qs_istore (L' := [some (.inr (some 77)), some (.inl a1), some (.inl a2), some (.inl a3), some (.inl (0 : Int32))]) o (q_dm dm_X12_wayWith 1 rfl) (Nat.le_of_ble_eq_true rfl) rfl ?_
  exact qr_loc (q_leS (q_leS (q_leS (q_leS (q_leS q_le0))))) (w_X12_wayWith_3 n j r hj hr o n a1 a2 a3 (0 : Int32) M)

theorem a_X12_wayWith (g : qG) (l : Launch) (n : Nat) (j r : Nat) (hj : q_isLaw j) (hr : q_isLaw r) (a1 a2 a3 : Int32) (M : qM) : qAM g l 0 zX12_wayWith (qL j r) [.inr (some 77), .inl a1, .inl a2, .inl a3] (qL j r, M) (f_X12_wayWith n a1 a2 a3 M) :=
  qAM.of zv_X12_wayWith.1 (by show 4 ≤ 5; decide) (fun k hk o => w_X12_wayWith n j r hj hr o a1 a2 a3 M)
def tb_X12_wouldCount : List (Nat × Instr × Nat) := [(0, (.aload_n 0, 1)), (1, (.getfield 92, 3)), (4, (.iload_n 1, 1)), (5, (.iaload, 1)), (6, (.istore_n 2, 1)), (7, (.aload_n 0, 1)), (8, (.getfield 95, 3)), (11, (.iload_n 1, 1)), (12, (.iaload, 1)), (13, (.istore_n 3, 1)), (14, (.iconst 0, 1)), (15, (.istore 4, 2)), (17, (.iload 4, 2)), (19, (.aload_n 0, 1)), (20, (.getfield 365, 3)), (23, (.if_icmp .ge 55, 3)), (26, (.iload_n 3, 1)), (27, (.aload_n 0, 1)), (28, (.getfield 98, 3)), (31, (.iload_n 1, 1)), (32, (.iaload, 1)), (33, (.iload 4, 2)), (35, (.invokestatic 149, 3)), (38, (.ifCond .eq 31, 3)), (41, (.aload_n 0, 1)), (42, (.getfield 83, 3)), (45, (.aload_n 0, 1)), (46, (.getfield 101, 3)), (49, (.iload 4, 2)), (51, (.iaload, 1)), (52, (.iaload, 1)), (53, (.aload_n 0, 1)), (54, (.getfield 86, 3)), (57, (.aload_n 0, 1)), (58, (.getfield 101, 3)), (61, (.iload 4, 2)), (63, (.iaload, 1)), (64, (.iaload, 1)), (65, (.iadd, 1)), (66, (.goto 4, 3)), (69, (.iconst 0, 1)), (70, (.iadd, 1)), (71, (.istore_n 3, 1)), (72, (.iinc 4 1, 3)), (75, (.goto (-58), 3)), (78, (.aload_n 0, 1)), (79, (.aload_n 0, 1)), (80, (.getfield 362, 3)), (83, (.iload_n 2, 1)), (84, (.bipush 8, 2)), (86, (.invokevirtual 288, 3)), (89, (.aload_n 0, 1)), (90, (.getfield 68, 3)), (93, (.bipush 9, 2)), (95, (.aload_n 0, 1)), (96, (.getfield 68, 3)), (99, (.bipush 9, 2)), (101, (.iaload, 1)), (102, (.aload_n 0, 1)), (103, (.getfield 83, 3)), (106, (.aload_n 0, 1)), (107, (.getfield 101, 3)), (110, (.iload_n 1, 1)), (111, (.iaload, 1)), (112, (.iaload, 1)), (113, (.iadd, 1)), (114, (.aload_n 0, 1)), (115, (.getfield 86, 3)), (118, (.aload_n 0, 1)), (119, (.getfield 101, 3)), (122, (.iload_n 1, 1)), (123, (.iaload, 1)), (124, (.iaload, 1)), (125, (.iadd, 1)), (126, (.iastore, 1)), (127, (.aload_n 0, 1)), (128, (.getfield 68, 3)), (131, (.bipush 10, 2)), (133, (.aload_n 0, 1)), (134, (.getfield 68, 3)), (137, (.bipush 10, 2)), (139, (.iaload, 1)), (140, (.aload_n 0, 1)), (141, (.getfield 83, 3)), (144, (.aload_n 0, 1)), (145, (.getfield 101, 3)), (148, (.iload_n 1, 1)), (149, (.iaload, 1)), (150, (.iaload, 1)), (151, (.iadd, 1)), (152, (.aload_n 0, 1)), (153, (.getfield 86, 3)), (156, (.aload_n 0, 1)), (157, (.getfield 101, 3)), (160, (.iload_n 1, 1)), (161, (.iaload, 1)), (162, (.iaload, 1)), (163, (.iadd, 1)), (164, (.iastore, 1)), (165, (.aload_n 0, 1)), (166, (.getfield 68, 3)), (169, (.bipush 11, 2)), (171, (.aload_n 0, 1)), (172, (.getfield 68, 3)), (175, (.bipush 11, 2)), (177, (.iaload, 1)), (178, (.aload_n 0, 1)), (179, (.getfield 89, 3)), (182, (.aload_n 0, 1)), (183, (.getfield 101, 3)), (186, (.iload_n 1, 1)), (187, (.iaload, 1)), (188, (.iaload, 1)), (189, (.iadd, 1)), (190, (.iastore, 1)), (191, (.iload_n 3, 1)), (192, (.aload_n 0, 1)), (193, (.bipush 118, 2)), (195, (.bipush 99, 2)), (197, (.iconst 1, 1)), (198, (.invokevirtual 292, 3)), (201, (.if_icmp .lt 15, 3)), (204, (.aload_n 0, 1)), (205, (.iload_n 2, 1)), (206, (.invokevirtual 368, 3)), (209, (.ifCond .eq 7, 3)), (212, (.iconst 1, 1)), (213, (.goto 4, 3)), (216, (.iconst 0, 1)), (217, (.ireturn, 1))]
theorem dm_X12_wouldCount : ∀ q ∈ tb_X12_wouldCount, decode zX12_wouldCount.2.1 q.1 = .ok q.2 := by decide +kernel
def f_X12_wouldCount_70 (n : Nat) (K17 : Int32 → Int32 → Int32 → Int32 → qM → qR) (a1 a2 a4 s0 s1 : Int32) (M : qM) : qR :=
  ql (s0 + s1) (fun x1 => ql (a4 + (1 : Int32)) (fun x2 => K17 a1 a2 x1 x2 M))
set_option maxRecDepth 4000 in
theorem w_X12_wouldCount_70 {g : qG} {k : qK} (n : Nat) (j r : Nat) (hj : q_isLaw j) (hr : q_isLaw r) (o : qOk g 3 zX12_wouldCount k) (K17 : Int32 → Int32 → Int32 → Int32 → qM → qR) (hK17 : ∀ (a1 a2 a3 a4 : Int32) (M : qM), qAE g k zX12_wouldCount (qL j r) 17 [some (.inr (some 77)), some (.inl a1), some (.inl a2), some (.inl a3), some (.inl a4)] [] (qL j r, M) (K17 a1 a2 a3 a4 M)) (a1 a2 a4 s0 s1 : Int32) (M : qM) : qAE g k zX12_wouldCount (qL j r) 70 [some (.inr (some 77)), some (.inl a1), some (.inl a2), none, some (.inl a4)] [.inl s1, .inl s0] (qL j r, M) (f_X12_wouldCount_70 n K17 a1 a2 a4 s0 s1 M) := by
  unfold f_X12_wouldCount_70
  refine qr_iadd o (q_dm dm_X12_wouldCount 41 rfl) ?_
  refine qr_lt (fun x1 => ?_)
  refine qs_istore_n (L' := [some (.inr (some 77)), some (.inl a1), some (.inl a2), some (.inl x1), some (.inl a4)]) o (q_dm dm_X12_wouldCount 42 rfl) (Nat.le_of_ble_eq_true rfl) rfl ?_
  refine qs_iincl2 (L' := fun x2 => [some (.inr (some 77)), some (.inl a1), some (.inl a2), some (.inl x1), some (.inl x2)]) o (q_dm dm_X12_wouldCount 43 rfl) rfl ic_1 (Nat.le_of_ble_eq_true rfl) (fun _ => rfl) (fun x2 => ?_)
  refine qr_goto (tgt := 17) o (q_dm dm_X12_wouldCount 44 rfl) (by decide) ?_
  exact qr_loc (q_leS (q_leS (q_leS (q_leS (q_leS q_le0))))) (hK17 a1 a2 x1 x2 M)

def b_X12_wouldCount_17 (n : Nat) (K17 : Int32 → Int32 → Int32 → Int32 → qM → qR) (a1 a2 a3 a4 : Int32) (M : qM) : qR :=
  (if (M 77 43) ≤ a4 then qc (f_X12_feels n (M 77 44) a2 (8 : Int32) M) (fun _ m1 => qg a1 4 (qg (m1 108 a1.toNatClampNeg) 20 (qg a1 4 (qg (m1 108 a1.toNatClampNeg) 20 (qlm (mu m1 97 9 (((m1 97 9) + (m1 102 (m1 108 a1.toNatClampNeg).toNatClampNeg)) + (m1 103 (m1 108 a1.toNatClampNeg).toNatClampNeg))) (fun m2 => qg a1 4 (qg (m2 108 a1.toNatClampNeg) 20 (qg a1 4 (qg (m2 108 a1.toNatClampNeg) 20 (qlm (mu m2 97 10 (((m2 97 10) + (m2 102 (m2 108 a1.toNatClampNeg).toNatClampNeg)) + (m2 103 (m2 108 a1.toNatClampNeg).toNatClampNeg))) (fun m3 => qg a1 4 (qg (m3 108 a1.toNatClampNeg) 20 (qlm (mu m3 97 11 ((m3 97 11) + (m3 104 (m3 108 a1.toNatClampNeg).toNatClampNeg))) (fun m4 => qc (f_X12_byLaw n (118 : Int32) (99 : Int32) (1 : Int32) m4) (fun r5 m6 => (if a3 < r5 then some ((0 : Int32), m6) else qc (f_X12_areCounted n a2 m6) (fun r7 m8 => (if r7 = (0 : Int32) then some ((0 : Int32), m8) else some ((1 : Int32), m8))))))))))))))))))) else qg a1 4 (qc (f_X12_has0 n (M 107 a1.toNatClampNeg) a4 M) (fun r9 m10 => (if r9 = (0 : Int32) then f_X12_wouldCount_70 n K17 a1 a2 a4 a3 (0 : Int32) m10 else qg a4 4 (qg (m10 108 a4.toNatClampNeg) 20 (qg a4 4 (qg (m10 108 a4.toNatClampNeg) 20 (f_X12_wouldCount_70 n K17 a1 a2 a4 a3 ((m10 102 (m10 108 a4.toNatClampNeg).toNatClampNeg) + (m10 103 (m10 108 a4.toNatClampNeg).toNatClampNeg)) m10))))))))
set_option maxRecDepth 4000 in
theorem wb_X12_wouldCount_17 {g : qG} {k : qK} (n : Nat) (j r : Nat) (hj : q_isLaw j) (hr : q_isLaw r) (o : qOk g 3 zX12_wouldCount k) (K17 : Int32 → Int32 → Int32 → Int32 → qM → qR) (hK17 : ∀ (a1 a2 a3 a4 : Int32) (M : qM), qAE g k zX12_wouldCount (qL j r) 17 [some (.inr (some 77)), some (.inl a1), some (.inl a2), some (.inl a3), some (.inl a4)] [] (qL j r, M) (K17 a1 a2 a3 a4 M)) (a1 a2 a3 a4 : Int32) (M : qM) : qAE g k zX12_wouldCount (qL j r) 17 [some (.inr (some 77)), some (.inl a1), some (.inl a2), some (.inl a3), some (.inl a4)] [] (qL j r, M) (b_X12_wouldCount_17 n K17 a1 a2 a3 a4 M) := by
  unfold b_X12_wouldCount_17
  refine qr_iload o (q_dm dm_X12_wouldCount 12 rfl) rfl ?_
  refine qr_aload_n o (q_dm dm_X12_wouldCount 13 rfl) rfl ?_
  refine qr_getf (kf := 43) o cf_X12 (sh77 j r) rfl (Nat.le_of_ble_eq_true rfl) fl_X12_365 (q_dm dm_X12_wouldCount 14 rfl) ?_
  refine qr_icmp_ge (tgt := 78) o (q_dm dm_X12_wouldCount 15 rfl) (by decide) ?_ ?_
  · refine qr_aload_n o (q_dm dm_X12_wouldCount 45 rfl) rfl ?_
    refine qr_aload_n o (q_dm dm_X12_wouldCount 46 rfl) rfl ?_
    refine qr_getf (kf := 44) o cf_X12 (sh77 j r) rfl (Nat.le_of_ble_eq_true rfl) fl_X12_362 (q_dm dm_X12_wouldCount 47 rfl) ?_
    refine qr_iload_n o (q_dm dm_X12_wouldCount 48 rfl) rfl ?_
    refine qr_bipush o (q_dm dm_X12_wouldCount 49 rfl) bi_8 ?_
    refine qr_callv_v (As := [.inl (M 77 44), .inl a2, .inl (8 : Int32)]) (S := []) o (a_X12_feels g k.2.1 n j r hj hr (M 77 44) a2 (8 : Int32) M) (Nat.le_of_ble_eq_true rfl) zv_X12_feels rfl cf_X12 (sh77 j r) ml_X12_288 (Nat.le_of_ble_eq_true rfl) (q_dm dm_X12_wouldCount 50 rfl) (fun _ m1 => ?_)
    refine qr_aload_n o (q_dm dm_X12_wouldCount 51 rfl) rfl ?_
    refine qr_getr (kf := 30) o cf_X12 (sh77 j r) rfl (Nat.le_of_ble_eq_true rfl) fl_X12_68 (q_dm dm_X12_wouldCount 52 rfl) ?_
    refine qr_bipush o (q_dm dm_X12_wouldCount 53 rfl) bi_9 ?_
    refine qr_aload_n o (q_dm dm_X12_wouldCount 54 rfl) rfl ?_
    refine qr_getr (kf := 30) o cf_X12 (sh77 j r) rfl (Nat.le_of_ble_eq_true rfl) fl_X12_68 (q_dm dm_X12_wouldCount 55 rfl) ?_
    refine qr_bipush o (q_dm dm_X12_wouldCount 56 rfl) bi_9 ?_
    refine qr_iald0 (c := 9) o (sh97 j r) (by decide) (by decide) (q_dm dm_X12_wouldCount 57 rfl) ?_
    refine qr_aload_n o (q_dm dm_X12_wouldCount 58 rfl) rfl ?_
    refine qr_getr (kf := 45) o cf_X12 (sh77 j r) rfl (Nat.le_of_ble_eq_true rfl) fl_X12_83 (q_dm dm_X12_wouldCount 59 rfl) ?_
    refine qr_aload_n o (q_dm dm_X12_wouldCount 60 rfl) rfl ?_
    refine qr_getr (kf := 51) o cf_X12 (sh77 j r) rfl (Nat.le_of_ble_eq_true rfl) fl_X12_101 (q_dm dm_X12_wouldCount 61 rfl) ?_
    refine qr_iload_n o (q_dm dm_X12_wouldCount 62 rfl) rfl ?_
    refine qr_iald o (sh108 j r) (q_dm dm_X12_wouldCount 63 rfl) ?_
    refine qr_iald o (sh102 j r) (q_dm dm_X12_wouldCount 64 rfl) ?_
    refine qr_iadd o (q_dm dm_X12_wouldCount 65 rfl) ?_
    refine qr_aload_n o (q_dm dm_X12_wouldCount 66 rfl) rfl ?_
    refine qr_getr (kf := 46) o cf_X12 (sh77 j r) rfl (Nat.le_of_ble_eq_true rfl) fl_X12_86 (q_dm dm_X12_wouldCount 67 rfl) ?_
    refine qr_aload_n o (q_dm dm_X12_wouldCount 68 rfl) rfl ?_
    refine qr_getr (kf := 51) o cf_X12 (sh77 j r) rfl (Nat.le_of_ble_eq_true rfl) fl_X12_101 (q_dm dm_X12_wouldCount 69 rfl) ?_
    refine qr_iload_n o (q_dm dm_X12_wouldCount 70 rfl) rfl ?_
    refine qr_iald o (sh108 j r) (q_dm dm_X12_wouldCount 71 rfl) ?_
    refine qr_iald o (sh103 j r) (q_dm dm_X12_wouldCount 72 rfl) ?_
    refine qr_iadd o (q_dm dm_X12_wouldCount 73 rfl) ?_
    refine qr_iast0 (c := 9) o (sh97 j r) (by decide) (by decide) (q_dm dm_X12_wouldCount 74 rfl) ?_
    refine qr_letm (fun m2 => ?_)
    refine qr_aload_n o (q_dm dm_X12_wouldCount 75 rfl) rfl ?_
    refine qr_getr (kf := 30) o cf_X12 (sh77 j r) rfl (Nat.le_of_ble_eq_true rfl) fl_X12_68 (q_dm dm_X12_wouldCount 76 rfl) ?_
    refine qr_bipush o (q_dm dm_X12_wouldCount 77 rfl) bi_10 ?_
    refine qr_aload_n o (q_dm dm_X12_wouldCount 78 rfl) rfl ?_
    refine qr_getr (kf := 30) o cf_X12 (sh77 j r) rfl (Nat.le_of_ble_eq_true rfl) fl_X12_68 (q_dm dm_X12_wouldCount 79 rfl) ?_
    refine qr_bipush o (q_dm dm_X12_wouldCount 80 rfl) bi_10 ?_
    refine qr_iald0 (c := 10) o (sh97 j r) (by decide) (by decide) (q_dm dm_X12_wouldCount 81 rfl) ?_
    refine qr_aload_n o (q_dm dm_X12_wouldCount 82 rfl) rfl ?_
    refine qr_getr (kf := 45) o cf_X12 (sh77 j r) rfl (Nat.le_of_ble_eq_true rfl) fl_X12_83 (q_dm dm_X12_wouldCount 83 rfl) ?_
    refine qr_aload_n o (q_dm dm_X12_wouldCount 84 rfl) rfl ?_
    refine qr_getr (kf := 51) o cf_X12 (sh77 j r) rfl (Nat.le_of_ble_eq_true rfl) fl_X12_101 (q_dm dm_X12_wouldCount 85 rfl) ?_
    refine qr_iload_n o (q_dm dm_X12_wouldCount 86 rfl) rfl ?_
    refine qr_iald o (sh108 j r) (q_dm dm_X12_wouldCount 87 rfl) ?_
    refine qr_iald o (sh102 j r) (q_dm dm_X12_wouldCount 88 rfl) ?_
    refine qr_iadd o (q_dm dm_X12_wouldCount 89 rfl) ?_
    refine qr_aload_n o (q_dm dm_X12_wouldCount 90 rfl) rfl ?_
    refine qr_getr (kf := 46) o cf_X12 (sh77 j r) rfl (Nat.le_of_ble_eq_true rfl) fl_X12_86 (q_dm dm_X12_wouldCount 91 rfl) ?_
    refine qr_aload_n o (q_dm dm_X12_wouldCount 92 rfl) rfl ?_
    refine qr_getr (kf := 51) o cf_X12 (sh77 j r) rfl (Nat.le_of_ble_eq_true rfl) fl_X12_101 (q_dm dm_X12_wouldCount 93 rfl) ?_
    refine qr_iload_n o (q_dm dm_X12_wouldCount 94 rfl) rfl ?_
    refine qr_iald o (sh108 j r) (q_dm dm_X12_wouldCount 95 rfl) ?_
    refine qr_iald o (sh103 j r) (q_dm dm_X12_wouldCount 96 rfl) ?_
    refine qr_iadd o (q_dm dm_X12_wouldCount 97 rfl) ?_
    refine qr_iast0 (c := 10) o (sh97 j r) (by decide) (by decide) (q_dm dm_X12_wouldCount 98 rfl) ?_
    refine qr_letm (fun m3 => ?_)
    refine qr_aload_n o (q_dm dm_X12_wouldCount 99 rfl) rfl ?_
    refine qr_getr (kf := 30) o cf_X12 (sh77 j r) rfl (Nat.le_of_ble_eq_true rfl) fl_X12_68 (q_dm dm_X12_wouldCount 100 rfl) ?_
    refine qr_bipush o (q_dm dm_X12_wouldCount 101 rfl) bi_11 ?_
    refine qr_aload_n o (q_dm dm_X12_wouldCount 102 rfl) rfl ?_
    refine qr_getr (kf := 30) o cf_X12 (sh77 j r) rfl (Nat.le_of_ble_eq_true rfl) fl_X12_68 (q_dm dm_X12_wouldCount 103 rfl) ?_
    refine qr_bipush o (q_dm dm_X12_wouldCount 104 rfl) bi_11 ?_
    refine qr_iald0 (c := 11) o (sh97 j r) (by decide) (by decide) (q_dm dm_X12_wouldCount 105 rfl) ?_
    refine qr_aload_n o (q_dm dm_X12_wouldCount 106 rfl) rfl ?_
    refine qr_getr (kf := 47) o cf_X12 (sh77 j r) rfl (Nat.le_of_ble_eq_true rfl) fl_X12_89 (q_dm dm_X12_wouldCount 107 rfl) ?_
    refine qr_aload_n o (q_dm dm_X12_wouldCount 108 rfl) rfl ?_
    refine qr_getr (kf := 51) o cf_X12 (sh77 j r) rfl (Nat.le_of_ble_eq_true rfl) fl_X12_101 (q_dm dm_X12_wouldCount 109 rfl) ?_
    refine qr_iload_n o (q_dm dm_X12_wouldCount 110 rfl) rfl ?_
    refine qr_iald o (sh108 j r) (q_dm dm_X12_wouldCount 111 rfl) ?_
    refine qr_iald o (sh104 j r) (q_dm dm_X12_wouldCount 112 rfl) ?_
    refine qr_iadd o (q_dm dm_X12_wouldCount 113 rfl) ?_
    refine qr_iast0 (c := 11) o (sh97 j r) (by decide) (by decide) (q_dm dm_X12_wouldCount 114 rfl) ?_
    refine qr_letm (fun m4 => ?_)
    refine qr_iload_n o (q_dm dm_X12_wouldCount 115 rfl) rfl ?_
    refine qr_aload_n o (q_dm dm_X12_wouldCount 116 rfl) rfl ?_
    refine qr_bipush o (q_dm dm_X12_wouldCount 117 rfl) bi_118 ?_
    refine qr_bipush o (q_dm dm_X12_wouldCount 118 rfl) bi_99 ?_
    refine qr_iconst o (q_dm dm_X12_wouldCount 119 rfl) ic_1 ?_
    refine qr_callv_i (As := [.inl (118 : Int32), .inl (99 : Int32), .inl (1 : Int32)]) (S := [.inl a3]) o (a_X12_byLaw g k.2.1 n j r hj hr (118 : Int32) (99 : Int32) (1 : Int32) m4) (Nat.le_of_ble_eq_true rfl) zv_X12_byLaw rfl cf_X12 (sh77 j r) ml_X12_292 (Nat.le_of_ble_eq_true rfl) (q_dm dm_X12_wouldCount 120 rfl) (fun r5 m6 => ?_)
    refine qr_icmp_lt (tgt := 216) o (q_dm dm_X12_wouldCount 121 rfl) (by decide) ?_ ?_
    · refine qr_iconst o (q_dm dm_X12_wouldCount 128 rfl) ic_0 ?_
      exact qr_iret o rfl (by decide) (q_dm dm_X12_wouldCount 129 rfl)
    · refine qr_aload_n o (q_dm dm_X12_wouldCount 122 rfl) rfl ?_
      refine qr_iload_n o (q_dm dm_X12_wouldCount 123 rfl) rfl ?_
      refine qr_callv_i (As := [.inl a2]) (S := []) o (a_X12_areCounted g k.2.1 n j r hj hr a2 m6) (Nat.le_of_ble_eq_true rfl) zv_X12_areCounted rfl cf_X12 (sh77 j r) ml_X12_368 (Nat.le_of_ble_eq_true rfl) (q_dm dm_X12_wouldCount 124 rfl) (fun r7 m8 => ?_)
      refine qr_if_eq (tgt := 216) o (q_dm dm_X12_wouldCount 125 rfl) (by decide) ?_ ?_
      · refine qr_iconst o (q_dm dm_X12_wouldCount 128 rfl) ic_0 ?_
        exact qr_iret o rfl (by decide) (q_dm dm_X12_wouldCount 129 rfl)
      · refine qr_iconst o (q_dm dm_X12_wouldCount 126 rfl) ic_1 ?_
        refine qr_goto (tgt := 217) o (q_dm dm_X12_wouldCount 127 rfl) (by decide) ?_
        exact qr_iret o rfl (by decide) (q_dm dm_X12_wouldCount 129 rfl)
  · refine qr_iload_n o (q_dm dm_X12_wouldCount 16 rfl) rfl ?_
    refine qr_aload_n o (q_dm dm_X12_wouldCount 17 rfl) rfl ?_
    refine qr_getr (kf := 50) o cf_X12 (sh77 j r) rfl (Nat.le_of_ble_eq_true rfl) fl_X12_98 (q_dm dm_X12_wouldCount 18 rfl) ?_
    refine qr_iload_n o (q_dm dm_X12_wouldCount 19 rfl) rfl ?_
    refine qr_iald o (sh107 j r) (q_dm dm_X12_wouldCount 20 rfl) ?_
    refine qr_iload o (q_dm dm_X12_wouldCount 21 rfl) rfl ?_
    refine qr_calls_i (As := [.inl (M 107 a1.toNatClampNeg), .inl a4]) (S := [.inl a3]) o (a_X12_has0 g k.2.1 n j r hj hr (M 107 a1.toNatClampNeg) a4 M) (Nat.le_of_ble_eq_true rfl) zs_X12_has0 rfl ml_X12_149 (Nat.le_of_ble_eq_true rfl) (q_dm dm_X12_wouldCount 22 rfl) (fun r9 m10 => ?_)
    refine qr_if_eq (tgt := 69) o (q_dm dm_X12_wouldCount 23 rfl) (by decide) ?_ ?_
    · refine qr_iconst o (q_dm dm_X12_wouldCount 40 rfl) ic_0 ?_
      exact qr_loc (q_leS (q_leS (q_leS (q_leN (q_leS q_le0))))) (w_X12_wouldCount_70 n j r hj hr o K17 hK17 a1 a2 a4 a3 (0 : Int32) m10)
    · refine qr_aload_n o (q_dm dm_X12_wouldCount 24 rfl) rfl ?_
      refine qr_getr (kf := 45) o cf_X12 (sh77 j r) rfl (Nat.le_of_ble_eq_true rfl) fl_X12_83 (q_dm dm_X12_wouldCount 25 rfl) ?_
      refine qr_aload_n o (q_dm dm_X12_wouldCount 26 rfl) rfl ?_
      refine qr_getr (kf := 51) o cf_X12 (sh77 j r) rfl (Nat.le_of_ble_eq_true rfl) fl_X12_101 (q_dm dm_X12_wouldCount 27 rfl) ?_
      refine qr_iload o (q_dm dm_X12_wouldCount 28 rfl) rfl ?_
      refine qr_iald o (sh108 j r) (q_dm dm_X12_wouldCount 29 rfl) ?_
      refine qr_iald o (sh102 j r) (q_dm dm_X12_wouldCount 30 rfl) ?_
      refine qr_aload_n o (q_dm dm_X12_wouldCount 31 rfl) rfl ?_
      refine qr_getr (kf := 46) o cf_X12 (sh77 j r) rfl (Nat.le_of_ble_eq_true rfl) fl_X12_86 (q_dm dm_X12_wouldCount 32 rfl) ?_
      refine qr_aload_n o (q_dm dm_X12_wouldCount 33 rfl) rfl ?_
      refine qr_getr (kf := 51) o cf_X12 (sh77 j r) rfl (Nat.le_of_ble_eq_true rfl) fl_X12_101 (q_dm dm_X12_wouldCount 34 rfl) ?_
      refine qr_iload o (q_dm dm_X12_wouldCount 35 rfl) rfl ?_
      refine qr_iald o (sh108 j r) (q_dm dm_X12_wouldCount 36 rfl) ?_
      refine qr_iald o (sh103 j r) (q_dm dm_X12_wouldCount 37 rfl) ?_
      refine qr_iadd o (q_dm dm_X12_wouldCount 38 rfl) ?_
      refine qr_goto (tgt := 70) o (q_dm dm_X12_wouldCount 39 rfl) (by decide) ?_
      exact qr_loc (q_leS (q_leS (q_leS (q_leN (q_leS q_le0))))) (w_X12_wouldCount_70 n j r hj hr o K17 hK17 a1 a2 a4 a3 ((m10 102 (m10 108 a4.toNatClampNeg).toNatClampNeg) + (m10 103 (m10 108 a4.toNatClampNeg).toNatClampNeg)) m10)

def f_X12_wouldCount_17 (n : Nat) : Nat → Int32 → Int32 → Int32 → Int32 → qM → qR
  | 0, _, _, _, _, _ => none
  | m + 1, a1, a2, a3, a4, M => b_X12_wouldCount_17 n (f_X12_wouldCount_17 n m) a1 a2 a3 a4 M
theorem w_X12_wouldCount_17 {g : qG} {k : qK} (n : Nat) (j r : Nat) (hj : q_isLaw j) (hr : q_isLaw r) (o : qOk g 3 zX12_wouldCount k) : ∀ (m : Nat) (a1 a2 a3 a4 : Int32) (M : qM), qAE g k zX12_wouldCount (qL j r) 17 [some (.inr (some 77)), some (.inl a1), some (.inl a2), some (.inl a3), some (.inl a4)] [] (qL j r, M) (f_X12_wouldCount_17 n m a1 a2 a3 a4 M) := by
  intro m
  induction m with
  | zero =>
    intro a1 a2 a3 a4 M
    exact qr_none
  | succ m ih =>
    intro a1 a2 a3 a4 M
    exact wb_X12_wouldCount_17 n j r hj hr o (f_X12_wouldCount_17 n m) ih a1 a2 a3 a4 M
def f_X12_wouldCount (n : Nat) (a1 : Int32) (M : qM) : qR :=
  qg a1 4 (ql (M 105 a1.toNatClampNeg) (fun x1 => qg a1 4 (ql (M 106 a1.toNatClampNeg) (fun x2 => f_X12_wouldCount_17 n n a1 x1 x2 (0 : Int32) M))))
set_option maxRecDepth 4000 in
theorem w_X12_wouldCount {g : qG} {k : qK} (n : Nat) (j r : Nat) (hj : q_isLaw j) (hr : q_isLaw r) (o : qOk g 3 zX12_wouldCount k) (a1 : Int32) (M : qM) : qAE g k zX12_wouldCount (qL j r) 0 [some (.inr (some 77)), some (.inl a1), none, none, none] [] (qL j r, M) (f_X12_wouldCount n a1 M) := by
  unfold f_X12_wouldCount
  refine qr_aload_n o (q_dm dm_X12_wouldCount 0 rfl) rfl ?_
  refine qr_getr (kf := 48) o cf_X12 (sh77 j r) rfl (Nat.le_of_ble_eq_true rfl) fl_X12_92 (q_dm dm_X12_wouldCount 1 rfl) ?_
  refine qr_iload_n o (q_dm dm_X12_wouldCount 2 rfl) rfl ?_
  refine qr_iald o (sh105 j r) (q_dm dm_X12_wouldCount 3 rfl) ?_
  refine qr_lt (fun x1 => ?_)
  refine qs_istore_n (L' := [some (.inr (some 77)), some (.inl a1), some (.inl x1), none, none]) o (q_dm dm_X12_wouldCount 4 rfl) (Nat.le_of_ble_eq_true rfl) rfl ?_
  refine qr_aload_n o (q_dm dm_X12_wouldCount 5 rfl) rfl ?_
  refine qr_getr (kf := 49) o cf_X12 (sh77 j r) rfl (Nat.le_of_ble_eq_true rfl) fl_X12_95 (q_dm dm_X12_wouldCount 6 rfl) ?_
  refine qr_iload_n o (q_dm dm_X12_wouldCount 7 rfl) rfl ?_
  refine qr_iald o (sh106 j r) (q_dm dm_X12_wouldCount 8 rfl) ?_
  refine qr_lt (fun x2 => ?_)
  refine qs_istore_n (L' := [some (.inr (some 77)), some (.inl a1), some (.inl x1), some (.inl x2), none]) o (q_dm dm_X12_wouldCount 9 rfl) (Nat.le_of_ble_eq_true rfl) rfl ?_
  refine qr_iconst o (q_dm dm_X12_wouldCount 10 rfl) ic_0 ?_
  refine qs_istore (L' := [some (.inr (some 77)), some (.inl a1), some (.inl x1), some (.inl x2), some (.inl (0 : Int32))]) o (q_dm dm_X12_wouldCount 11 rfl) (Nat.le_of_ble_eq_true rfl) rfl ?_
  exact qr_loc (q_leS (q_leS (q_leS (q_leS (q_leS q_le0))))) (w_X12_wouldCount_17 n j r hj hr o n a1 x1 x2 (0 : Int32) M)

theorem a_X12_wouldCount (g : qG) (l : Launch) (n : Nat) (j r : Nat) (hj : q_isLaw j) (hr : q_isLaw r) (a1 : Int32) (M : qM) : qAM g l 3 zX12_wouldCount (qL j r) [.inr (some 77), .inl a1] (qL j r, M) (f_X12_wouldCount n a1 M) :=
  qAM.of zv_X12_wouldCount.1 (by show 2 ≤ 5; decide) (fun k hk o => w_X12_wouldCount n j r hj hr o a1 M)
def tb_X12_spreads : List (Nat × Instr × Nat) := [(0, (.aload_n 0, 1)), (1, (.invokevirtual 374, 3)), (4, (.istore_n 2, 1)), (5, (.iconst 0, 1)), (6, (.istore_n 3, 1)), (7, (.iload_n 3, 1)), (8, (.aload_n 0, 1)), (9, (.getfield 365, 3)), (12, (.if_icmp .ge 118, 3)), (15, (.aload_n 0, 1)), (16, (.getfield 83, 3)), (19, (.aload_n 0, 1)), (20, (.getfield 101, 3)), (23, (.iload_n 3, 1)), (24, (.iaload, 1)), (25, (.iaload, 1)), (26, (.istore 4, 2)), (28, (.aload_n 0, 1)), (29, (.getfield 86, 3)), (32, (.aload_n 0, 1)), (33, (.getfield 101, 3)), (36, (.iload_n 3, 1)), (37, (.iaload, 1)), (38, (.iaload, 1)), (39, (.istore 5, 2)), (41, (.iload 4, 2)), (43, (.iload 5, 2)), (45, (.iadd, 1)), (46, (.iconst 3, 1)), (47, (.if_icmp .ne 6, 3)), (50, (.goto 74, 3)), (53, (.aload_n 0, 1)), (54, (.iload_n 3, 1)), (55, (.aload_n 0, 1)), (56, (.iload 4, 2)), (58, (.iconst 1, 1)), (59, (.iadd, 1)), (60, (.iload 5, 2)), (62, (.aload_n 0, 1)), (63, (.getfield 89, 3)), (66, (.aload_n 0, 1)), (67, (.getfield 101, 3)), (70, (.iload_n 3, 1)), (71, (.iaload, 1)), (72, (.iaload, 1)), (73, (.aload_n 0, 1)), (74, (.iload_n 3, 1)), (75, (.invokevirtual 377, 3)), (78, (.ifCond .eq 7, 3)), (81, (.iconst 1, 1)), (82, (.goto 4, 3)), (85, (.iconst 0, 1)), (86, (.iadd, 1)), (87, (.invokevirtual 380, 3)), (90, (.invokevirtual 383, 3)), (93, (.iload_n 2, 1)), (94, (.iload_n 1, 1)), (95, (.if_icmp .ge 29, 3)), (98, (.aload_n 0, 1)), (99, (.iload_n 3, 1)), (100, (.aload_n 0, 1)), (101, (.iload 4, 2)), (103, (.iload 5, 2)), (105, (.iconst 1, 1)), (106, (.iadd, 1)), (107, (.aload_n 0, 1)), (108, (.getfield 89, 3)), (111, (.aload_n 0, 1)), (112, (.getfield 101, 3)), (115, (.iload_n 3, 1)), (116, (.iaload, 1)), (117, (.iaload, 1)), (118, (.invokevirtual 380, 3)), (121, (.invokevirtual 383, 3)), (124, (.iinc 3 1, 3)), (127, (.goto (-120), 3)), (130, (.return_, 1))]
theorem dm_X12_spreads : ∀ q ∈ tb_X12_spreads, decode zX12_spreads.2.1 q.1 = .ok q.2 := by decide +kernel
def f_X12_spreads_86 (n : Nat) (K7 : Int32 → Int32 → Int32 → qM → qR) (a1 a2 a3 a4 a5 s1 s3 s4 s5 s6 : Int32) (M : qM) : qR :=
  qc (f_X12_wayWith n s3 s4 (s5 + s6) M) (fun r1 m2 => qc (f_X12_marks n s1 r1 m2) (fun _ m3 => (if a1 ≤ a2 then ql (a3 + (1 : Int32)) (fun x4 => K7 a1 a2 x4 m3) else qg a3 4 (qg (m3 108 a3.toNatClampNeg) 20 (qc (f_X12_wayWith n a4 (a5 + (1 : Int32)) (m3 104 (m3 108 a3.toNatClampNeg).toNatClampNeg) m3) (fun r5 m6 => qc (f_X12_marks n a3 r5 m6) (fun _ m7 => ql (a3 + (1 : Int32)) (fun x8 => K7 a1 a2 x8 m7))))))))
set_option maxRecDepth 4000 in
theorem w_X12_spreads_86 {g : qG} {k : qK} (n : Nat) (j r : Nat) (hj : q_isLaw j) (hr : q_isLaw r) (o : qOk g 4 zX12_spreads k) (K7 : Int32 → Int32 → Int32 → qM → qR) (hK7 : ∀ (a1 a2 a3 : Int32) (M : qM), qAE g k zX12_spreads (qL j r) 7 [some (.inr (some 77)), some (.inl a1), some (.inl a2), some (.inl a3), none, none] [] (qL j r, M) (K7 a1 a2 a3 M)) (a1 a2 a3 a4 a5 s1 s3 s4 s5 s6 : Int32) (M : qM) : qAE g k zX12_spreads (qL j r) 86 [some (.inr (some 77)), some (.inl a1), some (.inl a2), some (.inl a3), some (.inl a4), some (.inl a5)] [.inl s6, .inl s5, .inl s4, .inl s3, .inr (some 77), .inl s1, .inr (some 77)] (qL j r, M) (f_X12_spreads_86 n K7 a1 a2 a3 a4 a5 s1 s3 s4 s5 s6 M) := by
  unfold f_X12_spreads_86
  refine qr_iadd o (q_dm dm_X12_spreads 52 rfl) ?_
  refine qr_callv_i (As := [.inl s3, .inl s4, .inl (s5 + s6)]) (S := [.inl s1, .inr (some 77)]) o (a_X12_wayWith g k.2.1 n j r hj hr s3 s4 (s5 + s6) M) (Nat.le_of_ble_eq_true rfl) zv_X12_wayWith rfl cf_X12 (sh77 j r) ml_X12_380 (Nat.le_of_ble_eq_true rfl) (q_dm dm_X12_spreads 53 rfl) (fun r1 m2 => ?_)
  refine qr_callv_v (As := [.inl s1, .inl r1]) (S := []) o (a_X12_marks g k.2.1 n j r hj hr s1 r1 m2) (Nat.le_of_ble_eq_true rfl) zv_X12_marks rfl cf_X12 (sh77 j r) ml_X12_383 (Nat.le_of_ble_eq_true rfl) (q_dm dm_X12_spreads 54 rfl) (fun _ m3 => ?_)
  refine qr_iload_n o (q_dm dm_X12_spreads 55 rfl) rfl ?_
  refine qr_iload_n o (q_dm dm_X12_spreads 56 rfl) rfl ?_
  refine qr_icmp_ge (tgt := 124) o (q_dm dm_X12_spreads 57 rfl) (by decide) ?_ ?_
  · refine qs_iincl2 (L' := fun x4 => [some (.inr (some 77)), some (.inl a1), some (.inl a2), some (.inl x4), some (.inl a4), some (.inl a5)]) o (q_dm dm_X12_spreads 74 rfl) rfl ic_1 (Nat.le_of_ble_eq_true rfl) (fun _ => rfl) (fun x4 => ?_)
    refine qr_goto (tgt := 7) o (q_dm dm_X12_spreads 75 rfl) (by decide) ?_
    exact qr_loc (q_leS (q_leS (q_leS (q_leS (q_leN (q_leN q_le0)))))) (hK7 a1 a2 x4 m3)
  · refine qr_aload_n o (q_dm dm_X12_spreads 58 rfl) rfl ?_
    refine qr_iload_n o (q_dm dm_X12_spreads 59 rfl) rfl ?_
    refine qr_aload_n o (q_dm dm_X12_spreads 60 rfl) rfl ?_
    refine qr_iload o (q_dm dm_X12_spreads 61 rfl) rfl ?_
    refine qr_iload o (q_dm dm_X12_spreads 62 rfl) rfl ?_
    refine qr_iconst o (q_dm dm_X12_spreads 63 rfl) ic_1 ?_
    refine qr_iadd o (q_dm dm_X12_spreads 64 rfl) ?_
    refine qr_aload_n o (q_dm dm_X12_spreads 65 rfl) rfl ?_
    refine qr_getr (kf := 47) o cf_X12 (sh77 j r) rfl (Nat.le_of_ble_eq_true rfl) fl_X12_89 (q_dm dm_X12_spreads 66 rfl) ?_
    refine qr_aload_n o (q_dm dm_X12_spreads 67 rfl) rfl ?_
    refine qr_getr (kf := 51) o cf_X12 (sh77 j r) rfl (Nat.le_of_ble_eq_true rfl) fl_X12_101 (q_dm dm_X12_spreads 68 rfl) ?_
    refine qr_iload_n o (q_dm dm_X12_spreads 69 rfl) rfl ?_
    refine qr_iald o (sh108 j r) (q_dm dm_X12_spreads 70 rfl) ?_
    refine qr_iald o (sh104 j r) (q_dm dm_X12_spreads 71 rfl) ?_
    refine qr_callv_i (As := [.inl a4, .inl (a5 + (1 : Int32)), .inl (m3 104 (m3 108 a3.toNatClampNeg).toNatClampNeg)]) (S := [.inl a3, .inr (some 77)]) o (a_X12_wayWith g k.2.1 n j r hj hr a4 (a5 + (1 : Int32)) (m3 104 (m3 108 a3.toNatClampNeg).toNatClampNeg) m3) (Nat.le_of_ble_eq_true rfl) zv_X12_wayWith rfl cf_X12 (sh77 j r) ml_X12_380 (Nat.le_of_ble_eq_true rfl) (q_dm dm_X12_spreads 72 rfl) (fun r5 m6 => ?_)
    refine qr_callv_v (As := [.inl a3, .inl r5]) (S := []) o (a_X12_marks g k.2.1 n j r hj hr a3 r5 m6) (Nat.le_of_ble_eq_true rfl) zv_X12_marks rfl cf_X12 (sh77 j r) ml_X12_383 (Nat.le_of_ble_eq_true rfl) (q_dm dm_X12_spreads 73 rfl) (fun _ m7 => ?_)
    refine qs_iincl2 (L' := fun x8 => [some (.inr (some 77)), some (.inl a1), some (.inl a2), some (.inl x8), some (.inl a4), some (.inl a5)]) o (q_dm dm_X12_spreads 74 rfl) rfl ic_1 (Nat.le_of_ble_eq_true rfl) (fun _ => rfl) (fun x8 => ?_)
    refine qr_goto (tgt := 7) o (q_dm dm_X12_spreads 75 rfl) (by decide) ?_
    exact qr_loc (q_leS (q_leS (q_leS (q_leS (q_leN (q_leN q_le0)))))) (hK7 a1 a2 x8 m7)

def b_X12_spreads_7 (n : Nat) (K7 : Int32 → Int32 → Int32 → qM → qR) (a1 a2 a3 : Int32) (M : qM) : qR :=
  (if (M 77 43) ≤ a3 then some (0, M) else qg a3 4 (qg (M 108 a3.toNatClampNeg) 20 (ql (M 102 (M 108 a3.toNatClampNeg).toNatClampNeg) (fun x1 => qg a3 4 (qg (M 108 a3.toNatClampNeg) 20 (ql (M 103 (M 108 a3.toNatClampNeg).toNatClampNeg) (fun x2 => (if (x1 + x2) = (3 : Int32) then ql (a3 + (1 : Int32)) (fun x5 => K7 a1 a2 x5 M) else qg a3 4 (qg (M 108 a3.toNatClampNeg) 20 (qc (f_X12_wouldCount n a3 M) (fun r3 m4 => (if r3 = (0 : Int32) then f_X12_spreads_86 n K7 a1 a2 a3 x1 x2 a3 (x1 + (1 : Int32)) x2 (M 104 (M 108 a3.toNatClampNeg).toNatClampNeg) (0 : Int32) m4 else f_X12_spreads_86 n K7 a1 a2 a3 x1 x2 a3 (x1 + (1 : Int32)) x2 (M 104 (M 108 a3.toNatClampNeg).toNatClampNeg) (1 : Int32) m4))))))))))))
set_option maxRecDepth 4000 in
theorem wb_X12_spreads_7 {g : qG} {k : qK} (n : Nat) (j r : Nat) (hj : q_isLaw j) (hr : q_isLaw r) (o : qOk g 4 zX12_spreads k) (K7 : Int32 → Int32 → Int32 → qM → qR) (hK7 : ∀ (a1 a2 a3 : Int32) (M : qM), qAE g k zX12_spreads (qL j r) 7 [some (.inr (some 77)), some (.inl a1), some (.inl a2), some (.inl a3), none, none] [] (qL j r, M) (K7 a1 a2 a3 M)) (a1 a2 a3 : Int32) (M : qM) : qAE g k zX12_spreads (qL j r) 7 [some (.inr (some 77)), some (.inl a1), some (.inl a2), some (.inl a3), none, none] [] (qL j r, M) (b_X12_spreads_7 n K7 a1 a2 a3 M) := by
  unfold b_X12_spreads_7
  refine qr_iload_n o (q_dm dm_X12_spreads 5 rfl) rfl ?_
  refine qr_aload_n o (q_dm dm_X12_spreads 6 rfl) rfl ?_
  refine qr_getf (kf := 43) o cf_X12 (sh77 j r) rfl (Nat.le_of_ble_eq_true rfl) fl_X12_365 (q_dm dm_X12_spreads 7 rfl) ?_
  refine qr_icmp_ge (tgt := 130) o (q_dm dm_X12_spreads 8 rfl) (by decide) ?_ ?_
  · exact qr_vret o rfl (q_dm dm_X12_spreads 76 rfl)
  · refine qr_aload_n o (q_dm dm_X12_spreads 9 rfl) rfl ?_
    refine qr_getr (kf := 45) o cf_X12 (sh77 j r) rfl (Nat.le_of_ble_eq_true rfl) fl_X12_83 (q_dm dm_X12_spreads 10 rfl) ?_
    refine qr_aload_n o (q_dm dm_X12_spreads 11 rfl) rfl ?_
    refine qr_getr (kf := 51) o cf_X12 (sh77 j r) rfl (Nat.le_of_ble_eq_true rfl) fl_X12_101 (q_dm dm_X12_spreads 12 rfl) ?_
    refine qr_iload_n o (q_dm dm_X12_spreads 13 rfl) rfl ?_
    refine qr_iald o (sh108 j r) (q_dm dm_X12_spreads 14 rfl) ?_
    refine qr_iald o (sh102 j r) (q_dm dm_X12_spreads 15 rfl) ?_
    refine qr_lt (fun x1 => ?_)
    refine qs_istore (L' := [some (.inr (some 77)), some (.inl a1), some (.inl a2), some (.inl a3), some (.inl x1), none]) o (q_dm dm_X12_spreads 16 rfl) (Nat.le_of_ble_eq_true rfl) rfl ?_
    refine qr_aload_n o (q_dm dm_X12_spreads 17 rfl) rfl ?_
    refine qr_getr (kf := 46) o cf_X12 (sh77 j r) rfl (Nat.le_of_ble_eq_true rfl) fl_X12_86 (q_dm dm_X12_spreads 18 rfl) ?_
    refine qr_aload_n o (q_dm dm_X12_spreads 19 rfl) rfl ?_
    refine qr_getr (kf := 51) o cf_X12 (sh77 j r) rfl (Nat.le_of_ble_eq_true rfl) fl_X12_101 (q_dm dm_X12_spreads 20 rfl) ?_
    refine qr_iload_n o (q_dm dm_X12_spreads 21 rfl) rfl ?_
    refine qr_iald o (sh108 j r) (q_dm dm_X12_spreads 22 rfl) ?_
    refine qr_iald o (sh103 j r) (q_dm dm_X12_spreads 23 rfl) ?_
    refine qr_lt (fun x2 => ?_)
    refine qs_istore (L' := [some (.inr (some 77)), some (.inl a1), some (.inl a2), some (.inl a3), some (.inl x1), some (.inl x2)]) o (q_dm dm_X12_spreads 24 rfl) (Nat.le_of_ble_eq_true rfl) rfl ?_
    refine qr_iload o (q_dm dm_X12_spreads 25 rfl) rfl ?_
    refine qr_iload o (q_dm dm_X12_spreads 26 rfl) rfl ?_
    refine qr_iadd o (q_dm dm_X12_spreads 27 rfl) ?_
    refine qr_iconst o (q_dm dm_X12_spreads 28 rfl) ic_3 ?_
    refine qr_icmp_ne (tgt := 53) o (q_dm dm_X12_spreads 29 rfl) (by decide) ?_ ?_
    · refine qr_aload_n o (q_dm dm_X12_spreads 31 rfl) rfl ?_
      refine qr_iload_n o (q_dm dm_X12_spreads 32 rfl) rfl ?_
      refine qr_aload_n o (q_dm dm_X12_spreads 33 rfl) rfl ?_
      refine qr_iload o (q_dm dm_X12_spreads 34 rfl) rfl ?_
      refine qr_iconst o (q_dm dm_X12_spreads 35 rfl) ic_1 ?_
      refine qr_iadd o (q_dm dm_X12_spreads 36 rfl) ?_
      refine qr_iload o (q_dm dm_X12_spreads 37 rfl) rfl ?_
      refine qr_aload_n o (q_dm dm_X12_spreads 38 rfl) rfl ?_
      refine qr_getr (kf := 47) o cf_X12 (sh77 j r) rfl (Nat.le_of_ble_eq_true rfl) fl_X12_89 (q_dm dm_X12_spreads 39 rfl) ?_
      refine qr_aload_n o (q_dm dm_X12_spreads 40 rfl) rfl ?_
      refine qr_getr (kf := 51) o cf_X12 (sh77 j r) rfl (Nat.le_of_ble_eq_true rfl) fl_X12_101 (q_dm dm_X12_spreads 41 rfl) ?_
      refine qr_iload_n o (q_dm dm_X12_spreads 42 rfl) rfl ?_
      refine qr_iald o (sh108 j r) (q_dm dm_X12_spreads 43 rfl) ?_
      refine qr_iald o (sh104 j r) (q_dm dm_X12_spreads 44 rfl) ?_
      refine qr_aload_n o (q_dm dm_X12_spreads 45 rfl) rfl ?_
      refine qr_iload_n o (q_dm dm_X12_spreads 46 rfl) rfl ?_
      refine qr_callv_i (As := [.inl a3]) (S := [.inl (M 104 (M 108 a3.toNatClampNeg).toNatClampNeg), .inl x2, .inl (x1 + (1 : Int32)), .inr (some 77), .inl a3, .inr (some 77)]) o (a_X12_wouldCount g k.2.1 n j r hj hr a3 M) (Nat.le_of_ble_eq_true rfl) zv_X12_wouldCount rfl cf_X12 (sh77 j r) ml_X12_377 (Nat.le_of_ble_eq_true rfl) (q_dm dm_X12_spreads 47 rfl) (fun r3 m4 => ?_)
      refine qr_if_eq (tgt := 85) o (q_dm dm_X12_spreads 48 rfl) (by decide) ?_ ?_
      · refine qr_iconst o (q_dm dm_X12_spreads 51 rfl) ic_0 ?_
        exact qr_loc (q_leS (q_leS (q_leS (q_leS (q_leS (q_leS q_le0)))))) (w_X12_spreads_86 n j r hj hr o K7 hK7 a1 a2 a3 x1 x2 a3 (x1 + (1 : Int32)) x2 (M 104 (M 108 a3.toNatClampNeg).toNatClampNeg) (0 : Int32) m4)
      · refine qr_iconst o (q_dm dm_X12_spreads 49 rfl) ic_1 ?_
        refine qr_goto (tgt := 86) o (q_dm dm_X12_spreads 50 rfl) (by decide) ?_
        exact qr_loc (q_leS (q_leS (q_leS (q_leS (q_leS (q_leS q_le0)))))) (w_X12_spreads_86 n j r hj hr o K7 hK7 a1 a2 a3 x1 x2 a3 (x1 + (1 : Int32)) x2 (M 104 (M 108 a3.toNatClampNeg).toNatClampNeg) (1 : Int32) m4)
    · refine qr_goto (tgt := 124) o (q_dm dm_X12_spreads 30 rfl) (by decide) ?_
      refine qs_iincl2 (L' := fun x5 => [some (.inr (some 77)), some (.inl a1), some (.inl a2), some (.inl x5), some (.inl x1), some (.inl x2)]) o (q_dm dm_X12_spreads 74 rfl) rfl ic_1 (Nat.le_of_ble_eq_true rfl) (fun _ => rfl) (fun x5 => ?_)
      refine qr_goto (tgt := 7) o (q_dm dm_X12_spreads 75 rfl) (by decide) ?_
      exact qr_loc (q_leS (q_leS (q_leS (q_leS (q_leN (q_leN q_le0)))))) (hK7 a1 a2 x5 M)

def f_X12_spreads_7 (n : Nat) : Nat → Int32 → Int32 → Int32 → qM → qR
  | 0, _, _, _, _ => none
  | m + 1, a1, a2, a3, M => b_X12_spreads_7 n (f_X12_spreads_7 n m) a1 a2 a3 M
theorem w_X12_spreads_7 {g : qG} {k : qK} (n : Nat) (j r : Nat) (hj : q_isLaw j) (hr : q_isLaw r) (o : qOk g 4 zX12_spreads k) : ∀ (m : Nat) (a1 a2 a3 : Int32) (M : qM), qAE g k zX12_spreads (qL j r) 7 [some (.inr (some 77)), some (.inl a1), some (.inl a2), some (.inl a3), none, none] [] (qL j r, M) (f_X12_spreads_7 n m a1 a2 a3 M) := by
  intro m
  induction m with
  | zero =>
    intro a1 a2 a3 M
    exact qr_none
  | succ m ih =>
    intro a1 a2 a3 M
    exact wb_X12_spreads_7 n j r hj hr o (f_X12_spreads_7 n m) ih a1 a2 a3 M
def f_X12_spreads (n : Nat) (a1 : Int32) (M : qM) : qR :=
  qc (f_X12_goesNow n  M) (fun r1 m2 => f_X12_spreads_7 n n a1 r1 (0 : Int32) m2)
set_option maxRecDepth 4000 in
theorem w_X12_spreads {g : qG} {k : qK} (n : Nat) (j r : Nat) (hj : q_isLaw j) (hr : q_isLaw r) (o : qOk g 4 zX12_spreads k) (a1 : Int32) (M : qM) : qAE g k zX12_spreads (qL j r) 0 [some (.inr (some 77)), some (.inl a1), none, none, none, none] [] (qL j r, M) (f_X12_spreads n a1 M) := by
  unfold f_X12_spreads
  refine qr_aload_n o (q_dm dm_X12_spreads 0 rfl) rfl ?_
  refine qr_callv_i (As := []) (S := []) o (a_X12_goesNow g k.2.1 n j r hj hr  M) (Nat.le_of_ble_eq_true rfl) zv_X12_goesNow rfl cf_X12 (sh77 j r) ml_X12_374 (Nat.le_of_ble_eq_true rfl) (q_dm dm_X12_spreads 1 rfl) (fun r1 m2 => ?_)
  refine qs_istore_n (L' := [some (.inr (some 77)), some (.inl a1), some (.inl r1), none, none, none]) o (q_dm dm_X12_spreads 2 rfl) (Nat.le_of_ble_eq_true rfl) rfl ?_
  refine qr_iconst o (q_dm dm_X12_spreads 3 rfl) ic_0 ?_
  refine qs_istore_n (L' := [some (.inr (some 77)), some (.inl a1), some (.inl r1), some (.inl (0 : Int32)), none, none]) o (q_dm dm_X12_spreads 4 rfl) (Nat.le_of_ble_eq_true rfl) rfl ?_
  exact qr_loc (q_leS (q_leS (q_leS (q_leS (q_leN (q_leN q_le0)))))) (w_X12_spreads_7 n j r hj hr o n a1 r1 (0 : Int32) m2)

theorem a_X12_spreads (g : qG) (l : Launch) (n : Nat) (j r : Nat) (hj : q_isLaw j) (hr : q_isLaw r) (a1 : Int32) (M : qM) : qAM g l 4 zX12_spreads (qL j r) [.inr (some 77), .inl a1] (qL j r, M) (f_X12_spreads n a1 M) :=
  qAM.of zv_X12_spreads.1 (by show 2 ≤ 6; decide) (fun k hk o => w_X12_spreads n j r hj hr o a1 M)
def tb_X12_statesAll : List (Nat × Instr × Nat) := [(0, (.iconst 1, 1)), (1, (.istore_n 1, 1)), (2, (.iconst 0, 1)), (3, (.istore_n 2, 1)), (4, (.iload_n 2, 1)), (5, (.aload_n 0, 1)), (6, (.getfield 365, 3)), (9, (.if_icmp .ge 14, 3)), (12, (.iload_n 1, 1)), (13, (.bipush 20, 2)), (15, (.imul, 1)), (16, (.istore_n 1, 1)), (17, (.iinc 2 1, 3)), (20, (.goto (-16), 3)), (23, (.iload_n 1, 1)), (24, (.ireturn, 1))]
theorem dm_X12_statesAll : ∀ q ∈ tb_X12_statesAll, decode zX12_statesAll.2.1 q.1 = .ok q.2 := by decide +kernel
def b_X12_statesAll_4 (n : Nat) (K4 : Int32 → Int32 → qM → qR) (a1 a2 : Int32) (M : qM) : qR :=
  (if (M 77 43) ≤ a2 then some (a1, M) else ql (a1 * (20 : Int32)) (fun x1 => ql (a2 + (1 : Int32)) (fun x2 => K4 x1 x2 M)))
set_option maxRecDepth 4000 in
theorem wb_X12_statesAll_4 {g : qG} {k : qK} (n : Nat) (j r : Nat) (hj : q_isLaw j) (hr : q_isLaw r) (o : qOk g 0 zX12_statesAll k) (K4 : Int32 → Int32 → qM → qR) (hK4 : ∀ (a1 a2 : Int32) (M : qM), qAE g k zX12_statesAll (qL j r) 4 [some (.inr (some 77)), some (.inl a1), some (.inl a2)] [] (qL j r, M) (K4 a1 a2 M)) (a1 a2 : Int32) (M : qM) : qAE g k zX12_statesAll (qL j r) 4 [some (.inr (some 77)), some (.inl a1), some (.inl a2)] [] (qL j r, M) (b_X12_statesAll_4 n K4 a1 a2 M) := by
  unfold b_X12_statesAll_4
  refine qr_iload_n o (q_dm dm_X12_statesAll 4 rfl) rfl ?_
  refine qr_aload_n o (q_dm dm_X12_statesAll 5 rfl) rfl ?_
  refine qr_getf (kf := 43) o cf_X12 (sh77 j r) rfl (Nat.le_of_ble_eq_true rfl) fl_X12_365 (q_dm dm_X12_statesAll 6 rfl) ?_
  refine qr_icmp_ge (tgt := 23) o (q_dm dm_X12_statesAll 7 rfl) (by decide) ?_ ?_
  · refine qr_iload_n o (q_dm dm_X12_statesAll 14 rfl) rfl ?_
    exact qr_iret o rfl rfl (q_dm dm_X12_statesAll 15 rfl)
  · refine qr_iload_n o (q_dm dm_X12_statesAll 8 rfl) rfl ?_
    refine qr_bipush o (q_dm dm_X12_statesAll 9 rfl) bi_20 ?_
    refine qr_imul o (q_dm dm_X12_statesAll 10 rfl) ?_
    refine qr_lt (fun x1 => ?_)
    refine qs_istore_n (L' := [some (.inr (some 77)), some (.inl x1), some (.inl a2)]) o (q_dm dm_X12_statesAll 11 rfl) (Nat.le_of_ble_eq_true rfl) rfl ?_
    refine qs_iincl2 (L' := fun x2 => [some (.inr (some 77)), some (.inl x1), some (.inl x2)]) o (q_dm dm_X12_statesAll 12 rfl) rfl ic_1 (Nat.le_of_ble_eq_true rfl) (fun _ => rfl) (fun x2 => ?_)
    refine qr_goto (tgt := 4) o (q_dm dm_X12_statesAll 13 rfl) (by decide) ?_
    exact qr_loc (q_leS (q_leS (q_leS q_le0))) (hK4 x1 x2 M)

def f_X12_statesAll_4 (n : Nat) : Nat → Int32 → Int32 → qM → qR
  | 0, _, _, _ => none
  | m + 1, a1, a2, M => b_X12_statesAll_4 n (f_X12_statesAll_4 n m) a1 a2 M
theorem w_X12_statesAll_4 {g : qG} {k : qK} (n : Nat) (j r : Nat) (hj : q_isLaw j) (hr : q_isLaw r) (o : qOk g 0 zX12_statesAll k) : ∀ (m : Nat) (a1 a2 : Int32) (M : qM), qAE g k zX12_statesAll (qL j r) 4 [some (.inr (some 77)), some (.inl a1), some (.inl a2)] [] (qL j r, M) (f_X12_statesAll_4 n m a1 a2 M) := by
  intro m
  induction m with
  | zero =>
    intro a1 a2 M
    exact qr_none
  | succ m ih =>
    intro a1 a2 M
    exact wb_X12_statesAll_4 n j r hj hr o (f_X12_statesAll_4 n m) ih a1 a2 M
def f_X12_statesAll (n : Nat) (M : qM) : qR :=
  f_X12_statesAll_4 n n (1 : Int32) (0 : Int32) M
set_option maxRecDepth 4000 in
theorem w_X12_statesAll {g : qG} {k : qK} (n : Nat) (j r : Nat) (hj : q_isLaw j) (hr : q_isLaw r) (o : qOk g 0 zX12_statesAll k) (M : qM) : qAE g k zX12_statesAll (qL j r) 0 [some (.inr (some 77)), none, none] [] (qL j r, M) (f_X12_statesAll n  M) := by
  unfold f_X12_statesAll
  refine qr_iconst o (q_dm dm_X12_statesAll 0 rfl) ic_1 ?_
  refine qs_istore_n (L' := [some (.inr (some 77)), some (.inl (1 : Int32)), none]) o (q_dm dm_X12_statesAll 1 rfl) (Nat.le_of_ble_eq_true rfl) rfl ?_
  refine qr_iconst o (q_dm dm_X12_statesAll 2 rfl) ic_0 ?_
  refine qs_istore_n (L' := [some (.inr (some 77)), some (.inl (1 : Int32)), some (.inl (0 : Int32))]) o (q_dm dm_X12_statesAll 3 rfl) (Nat.le_of_ble_eq_true rfl) rfl ?_
  exact qr_loc (q_leS (q_leS (q_leS q_le0))) (w_X12_statesAll_4 n j r hj hr o n (1 : Int32) (0 : Int32) M)

theorem a_X12_statesAll (g : qG) (l : Launch) (n : Nat) (j r : Nat) (hj : q_isLaw j) (hr : q_isLaw r) (M : qM) : qAM g l 0 zX12_statesAll (qL j r) [.inr (some 77)] (qL j r, M) (f_X12_statesAll n  M) :=
  qAM.of zv_X12_statesAll.1 (by show 1 ≤ 3; decide) (fun k hk o => w_X12_statesAll n j r hj hr o  M)
