def tb_X12_begins : List (Nat × Instr × Nat) := [(0, (.iload_n 1, 1)), (1, (.istore_n 2, 1)), (2, (.aload_n 0, 1)), (3, (.getfield 454, 3)), (6, (.iconst 1, 1)), (7, (.isub, 1)), (8, (.istore_n 3, 1)), (9, (.iload_n 3, 1)), (10, (.ifCond .lt 22, 3)), (13, (.aload_n 0, 1)), (14, (.getfield 133, 3)), (17, (.iload_n 3, 1)), (18, (.iload_n 2, 1)), (19, (.iconst 4, 1)), (20, (.irem, 1)), (21, (.iastore, 1)), (22, (.iload_n 2, 1)), (23, (.iconst 4, 1)), (24, (.idiv, 1)), (25, (.istore_n 2, 1)), (26, (.iinc 3 (-1), 3)), (29, (.goto (-20), 3)), (32, (.return_, 1))]
theorem dm_X12_begins : ∀ q ∈ tb_X12_begins, decode zX12_begins.2.1 q.1 = .ok q.2 := by decide +kernel
def b_X12_begins_9 (n : Nat) (K9 : Int32 → Int32 → qM → qR) (a2 a3 : Int32) (M : qM) : qR :=
  (if a3 < (0 : Int32) then some (0, M) else qg a3 4 (qlm (mu M 118 a3.toNatClampNeg (a2 - a2 / (4 : Int32) * (4 : Int32))) (fun m1 => ql (a2 / (4 : Int32)) (fun x2 => ql (a3 + (-1 : Int32)) (fun x3 => K9 x2 x3 m1)))))
set_option maxRecDepth 4000 in
theorem wb_X12_begins_9 {g : qG} {k : qK} (n : Nat) (j r : Nat) (hj : q_isLaw j) (hr : q_isLaw r) (o : qOk g 0 zX12_begins k) (K9 : Int32 → Int32 → qM → qR) (hK9 : ∀ (a2 a3 : Int32) (M : qM), qAE g k zX12_begins (qL j r) 9 [some (.inr (some 77)), none, some (.inl a2), some (.inl a3)] [] (qL j r, M) (K9 a2 a3 M)) (a2 a3 : Int32) (M : qM) : qAE g k zX12_begins (qL j r) 9 [some (.inr (some 77)), none, some (.inl a2), some (.inl a3)] [] (qL j r, M) (b_X12_begins_9 n K9 a2 a3 M) := by
  unfold b_X12_begins_9
  refine qr_iload_n o (q_dm dm_X12_begins 7 rfl) rfl ?_
  refine qr_if_lt (tgt := 32) o (q_dm dm_X12_begins 8 rfl) (by decide) ?_ ?_
  · exact qr_vret o rfl (q_dm dm_X12_begins 22 rfl)
  · refine qr_aload_n o (q_dm dm_X12_begins 9 rfl) rfl ?_
    refine qr_getr (kf := 64) o cf_X12 (sh77 j r) rfl (Nat.le_of_ble_eq_true rfl) fl_X12_133 (q_dm dm_X12_begins 10 rfl) ?_
    refine qr_iload_n o (q_dm dm_X12_begins 11 rfl) rfl ?_
    refine qr_iload_n o (q_dm dm_X12_begins 12 rfl) rfl ?_
    refine qr_iconst o (q_dm dm_X12_begins 13 rfl) ic_4 ?_
    refine qr_iremc o (q_dm dm_X12_begins 14 rfl) (by decide) ?_
    refine qr_iast o (sh118 j r) (q_dm dm_X12_begins 15 rfl) ?_
    refine qr_letm (fun m1 => ?_)
    refine qr_iload_n o (q_dm dm_X12_begins 16 rfl) rfl ?_
    refine qr_iconst o (q_dm dm_X12_begins 17 rfl) ic_4 ?_
    refine qr_idivc o (q_dm dm_X12_begins 18 rfl) (by decide) ?_
    refine qr_lt (fun x2 => ?_)
    refine qs_istore_n (L' := [some (.inr (some 77)), none, some (.inl x2), some (.inl a3)]) o (q_dm dm_X12_begins 19 rfl) (Nat.le_of_ble_eq_true rfl) rfl ?_
    refine qs_iincl2 (L' := fun x3 => [some (.inr (some 77)), none, some (.inl x2), some (.inl x3)]) o (q_dm dm_X12_begins 20 rfl) rfl ic_m1 (Nat.le_of_ble_eq_true rfl) (fun _ => rfl) (fun x3 => ?_)
    refine qr_goto (tgt := 9) o (q_dm dm_X12_begins 21 rfl) (by decide) ?_
    exact qr_loc (q_leS (q_leN (q_leS (q_leS q_le0)))) (hK9 x2 x3 m1)

def f_X12_begins_9 (n : Nat) : Nat → Int32 → Int32 → qM → qR
  | 0, _, _, _ => none
  | m + 1, a2, a3, M => b_X12_begins_9 n (f_X12_begins_9 n m) a2 a3 M
theorem w_X12_begins_9 {g : qG} {k : qK} (n : Nat) (j r : Nat) (hj : q_isLaw j) (hr : q_isLaw r) (o : qOk g 0 zX12_begins k) : ∀ (m : Nat) (a2 a3 : Int32) (M : qM), qAE g k zX12_begins (qL j r) 9 [some (.inr (some 77)), none, some (.inl a2), some (.inl a3)] [] (qL j r, M) (f_X12_begins_9 n m a2 a3 M) := by
  intro m
  induction m with
  | zero =>
    intro a2 a3 M
    exact qr_none
  | succ m ih =>
    intro a2 a3 M
    exact wb_X12_begins_9 n j r hj hr o (f_X12_begins_9 n m) ih a2 a3 M
def f_X12_begins (n : Nat) (a1 : Int32) (M : qM) : qR :=
  ql ((M 77 61) - (1 : Int32)) (fun x1 => f_X12_begins_9 n n a1 x1 M)
set_option maxRecDepth 4000 in
theorem w_X12_begins {g : qG} {k : qK} (n : Nat) (j r : Nat) (hj : q_isLaw j) (hr : q_isLaw r) (o : qOk g 0 zX12_begins k) (a1 : Int32) (M : qM) : qAE g k zX12_begins (qL j r) 0 [some (.inr (some 77)), some (.inl a1), none, none] [] (qL j r, M) (f_X12_begins n a1 M) := by
  unfold f_X12_begins
  refine qr_iload_n o (q_dm dm_X12_begins 0 rfl) rfl ?_
  refine qs_istore_n (L' := [some (.inr (some 77)), some (.inl a1), some (.inl a1), none]) o (q_dm dm_X12_begins 1 rfl) (Nat.le_of_ble_eq_true rfl) rfl ?_
  refine qr_aload_n o (q_dm dm_X12_begins 2 rfl) rfl ?_
  refine qr_getf (kf := 61) o cf_X12 (sh77 j r) rfl (Nat.le_of_ble_eq_true rfl) fl_X12_454 (q_dm dm_X12_begins 3 rfl) ?_
  refine qr_iconst o (q_dm dm_X12_begins 4 rfl) ic_1 ?_
  refine qr_isub o (q_dm dm_X12_begins 5 rfl) ?_
  refine qr_lt (fun x1 => ?_)
  refine qs_istore_n (L' := [some (.inr (some 77)), some (.inl a1), some (.inl a1), some (.inl x1)]) o (q_dm dm_X12_begins 6 rfl) (Nat.le_of_ble_eq_true rfl) rfl ?_
  exact qr_loc (q_leS (q_leN (q_leS (q_leS q_le0)))) (w_X12_begins_9 n j r hj hr o n a1 x1 M)

theorem a_X12_begins (g : qG) (l : Launch) (n : Nat) (j r : Nat) (hj : q_isLaw j) (hr : q_isLaw r) (a1 : Int32) (M : qM) : qAM g l 0 zX12_begins (qL j r) [.inr (some 77), .inl a1] (qL j r, M) (f_X12_begins n a1 M) :=
  qAM.of zv_X12_begins.1 (by show 2 ≤ 4; decide) (fun k hk o => w_X12_begins n j r hj hr o a1 M)
def tb_X12_byLaw : List (Nat × Instr × Nat) := [(0, (.iload_n 3, 1)), (1, (.istore 4, 2)), (3, (.iconst 0, 1)), (4, (.istore 5, 2)), (6, (.iload 5, 2)), (8, (.aload_n 0, 1)), (9, (.getfield 262, 3)), (12, (.if_icmp .ge 93, 3)), (15, (.aload_n 0, 1)), (16, (.getfield 53, 3)), (19, (.iload 5, 2)), (21, (.iaload, 1)), (22, (.iload_n 1, 1)), (23, (.if_icmp .eq 6, 3)), (26, (.goto 73, 3)), (29, (.iconst 0, 1)), (30, (.istore 4, 2)), (32, (.aload_n 0, 1)), (33, (.aload_n 0, 1)), (34, (.getfield 59, 3)), (37, (.iload 5, 2)), (39, (.iaload, 1)), (40, (.aload_n 0, 1)), (41, (.getfield 62, 3)), (44, (.iload 5, 2)), (46, (.iaload, 1)), (47, (.invokevirtual 269, 3)), (50, (.iconst 1, 1)), (51, (.if_icmp .eq 6, 3)), (54, (.goto 45, 3)), (57, (.aload_n 0, 1)), (58, (.aload_n 0, 1)), (59, (.getfield 56, 3)), (62, (.iload 5, 2)), (64, (.iaload, 1)), (65, (.aload_n 0, 1)), (66, (.getfield 59, 3)), (69, (.iload 5, 2)), (71, (.iaload, 1)), (72, (.invokevirtual 269, 3)), (75, (.istore 6, 2)), (77, (.iload 6, 2)), (79, (.ifCond .ge 7, 3)), (82, (.iconst 0, 1)), (83, (.goto 15, 3)), (86, (.iload 6, 2)), (88, (.iload_n 2, 1)), (89, (.if_icmp .le 7, 3)), (92, (.iload_n 2, 1)), (93, (.goto 5, 3)), (96, (.iload 6, 2)), (98, (.ireturn, 1)), (99, (.iinc 5 1, 3)), (102, (.goto (-96), 3)), (105, (.iload 4, 2)), (107, (.ireturn, 1))]
theorem dm_X12_byLaw : ∀ q ∈ tb_X12_byLaw, decode zX12_byLaw.2.1 q.1 = .ok q.2 := by decide +kernel
def b_X12_byLaw_6 (n : Nat) (K6 : Int32 → Int32 → Int32 → Int32 → qM → qR) (a1 a2 a4 a5 : Int32) (M : qM) : qR :=
  (if (M 77 17) ≤ a5 then some (a4, M) else qg a5 16 ((if (M 92 a5.toNatClampNeg) = a1 then qg a5 16 (qg a5 16 (qc (f_X12_comesTo n (M 94 a5.toNatClampNeg) (M 95 a5.toNatClampNeg) M) (fun r1 m2 => (if r1 = (1 : Int32) then qg a5 16 (qg a5 16 (qc (f_X12_comesTo n (m2 93 a5.toNatClampNeg) (m2 94 a5.toNatClampNeg) m2) (fun r3 m4 => (if (0 : Int32) ≤ r3 then (if r3 ≤ a2 then some (r3, m4) else some (a2, m4)) else some ((0 : Int32), m4))))) else ql (a5 + (1 : Int32)) (fun x5 => K6 a1 a2 (0 : Int32) x5 m2))))) else ql (a5 + (1 : Int32)) (fun x6 => K6 a1 a2 a4 x6 M))))
set_option maxRecDepth 4000 in
theorem wb_X12_byLaw_6 {g : qG} {k : qK} (n : Nat) (j r : Nat) (hj : q_isLaw j) (hr : q_isLaw r) (o : qOk g 2 zX12_byLaw k) (K6 : Int32 → Int32 → Int32 → Int32 → qM → qR) (hK6 : ∀ (a1 a2 a4 a5 : Int32) (M : qM), qAE g k zX12_byLaw (qL j r) 6 [some (.inr (some 77)), some (.inl a1), some (.inl a2), none, some (.inl a4), some (.inl a5), none] [] (qL j r, M) (K6 a1 a2 a4 a5 M)) (a1 a2 a4 a5 : Int32) (M : qM) : qAE g k zX12_byLaw (qL j r) 6 [some (.inr (some 77)), some (.inl a1), some (.inl a2), none, some (.inl a4), some (.inl a5), none] [] (qL j r, M) (b_X12_byLaw_6 n K6 a1 a2 a4 a5 M) := by
  unfold b_X12_byLaw_6
  refine qr_iload o (q_dm dm_X12_byLaw 4 rfl) rfl ?_
  refine qr_aload_n o (q_dm dm_X12_byLaw 5 rfl) rfl ?_
  refine qr_getf (kf := 17) o cf_X12 (sh77 j r) rfl (Nat.le_of_ble_eq_true rfl) fl_X12_262 (q_dm dm_X12_byLaw 6 rfl) ?_
  refine qr_icmp_ge (tgt := 105) o (q_dm dm_X12_byLaw 7 rfl) (by decide) ?_ ?_
  · refine qr_iload o (q_dm dm_X12_byLaw 54 rfl) rfl ?_
    exact qr_iret o rfl rfl (q_dm dm_X12_byLaw 55 rfl)
  · refine qr_aload_n o (q_dm dm_X12_byLaw 8 rfl) rfl ?_
    refine qr_getr (kf := 25) o cf_X12 (sh77 j r) rfl (Nat.le_of_ble_eq_true rfl) fl_X12_53 (q_dm dm_X12_byLaw 9 rfl) ?_
    refine qr_iload o (q_dm dm_X12_byLaw 10 rfl) rfl ?_
    refine qr_iald o (sh92 j r) (q_dm dm_X12_byLaw 11 rfl) ?_
    refine qr_iload_n o (q_dm dm_X12_byLaw 12 rfl) rfl ?_
    refine qr_icmp_eq (tgt := 29) o (q_dm dm_X12_byLaw 13 rfl) (by decide) ?_ ?_
    · refine qr_iconst o (q_dm dm_X12_byLaw 15 rfl) ic_0 ?_
      refine qs_istore (L' := [some (.inr (some 77)), some (.inl a1), some (.inl a2), none, some (.inl (0 : Int32)), some (.inl a5), none]) o (q_dm dm_X12_byLaw 16 rfl) (Nat.le_of_ble_eq_true rfl) rfl ?_
      refine qr_aload_n o (q_dm dm_X12_byLaw 17 rfl) rfl ?_
      refine qr_aload_n o (q_dm dm_X12_byLaw 18 rfl) rfl ?_
      refine qr_getr (kf := 27) o cf_X12 (sh77 j r) rfl (Nat.le_of_ble_eq_true rfl) fl_X12_59 (q_dm dm_X12_byLaw 19 rfl) ?_
      refine qr_iload o (q_dm dm_X12_byLaw 20 rfl) rfl ?_
      refine qr_iald o (sh94 j r) (q_dm dm_X12_byLaw 21 rfl) ?_
      refine qr_aload_n o (q_dm dm_X12_byLaw 22 rfl) rfl ?_
      refine qr_getr (kf := 28) o cf_X12 (sh77 j r) rfl (Nat.le_of_ble_eq_true rfl) fl_X12_62 (q_dm dm_X12_byLaw 23 rfl) ?_
      refine qr_iload o (q_dm dm_X12_byLaw 24 rfl) rfl ?_
      refine qr_iald o (sh95 j r) (q_dm dm_X12_byLaw 25 rfl) ?_
      refine qr_callv_i (As := [.inl (M 94 a5.toNatClampNeg), .inl (M 95 a5.toNatClampNeg)]) (S := []) o (a_X12_comesTo g k.2.1 n j r hj hr (M 94 a5.toNatClampNeg) (M 95 a5.toNatClampNeg) M) (Nat.le_of_ble_eq_true rfl) zv_X12_comesTo rfl cf_X12 (sh77 j r) ml_X12_269 (Nat.le_of_ble_eq_true rfl) (q_dm dm_X12_byLaw 26 rfl) (fun r1 m2 => ?_)
      refine qr_iconst o (q_dm dm_X12_byLaw 27 rfl) ic_1 ?_
      refine qr_icmp_eq (tgt := 57) o (q_dm dm_X12_byLaw 28 rfl) (by decide) ?_ ?_
      · refine qr_aload_n o (q_dm dm_X12_byLaw 30 rfl) rfl ?_
        refine qr_aload_n o (q_dm dm_X12_byLaw 31 rfl) rfl ?_
        refine qr_getr (kf := 26) o cf_X12 (sh77 j r) rfl (Nat.le_of_ble_eq_true rfl) fl_X12_56 (q_dm dm_X12_byLaw 32 rfl) ?_
        refine qr_iload o (q_dm dm_X12_byLaw 33 rfl) rfl ?_
        refine qr_iald o (sh93 j r) (q_dm dm_X12_byLaw 34 rfl) ?_
        refine qr_aload_n o (q_dm dm_X12_byLaw 35 rfl) rfl ?_
        refine qr_getr (kf := 27) o cf_X12 (sh77 j r) rfl (Nat.le_of_ble_eq_true rfl) fl_X12_59 (q_dm dm_X12_byLaw 36 rfl) ?_
        refine qr_iload o (q_dm dm_X12_byLaw 37 rfl) rfl ?_
        refine qr_iald o (sh94 j r) (q_dm dm_X12_byLaw 38 rfl) ?_
        refine qr_callv_i (As := [.inl (m2 93 a5.toNatClampNeg), .inl (m2 94 a5.toNatClampNeg)]) (S := []) o (a_X12_comesTo g k.2.1 n j r hj hr (m2 93 a5.toNatClampNeg) (m2 94 a5.toNatClampNeg) m2) (Nat.le_of_ble_eq_true rfl) zv_X12_comesTo rfl cf_X12 (sh77 j r) ml_X12_269 (Nat.le_of_ble_eq_true rfl) (q_dm dm_X12_byLaw 39 rfl) (fun r3 m4 => ?_)
        refine qs_istore (L' := [some (.inr (some 77)), some (.inl a1), some (.inl a2), none, some (.inl (0 : Int32)), some (.inl a5), some (.inl r3)]) o (q_dm dm_X12_byLaw 40 rfl) (Nat.le_of_ble_eq_true rfl) rfl ?_
        refine qr_iload o (q_dm dm_X12_byLaw 41 rfl) rfl ?_
        refine qr_if_ge (tgt := 86) o (q_dm dm_X12_byLaw 42 rfl) (by decide) ?_ ?_
        · refine qr_iload o (q_dm dm_X12_byLaw 45 rfl) rfl ?_
          refine qr_iload_n o (q_dm dm_X12_byLaw 46 rfl) rfl ?_
          refine qr_icmp_le (tgt := 96) o (q_dm dm_X12_byLaw 47 rfl) (by decide) ?_ ?_
          · refine qr_iload o (q_dm dm_X12_byLaw 50 rfl) rfl ?_
            exact qr_iret o rfl rfl (q_dm dm_X12_byLaw 51 rfl)
          · refine qr_iload_n o (q_dm dm_X12_byLaw 48 rfl) rfl ?_
            refine qr_goto (tgt := 98) o (q_dm dm_X12_byLaw 49 rfl) (by decide) ?_
            exact qr_iret o rfl rfl (q_dm dm_X12_byLaw 51 rfl)
        · refine qr_iconst o (q_dm dm_X12_byLaw 43 rfl) ic_0 ?_
          refine qr_goto (tgt := 98) o (q_dm dm_X12_byLaw 44 rfl) (by decide) ?_
          exact qr_iret o rfl rfl (q_dm dm_X12_byLaw 51 rfl)
      · refine qr_goto (tgt := 99) o (q_dm dm_X12_byLaw 29 rfl) (by decide) ?_
        refine qs_iincl2 (L' := fun x5 => [some (.inr (some 77)), some (.inl a1), some (.inl a2), none, some (.inl (0 : Int32)), some (.inl x5), none]) o (q_dm dm_X12_byLaw 52 rfl) rfl ic_1 (Nat.le_of_ble_eq_true rfl) (fun _ => rfl) (fun x5 => ?_)
        refine qr_goto (tgt := 6) o (q_dm dm_X12_byLaw 53 rfl) (by decide) ?_
        exact qr_loc (q_leS (q_leS (q_leS (q_leN (q_leS (q_leS (q_leN q_le0))))))) (hK6 a1 a2 (0 : Int32) x5 m2)
    · refine qr_goto (tgt := 99) o (q_dm dm_X12_byLaw 14 rfl) (by decide) ?_
      refine qs_iincl2 (L' := fun x6 => [some (.inr (some 77)), some (.inl a1), some (.inl a2), none, some (.inl a4), some (.inl x6), none]) o (q_dm dm_X12_byLaw 52 rfl) rfl ic_1 (Nat.le_of_ble_eq_true rfl) (fun _ => rfl) (fun x6 => ?_)
      refine qr_goto (tgt := 6) o (q_dm dm_X12_byLaw 53 rfl) (by decide) ?_
      exact qr_loc (q_leS (q_leS (q_leS (q_leN (q_leS (q_leS (q_leN q_le0))))))) (hK6 a1 a2 a4 x6 M)

def f_X12_byLaw_6 (n : Nat) : Nat → Int32 → Int32 → Int32 → Int32 → qM → qR
  | 0, _, _, _, _, _ => none
  | m + 1, a1, a2, a4, a5, M => b_X12_byLaw_6 n (f_X12_byLaw_6 n m) a1 a2 a4 a5 M
theorem w_X12_byLaw_6 {g : qG} {k : qK} (n : Nat) (j r : Nat) (hj : q_isLaw j) (hr : q_isLaw r) (o : qOk g 2 zX12_byLaw k) : ∀ (m : Nat) (a1 a2 a4 a5 : Int32) (M : qM), qAE g k zX12_byLaw (qL j r) 6 [some (.inr (some 77)), some (.inl a1), some (.inl a2), none, some (.inl a4), some (.inl a5), none] [] (qL j r, M) (f_X12_byLaw_6 n m a1 a2 a4 a5 M) := by
  intro m
  induction m with
  | zero =>
    intro a1 a2 a4 a5 M
    exact qr_none
  | succ m ih =>
    intro a1 a2 a4 a5 M
    exact wb_X12_byLaw_6 n j r hj hr o (f_X12_byLaw_6 n m) ih a1 a2 a4 a5 M
def f_X12_byLaw (n : Nat) (a1 a2 a3 : Int32) (M : qM) : qR :=
  f_X12_byLaw_6 n n a1 a2 a3 (0 : Int32) M
set_option maxRecDepth 4000 in
theorem w_X12_byLaw {g : qG} {k : qK} (n : Nat) (j r : Nat) (hj : q_isLaw j) (hr : q_isLaw r) (o : qOk g 2 zX12_byLaw k) (a1 a2 a3 : Int32) (M : qM) : qAE g k zX12_byLaw (qL j r) 0 [some (.inr (some 77)), some (.inl a1), some (.inl a2), some (.inl a3), none, none, none] [] (qL j r, M) (f_X12_byLaw n a1 a2 a3 M) := by
  unfold f_X12_byLaw
  refine qr_iload_n o (q_dm dm_X12_byLaw 0 rfl) rfl ?_
  refine qs_istore (L' := [some (.inr (some 77)), some (.inl a1), some (.inl a2), some (.inl a3), some (.inl a3), none, none]) o (q_dm dm_X12_byLaw 1 rfl) (Nat.le_of_ble_eq_true rfl) rfl ?_
  refine qr_iconst o (q_dm dm_X12_byLaw 2 rfl) ic_0 ?_
  refine qs_istore (L' := [some (.inr (some 77)), some (.inl a1), some (.inl a2), some (.inl a3), some (.inl a3), some (.inl (0 : Int32)), none]) o (q_dm dm_X12_byLaw 3 rfl) (Nat.le_of_ble_eq_true rfl) rfl ?_
  exact qr_loc (q_leS (q_leS (q_leS (q_leN (q_leS (q_leS (q_leN q_le0))))))) (w_X12_byLaw_6 n j r hj hr o n a1 a2 a3 (0 : Int32) M)

theorem a_X12_byLaw (g : qG) (l : Launch) (n : Nat) (j r : Nat) (hj : q_isLaw j) (hr : q_isLaw r) (a1 a2 a3 : Int32) (M : qM) : qAM g l 2 zX12_byLaw (qL j r) [.inr (some 77), .inl a1, .inl a2, .inl a3] (qL j r, M) (f_X12_byLaw n a1 a2 a3 M) :=
  qAM.of zv_X12_byLaw.1 (by show 4 ≤ 7; decide) (fun k hk o => w_X12_byLaw n j r hj hr o a1 a2 a3 M)
def tb_X12_feels : List (Nat × Instr × Nat) := [(0, (.aload_n 0, 1)), (1, (.iload_n 2, 1)), (2, (.invokevirtual 273, 3)), (5, (.aload_n 0, 1)), (6, (.getfield 68, 3)), (9, (.bipush 7, 2)), (11, (.iload_n 1, 1)), (12, (.iastore, 1)), (13, (.aload_n 0, 1)), (14, (.getfield 68, 3)), (17, (.bipush 8, 2)), (19, (.iload_n 3, 1)), (20, (.iastore, 1)), (21, (.aload_n 0, 1)), (22, (.getfield 68, 3)), (25, (.bipush 9, 2)), (27, (.aload_n 0, 1)), (28, (.getfield 7, 3)), (31, (.iconst 0, 1)), (32, (.iload_n 1, 1)), (33, (.iload_n 2, 1)), (34, (.invokestatic 282, 3)), (37, (.iadd, 1)), (38, (.iaload, 1)), (39, (.iastore, 1)), (40, (.aload_n 0, 1)), (41, (.getfield 68, 3)), (44, (.bipush 10, 2)), (46, (.aload_n 0, 1)), (47, (.iload_n 2, 1)), (48, (.invokevirtual 285, 3)), (51, (.iastore, 1)), (52, (.aload_n 0, 1)), (53, (.getfield 68, 3)), (56, (.bipush 11, 2)), (58, (.aload_n 0, 1)), (59, (.getfield 7, 3)), (62, (.sipush 192, 3)), (65, (.iload_n 1, 1)), (66, (.iload_n 2, 1)), (67, (.invokestatic 282, 3)), (70, (.iadd, 1)), (71, (.iaload, 1)), (72, (.iastore, 1)), (73, (.return_, 1))]
theorem dm_X12_feels : ∀ q ∈ tb_X12_feels, decode zX12_feels.2.1 q.1 = .ok q.2 := by decide +kernel
def f_X12_feels (n : Nat) (a1 a2 a3 : Int32) (M : qM) : qR :=
  qc (f_X12_feelsKind n a2 M) (fun _ m1 => qlm (mu m1 97 7 a1) (fun m2 => qlm (mu m2 97 8 a3) (fun m3 => qc (f_X12_at n a1 a2 m3) (fun r4 m5 => qg ((0 : Int32) + r4) 954 (qlm (mu m5 97 9 (m5 78 ((0 : Int32) + r4).toNatClampNeg)) (fun m6 => qc (f_X12_allTries n a2 m6) (fun r7 m8 => qlm (mu m8 97 10 r7) (fun m9 => qc (f_X12_at n a1 a2 m9) (fun r10 m11 => qg ((192 : Int32) + r10) 954 (qlm (mu m11 97 11 (m11 78 ((192 : Int32) + r10).toNatClampNeg)) (fun m12 => some (0, m12))))))))))))
set_option maxRecDepth 4000 in
theorem w_X12_feels {g : qG} {k : qK} (n : Nat) (j r : Nat) (hj : q_isLaw j) (hr : q_isLaw r) (o : qOk g 2 zX12_feels k) (a1 a2 a3 : Int32) (M : qM) : qAE g k zX12_feels (qL j r) 0 [some (.inr (some 77)), some (.inl a1), some (.inl a2), some (.inl a3)] [] (qL j r, M) (f_X12_feels n a1 a2 a3 M) := by
  unfold f_X12_feels
  refine qr_aload_n o (q_dm dm_X12_feels 0 rfl) rfl ?_
  refine qr_iload_n o (q_dm dm_X12_feels 1 rfl) rfl ?_
  refine qr_callv_v (As := [.inl a2]) (S := []) o (a_X12_feelsKind g k.2.1 n j r hj hr a2 M) (Nat.le_of_ble_eq_true rfl) zv_X12_feelsKind rfl cf_X12 (sh77 j r) ml_X12_273 (Nat.le_of_ble_eq_true rfl) (q_dm dm_X12_feels 2 rfl) (fun _ m1 => ?_)
  refine qr_aload_n o (q_dm dm_X12_feels 3 rfl) rfl ?_
  refine qr_getr (kf := 30) o cf_X12 (sh77 j r) rfl (Nat.le_of_ble_eq_true rfl) fl_X12_68 (q_dm dm_X12_feels 4 rfl) ?_
  refine qr_bipush o (q_dm dm_X12_feels 5 rfl) bi_7 ?_
  refine qr_iload_n o (q_dm dm_X12_feels 6 rfl) rfl ?_
  refine qr_iast0 (c := 7) o (sh97 j r) (by decide) (by decide) (q_dm dm_X12_feels 7 rfl) ?_
  refine qr_letm (fun m2 => ?_)
  refine qr_aload_n o (q_dm dm_X12_feels 8 rfl) rfl ?_
  refine qr_getr (kf := 30) o cf_X12 (sh77 j r) rfl (Nat.le_of_ble_eq_true rfl) fl_X12_68 (q_dm dm_X12_feels 9 rfl) ?_
  refine qr_bipush o (q_dm dm_X12_feels 10 rfl) bi_8 ?_
  refine qr_iload_n o (q_dm dm_X12_feels 11 rfl) rfl ?_
  refine qr_iast0 (c := 8) o (sh97 j r) (by decide) (by decide) (q_dm dm_X12_feels 12 rfl) ?_
  refine qr_letm (fun m3 => ?_)
  refine qr_aload_n o (q_dm dm_X12_feels 13 rfl) rfl ?_
  refine qr_getr (kf := 30) o cf_X12 (sh77 j r) rfl (Nat.le_of_ble_eq_true rfl) fl_X12_68 (q_dm dm_X12_feels 14 rfl) ?_
  refine qr_bipush o (q_dm dm_X12_feels 15 rfl) bi_9 ?_
  refine qr_aload_n o (q_dm dm_X12_feels 16 rfl) rfl ?_
  refine qr_getr (kf := 0) o cf_X12 (sh77 j r) rfl (Nat.le_of_ble_eq_true rfl) fl_X12_7 (q_dm dm_X12_feels 17 rfl) ?_
  refine qr_iconst o (q_dm dm_X12_feels 18 rfl) ic_0 ?_
  refine qr_iload_n o (q_dm dm_X12_feels 19 rfl) rfl ?_
  refine qr_iload_n o (q_dm dm_X12_feels 20 rfl) rfl ?_
  refine qr_calls_i (As := [.inl a1, .inl a2]) (S := [.inl (0 : Int32), .inr (some 78), .inl (9 : Int32), .inr (some 97)]) o (a_X12_at g k.2.1 n j r hj hr a1 a2 m3) (Nat.le_of_ble_eq_true rfl) zs_X12_at rfl ml_X12_282 (Nat.le_of_ble_eq_true rfl) (q_dm dm_X12_feels 21 rfl) (fun r4 m5 => ?_)
  refine qr_iadd o (q_dm dm_X12_feels 22 rfl) ?_
  refine qr_iald o (sh78 j r) (q_dm dm_X12_feels 23 rfl) ?_
  refine qr_iast0 (c := 9) o (sh97 j r) (by decide) (by decide) (q_dm dm_X12_feels 24 rfl) ?_
  refine qr_letm (fun m6 => ?_)
  refine qr_aload_n o (q_dm dm_X12_feels 25 rfl) rfl ?_
  refine qr_getr (kf := 30) o cf_X12 (sh77 j r) rfl (Nat.le_of_ble_eq_true rfl) fl_X12_68 (q_dm dm_X12_feels 26 rfl) ?_
  refine qr_bipush o (q_dm dm_X12_feels 27 rfl) bi_10 ?_
  refine qr_aload_n o (q_dm dm_X12_feels 28 rfl) rfl ?_
  refine qr_iload_n o (q_dm dm_X12_feels 29 rfl) rfl ?_
  refine qr_callv_i (As := [.inl a2]) (S := [.inl (10 : Int32), .inr (some 97)]) o (a_X12_allTries g k.2.1 n j r hj hr a2 m6) (Nat.le_of_ble_eq_true rfl) zv_X12_allTries rfl cf_X12 (sh77 j r) ml_X12_285 (Nat.le_of_ble_eq_true rfl) (q_dm dm_X12_feels 30 rfl) (fun r7 m8 => ?_)
  refine qr_iast0 (c := 10) o (sh97 j r) (by decide) (by decide) (q_dm dm_X12_feels 31 rfl) ?_
  refine qr_letm (fun m9 => ?_)
  refine qr_aload_n o (q_dm dm_X12_feels 32 rfl) rfl ?_
  refine qr_getr (kf := 30) o cf_X12 (sh77 j r) rfl (Nat.le_of_ble_eq_true rfl) fl_X12_68 (q_dm dm_X12_feels 33 rfl) ?_
  refine qr_bipush o (q_dm dm_X12_feels 34 rfl) bi_11 ?_
  refine qr_aload_n o (q_dm dm_X12_feels 35 rfl) rfl ?_
  refine qr_getr (kf := 0) o cf_X12 (sh77 j r) rfl (Nat.le_of_ble_eq_true rfl) fl_X12_7 (q_dm dm_X12_feels 36 rfl) ?_
  refine qr_sipush o (q_dm dm_X12_feels 37 rfl) si_192 ?_
  refine qr_iload_n o (q_dm dm_X12_feels 38 rfl) rfl ?_
  refine qr_iload_n o (q_dm dm_X12_feels 39 rfl) rfl ?_
  refine qr_calls_i (As := [.inl a1, .inl a2]) (S := [.inl (192 : Int32), .inr (some 78), .inl (11 : Int32), .inr (some 97)]) o (a_X12_at g k.2.1 n j r hj hr a1 a2 m9) (Nat.le_of_ble_eq_true rfl) zs_X12_at rfl ml_X12_282 (Nat.le_of_ble_eq_true rfl) (q_dm dm_X12_feels 40 rfl) (fun r10 m11 => ?_)
  refine qr_iadd o (q_dm dm_X12_feels 41 rfl) ?_
  refine qr_iald o (sh78 j r) (q_dm dm_X12_feels 42 rfl) ?_
  refine qr_iast0 (c := 11) o (sh97 j r) (by decide) (by decide) (q_dm dm_X12_feels 43 rfl) ?_
  refine qr_letm (fun m12 => ?_)
  exact qr_vret o rfl (q_dm dm_X12_feels 44 rfl)

theorem a_X12_feels (g : qG) (l : Launch) (n : Nat) (j r : Nat) (hj : q_isLaw j) (hr : q_isLaw r) (a1 a2 a3 : Int32) (M : qM) : qAM g l 2 zX12_feels (qL j r) [.inr (some 77), .inl a1, .inl a2, .inl a3] (qL j r, M) (f_X12_feels n a1 a2 a3 M) :=
  qAM.of zv_X12_feels.1 (by show 4 ≤ 4; decide) (fun k hk o => w_X12_feels n j r hj hr o a1 a2 a3 M)
def tb_X12_costOf : List (Nat × Instr × Nat) := [(0, (.aload_n 0, 1)), (1, (.iload_n 1, 1)), (2, (.iload_n 2, 1)), (3, (.iload_n 3, 1)), (4, (.invokevirtual 288, 3)), (7, (.aload_n 0, 1)), (8, (.bipush 99, 2)), (10, (.sipush 999, 3)), (13, (.iconst 0, 1)), (14, (.invokevirtual 292, 3)), (17, (.ireturn, 1))]
theorem dm_X12_costOf : ∀ q ∈ tb_X12_costOf, decode zX12_costOf.2.1 q.1 = .ok q.2 := by decide +kernel
def f_X12_costOf (n : Nat) (a1 a2 a3 : Int32) (M : qM) : qR :=
  qc (f_X12_feels n a1 a2 a3 M) (fun _ m1 => qc (f_X12_byLaw n (99 : Int32) (999 : Int32) (0 : Int32) m1) (fun r2 m3 => some (r2, m3)))
set_option maxRecDepth 4000 in
theorem w_X12_costOf {g : qG} {k : qK} (n : Nat) (j r : Nat) (hj : q_isLaw j) (hr : q_isLaw r) (o : qOk g 3 zX12_costOf k) (a1 a2 a3 : Int32) (M : qM) : qAE g k zX12_costOf (qL j r) 0 [some (.inr (some 77)), some (.inl a1), some (.inl a2), some (.inl a3)] [] (qL j r, M) (f_X12_costOf n a1 a2 a3 M) := by
  unfold f_X12_costOf
  refine qr_aload_n o (q_dm dm_X12_costOf 0 rfl) rfl ?_
  refine qr_iload_n o (q_dm dm_X12_costOf 1 rfl) rfl ?_
  refine qr_iload_n o (q_dm dm_X12_costOf 2 rfl) rfl ?_
  refine qr_iload_n o (q_dm dm_X12_costOf 3 rfl) rfl ?_
  refine qr_callv_v (As := [.inl a1, .inl a2, .inl a3]) (S := []) o (a_X12_feels g k.2.1 n j r hj hr a1 a2 a3 M) (Nat.le_of_ble_eq_true rfl) zv_X12_feels rfl cf_X12 (sh77 j r) ml_X12_288 (Nat.le_of_ble_eq_true rfl) (q_dm dm_X12_costOf 4 rfl) (fun _ m1 => ?_)
  refine qr_aload_n o (q_dm dm_X12_costOf 5 rfl) rfl ?_
  refine qr_bipush o (q_dm dm_X12_costOf 6 rfl) bi_99 ?_
  refine qr_sipush o (q_dm dm_X12_costOf 7 rfl) si_999 ?_
  refine qr_iconst o (q_dm dm_X12_costOf 8 rfl) ic_0 ?_
  refine qr_callv_i (As := [.inl (99 : Int32), .inl (999 : Int32), .inl (0 : Int32)]) (S := []) o (a_X12_byLaw g k.2.1 n j r hj hr (99 : Int32) (999 : Int32) (0 : Int32) m1) (Nat.le_of_ble_eq_true rfl) zv_X12_byLaw rfl cf_X12 (sh77 j r) ml_X12_292 (Nat.le_of_ble_eq_true rfl) (q_dm dm_X12_costOf 9 rfl) (fun r2 m3 => ?_)
  exact qr_iret o rfl rfl (q_dm dm_X12_costOf 10 rfl)

theorem a_X12_costOf (g : qG) (l : Launch) (n : Nat) (j r : Nat) (hj : q_isLaw j) (hr : q_isLaw r) (a1 a2 a3 : Int32) (M : qM) : qAM g l 3 zX12_costOf (qL j r) [.inr (some 77), .inl a1, .inl a2, .inl a3] (qL j r, M) (f_X12_costOf n a1 a2 a3 M) :=
  qAM.of zv_X12_costOf.1 (by show 4 ≤ 4; decide) (fun k hk o => w_X12_costOf n j r hj hr o a1 a2 a3 M)
def tb_X12_min : List (Nat × Instr × Nat) := [(0, (.iload_n 0, 1)), (1, (.iload_n 1, 1)), (2, (.if_icmp .ge 7, 3)), (5, (.iload_n 0, 1)), (6, (.goto 4, 3)), (9, (.iload_n 1, 1)), (10, (.ireturn, 1))]
theorem dm_X12_min : ∀ q ∈ tb_X12_min, decode zX12_min.2.1 q.1 = .ok q.2 := by decide +kernel
def f_X12_min (n : Nat) (a0 a1 : Int32) (M : qM) : qR :=
  (if a1 ≤ a0 then some (a1, M) else some (a0, M))
set_option maxRecDepth 4000 in
theorem w_X12_min {g : qG} {k : qK} (n : Nat) (j r : Nat) (hj : q_isLaw j) (hr : q_isLaw r) (o : qOk g 0 zX12_min k) (a0 a1 : Int32) (M : qM) : qAE g k zX12_min (qL j r) 0 [some (.inl a0), some (.inl a1)] [] (qL j r, M) (f_X12_min n a0 a1 M) := by
  unfold f_X12_min
  refine qr_iload_n o (q_dm dm_X12_min 0 rfl) rfl ?_
  refine qr_iload_n o (q_dm dm_X12_min 1 rfl) rfl ?_
  refine qr_icmp_ge (tgt := 9) o (q_dm dm_X12_min 2 rfl) (by decide) ?_ ?_
  · refine qr_iload_n o (q_dm dm_X12_min 5 rfl) rfl ?_
    exact qr_iret o rfl rfl (q_dm dm_X12_min 6 rfl)
  · refine qr_iload_n o (q_dm dm_X12_min 3 rfl) rfl ?_
    refine qr_goto (tgt := 10) o (q_dm dm_X12_min 4 rfl) (by decide) ?_
    exact qr_iret o rfl rfl (q_dm dm_X12_min 6 rfl)

theorem a_X12_min (g : qG) (l : Launch) (n : Nat) (j r : Nat) (hj : q_isLaw j) (hr : q_isLaw r) (a0 a1 : Int32) (M : qM) : qAM g l 0 zX12_min (qL j r) [.inl a0, .inl a1] (qL j r, M) (f_X12_min n a0 a1 M) :=
  qAM.of zs_X12_min.1 (by show 2 ≤ 2; decide) (fun k hk o => w_X12_min n j r hj hr o a0 a1 M)
def tb_X12_buys : List (Nat × Instr × Nat) := [(0, (.aload_n 0, 1)), (1, (.iload_n 1, 1)), (2, (.invokevirtual 310, 3)), (5, (.ifCond .eq 24, 3)), (8, (.aload_n 0, 1)), (9, (.iload_n 2, 1)), (10, (.invokevirtual 157, 3)), (13, (.ifCond .eq 16, 3)), (16, (.aload_n 0, 1)), (17, (.iload_n 3, 1)), (18, (.invokevirtual 310, 3)), (21, (.ifCond .eq 8, 3)), (24, (.iload_n 1, 1)), (25, (.iload_n 3, 1)), (26, (.if_icmp .ne 5, 3)), (29, (.iconst (-1), 1)), (30, (.ireturn, 1)), (31, (.iload_n 3, 1)), (32, (.iload_n 2, 1)), (33, (.invokestatic 282, 3)), (36, (.istore 4, 2)), (38, (.iload_n 1, 1)), (39, (.iload_n 2, 1)), (40, (.invokestatic 282, 3)), (43, (.istore 5, 2)), (45, (.aload_n 0, 1)), (46, (.getfield 7, 3)), (49, (.iconst 0, 1)), (50, (.iload 4, 2)), (52, (.iadd, 1)), (53, (.iaload, 1)), (54, (.ifCond .ne 6, 3)), (57, (.bipush (-3), 2)), (59, (.ireturn, 1)), (60, (.aload_n 0, 1)), (61, (.iload_n 1, 1)), (62, (.iload_n 2, 1)), (63, (.iload_n 3, 1)), (64, (.invokevirtual 316, 3)), (67, (.istore 6, 2)), (69, (.aload_n 0, 1)), (70, (.getfield 7, 3)), (73, (.sipush 288, 3)), (76, (.iload_n 1, 1)), (77, (.iadd, 1)), (78, (.iaload, 1)), (79, (.iload 6, 2)), (81, (.if_icmp .ge 6, 3)), (84, (.bipush (-2), 2)), (86, (.ireturn, 1)), (87, (.aload_n 0, 1)), (88, (.getfield 7, 3)), (91, (.sipush 288, 3)), (94, (.iload_n 1, 1)), (95, (.iadd, 1)), (96, (.aload_n 0, 1)), (97, (.getfield 7, 3)), (100, (.sipush 288, 3)), (103, (.iload_n 1, 1)), (104, (.iadd, 1)), (105, (.iaload, 1)), (106, (.iload 6, 2)), (108, (.isub, 1)), (109, (.iastore, 1)), (110, (.aload_n 0, 1)), (111, (.getfield 7, 3)), (114, (.sipush 288, 3)), (117, (.iload_n 3, 1)), (118, (.iadd, 1)), (119, (.ldc 161, 2)), (121, (.aload_n 0, 1)), (122, (.getfield 7, 3)), (125, (.sipush 288, 3)), (128, (.iload_n 3, 1)), (129, (.iadd, 1)), (130, (.iaload, 1)), (131, (.iload 6, 2)), (133, (.iadd, 1)), (134, (.invokestatic 307, 3)), (137, (.iastore, 1)), (138, (.aload_n 0, 1)), (139, (.getfield 7, 3)), (142, (.iconst 0, 1)), (143, (.iload 4, 2)), (145, (.iadd, 1)), (146, (.aload_n 0, 1)), (147, (.getfield 7, 3)), (150, (.iconst 0, 1)), (151, (.iload 4, 2)), (153, (.iadd, 1)), (154, (.iaload, 1)), (155, (.iconst 1, 1)), (156, (.isub, 1)), (157, (.iastore, 1)), (158, (.aload_n 0, 1)), (159, (.getfield 7, 3)), (162, (.iconst 0, 1)), (163, (.iload 4, 2)), (165, (.iadd, 1)), (166, (.iaload, 1)), (167, (.ifCond .ne 15, 3)), (170, (.aload_n 0, 1)), (171, (.getfield 7, 3)), (174, (.bipush 96, 2)), (176, (.iload 4, 2)), (178, (.iadd, 1)), (179, (.bipush (-2), 2)), (181, (.iastore, 1)), (182, (.aload_n 0, 1)), (183, (.getfield 7, 3)), (186, (.iconst 0, 1)), (187, (.iload 5, 2)), (189, (.iadd, 1)), (190, (.sipush 999, 3)), (193, (.aload_n 0, 1)), (194, (.getfield 7, 3)), (197, (.iconst 0, 1)), (198, (.iload 5, 2)), (200, (.iadd, 1)), (201, (.iaload, 1)), (202, (.iconst 1, 1)), (203, (.iadd, 1)), (204, (.invokestatic 307, 3)), (207, (.iastore, 1)), (208, (.aload_n 0, 1)), (209, (.getfield 7, 3)), (212, (.bipush 96, 2)), (214, (.iload 5, 2)), (216, (.iadd, 1)), (217, (.aload_n 0, 1)), (218, (.getfield 7, 3)), (221, (.sipush 313, 3)), (224, (.iaload, 1)), (225, (.iastore, 1)), (226, (.iload 6, 2)), (228, (.ireturn, 1))]
theorem dm_X12_buys : ∀ q ∈ tb_X12_buys, decode zX12_buys.2.1 q.1 = .ok q.2 := by decide +kernel
def f_X12_buys_182 (n : Nat) (a5 a6 : Int32) (M : qM) : qR :=
  qg ((0 : Int32) + a5) 954 (qc (f_X12_min n (999 : Int32) ((M 78 ((0 : Int32) + a5).toNatClampNeg) + (1 : Int32)) M) (fun r1 m2 => qg ((0 : Int32) + a5) 954 (qlm (mu m2 78 ((0 : Int32) + a5).toNatClampNeg r1) (fun m3 => qg ((96 : Int32) + a5) 954 (qlm (mu m3 78 ((96 : Int32) + a5).toNatClampNeg (m3 78 313)) (fun m4 => some (a6, m4)))))))
set_option maxRecDepth 4000 in
theorem w_X12_buys_182 {g : qG} {k : qK} (n : Nat) (j r : Nat) (hj : q_isLaw j) (hr : q_isLaw r) (o : qOk g 4 zX12_buys k) (a5 a6 : Int32) (M : qM) : qAE g k zX12_buys (qL j r) 182 [some (.inr (some 77)), none, none, none, none, some (.inl a5), some (.inl a6)] [] (qL j r, M) (f_X12_buys_182 n a5 a6 M) := by
  unfold f_X12_buys_182
  refine qr_aload_n o (q_dm dm_X12_buys 108 rfl) rfl ?_
  refine qr_getr (kf := 0) o cf_X12 (sh77 j r) rfl (Nat.le_of_ble_eq_true rfl) fl_X12_7 (q_dm dm_X12_buys 109 rfl) ?_
  refine qr_iconst o (q_dm dm_X12_buys 110 rfl) ic_0 ?_
  refine qr_iload o (q_dm dm_X12_buys 111 rfl) rfl ?_
  refine qr_iadd o (q_dm dm_X12_buys 112 rfl) ?_
  refine qr_sipush o (q_dm dm_X12_buys 113 rfl) si_999 ?_
  refine qr_aload_n o (q_dm dm_X12_buys 114 rfl) rfl ?_
  refine qr_getr (kf := 0) o cf_X12 (sh77 j r) rfl (Nat.le_of_ble_eq_true rfl) fl_X12_7 (q_dm dm_X12_buys 115 rfl) ?_
  refine qr_iconst o (q_dm dm_X12_buys 116 rfl) ic_0 ?_
  refine qr_iload o (q_dm dm_X12_buys 117 rfl) rfl ?_
  refine qr_iadd o (q_dm dm_X12_buys 118 rfl) ?_
  refine qr_iald o (sh78 j r) (q_dm dm_X12_buys 119 rfl) ?_
  refine qr_iconst o (q_dm dm_X12_buys 120 rfl) ic_1 ?_
  refine qr_iadd o (q_dm dm_X12_buys 121 rfl) ?_
  refine qr_calls_i (As := [.inl (999 : Int32), .inl ((M 78 ((0 : Int32) + a5).toNatClampNeg) + (1 : Int32))]) (S := [.inl ((0 : Int32) + a5), .inr (some 78)]) o (a_X12_min g k.2.1 n j r hj hr (999 : Int32) ((M 78 ((0 : Int32) + a5).toNatClampNeg) + (1 : Int32)) M) (Nat.le_of_ble_eq_true rfl) zs_X12_min rfl ml_X12_307 (Nat.le_of_ble_eq_true rfl) (q_dm dm_X12_buys 122 rfl) (fun r1 m2 => ?_)
  refine qr_iast o (sh78 j r) (q_dm dm_X12_buys 123 rfl) ?_
  refine qr_letm (fun m3 => ?_)
  refine qr_aload_n o (q_dm dm_X12_buys 124 rfl) rfl ?_
  refine qr_getr (kf := 0) o cf_X12 (sh77 j r) rfl (Nat.le_of_ble_eq_true rfl) fl_X12_7 (q_dm dm_X12_buys 125 rfl) ?_
  refine qr_bipush o (q_dm dm_X12_buys 126 rfl) bi_96 ?_
  refine qr_iload o (q_dm dm_X12_buys 127 rfl) rfl ?_
  refine qr_iadd o (q_dm dm_X12_buys 128 rfl) ?_
  refine qr_aload_n o (q_dm dm_X12_buys 129 rfl) rfl ?_
  refine qr_getr (kf := 0) o cf_X12 (sh77 j r) rfl (Nat.le_of_ble_eq_true rfl) fl_X12_7 (q_dm dm_X12_buys 130 rfl) ?_
  refine qr_sipush o (q_dm dm_X12_buys 131 rfl) si_313 ?_
  refine qr_iald0 (c := 313) o (sh78 j r) (by decide) (by decide) (q_dm dm_X12_buys 132 rfl) ?_
  refine qr_iast o (sh78 j r) (q_dm dm_X12_buys 133 rfl) ?_
  refine qr_letm (fun m4 => ?_)
  refine qr_iload o (q_dm dm_X12_buys 134 rfl) rfl ?_
  exact qr_iret o rfl rfl (q_dm dm_X12_buys 135 rfl)

def f_X12_buys (n : Nat) (a1 a2 a3 : Int32) (M : qM) : qR :=
  qc (f_X12_isPerson n a1 M) (fun r1 m2 => (if r1 = (0 : Int32) then some ((-1 : Int32), m2) else qc (f_X12_isKind n a2 m2) (fun r3 m4 => (if r3 = (0 : Int32) then some ((-1 : Int32), m4) else qc (f_X12_isPerson n a3 m4) (fun r5 m6 => (if r5 = (0 : Int32) then some ((-1 : Int32), m6) else (if a1 = a3 then some ((-1 : Int32), m6) else qc (f_X12_at n a3 a2 m6) (fun r7 m8 => qc (f_X12_at n a1 a2 m8) (fun r9 m10 => qg ((0 : Int32) + r7) 954 ((if (m10 78 ((0 : Int32) + r7).toNatClampNeg) = (0 : Int32) then some ((-3 : Int32), m10) else qc (f_X12_costOf n a1 a2 a3 m10) (fun r11 m12 => qg ((288 : Int32) + a1) 954 ((if r11 ≤ (m12 78 ((288 : Int32) + a1).toNatClampNeg) then qg ((288 : Int32) + a1) 954 (qg ((288 : Int32) + a1) 954 (qlm (mu m12 78 ((288 : Int32) + a1).toNatClampNeg ((m12 78 ((288 : Int32) + a1).toNatClampNeg) - r11)) (fun m13 => qg ((288 : Int32) + a3) 954 (qc (f_X12_min n (99999 : Int32) ((m13 78 ((288 : Int32) + a3).toNatClampNeg) + r11) m13) (fun r14 m15 => qg ((288 : Int32) + a3) 954 (qlm (mu m15 78 ((288 : Int32) + a3).toNatClampNeg r14) (fun m16 => qg ((0 : Int32) + r7) 954 (qg ((0 : Int32) + r7) 954 (qlm (mu m16 78 ((0 : Int32) + r7).toNatClampNeg ((m16 78 ((0 : Int32) + r7).toNatClampNeg) - (1 : Int32))) (fun m17 => qg ((0 : Int32) + r7) 954 ((if (m17 78 ((0 : Int32) + r7).toNatClampNeg) = (0 : Int32) then qg ((96 : Int32) + r7) 954 (qlm (mu m17 78 ((96 : Int32) + r7).toNatClampNeg (-2 : Int32)) (fun m18 => f_X12_buys_182 n r9 r11 m18)) else f_X12_buys_182 n r9 r11 m17)))))))))))) else some ((-2 : Int32), m12)))))))))))))))
set_option maxRecDepth 4000 in
theorem w_X12_buys {g : qG} {k : qK} (n : Nat) (j r : Nat) (hj : q_isLaw j) (hr : q_isLaw r) (o : qOk g 4 zX12_buys k) (a1 a2 a3 : Int32) (M : qM) : qAE g k zX12_buys (qL j r) 0 [some (.inr (some 77)), some (.inl a1), some (.inl a2), some (.inl a3), none, none, none] [] (qL j r, M) (f_X12_buys n a1 a2 a3 M) := by
  unfold f_X12_buys
  refine qr_aload_n o (q_dm dm_X12_buys 0 rfl) rfl ?_
  refine qr_iload_n o (q_dm dm_X12_buys 1 rfl) rfl ?_
  refine qr_callv_i (As := [.inl a1]) (S := []) o (a_X12_isPerson g k.2.1 n j r hj hr a1 M) (Nat.le_of_ble_eq_true rfl) zv_X12_isPerson rfl cf_X12 (sh77 j r) ml_X12_310 (Nat.le_of_ble_eq_true rfl) (q_dm dm_X12_buys 2 rfl) (fun r1 m2 => ?_)
  refine qr_if_eq (tgt := 29) o (q_dm dm_X12_buys 3 rfl) (by decide) ?_ ?_
  · refine qr_iconst o (q_dm dm_X12_buys 15 rfl) ic_m1 ?_
    exact qr_iret o rfl rfl (q_dm dm_X12_buys 16 rfl)
  · refine qr_aload_n o (q_dm dm_X12_buys 4 rfl) rfl ?_
    refine qr_iload_n o (q_dm dm_X12_buys 5 rfl) rfl ?_
    refine qr_callv_i (As := [.inl a2]) (S := []) o (a_X12_isKind g k.2.1 n j r hj hr a2 m2) (Nat.le_of_ble_eq_true rfl) zv_X12_isKind rfl cf_X12 (sh77 j r) ml_X12_157 (Nat.le_of_ble_eq_true rfl) (q_dm dm_X12_buys 6 rfl) (fun r3 m4 => ?_)
    refine qr_if_eq (tgt := 29) o (q_dm dm_X12_buys 7 rfl) (by decide) ?_ ?_
    · refine qr_iconst o (q_dm dm_X12_buys 15 rfl) ic_m1 ?_
      exact qr_iret o rfl rfl (q_dm dm_X12_buys 16 rfl)
    · refine qr_aload_n o (q_dm dm_X12_buys 8 rfl) rfl ?_
      refine qr_iload_n o (q_dm dm_X12_buys 9 rfl) rfl ?_
      refine qr_callv_i (As := [.inl a3]) (S := []) o (a_X12_isPerson g k.2.1 n j r hj hr a3 m4) (Nat.le_of_ble_eq_true rfl) zv_X12_isPerson rfl cf_X12 (sh77 j r) ml_X12_310 (Nat.le_of_ble_eq_true rfl) (q_dm dm_X12_buys 10 rfl) (fun r5 m6 => ?_)
      refine qr_if_eq (tgt := 29) o (q_dm dm_X12_buys 11 rfl) (by decide) ?_ ?_
      · refine qr_iconst o (q_dm dm_X12_buys 15 rfl) ic_m1 ?_
        exact qr_iret o rfl rfl (q_dm dm_X12_buys 16 rfl)
      · refine qr_iload_n o (q_dm dm_X12_buys 12 rfl) rfl ?_
        refine qr_iload_n o (q_dm dm_X12_buys 13 rfl) rfl ?_
        refine qr_icmp_ne (tgt := 31) o (q_dm dm_X12_buys 14 rfl) (by decide) ?_ ?_
        · refine qr_iload_n o (q_dm dm_X12_buys 17 rfl) rfl ?_
          refine qr_iload_n o (q_dm dm_X12_buys 18 rfl) rfl ?_
          refine qr_calls_i (As := [.inl a3, .inl a2]) (S := []) o (a_X12_at g k.2.1 n j r hj hr a3 a2 m6) (Nat.le_of_ble_eq_true rfl) zs_X12_at rfl ml_X12_282 (Nat.le_of_ble_eq_true rfl) (q_dm dm_X12_buys 19 rfl) (fun r7 m8 => ?_)
          refine qs_istore (L' := [some (.inr (some 77)), some (.inl a1), some (.inl a2), some (.inl a3), some (.inl r7), none, none]) o (q_dm dm_X12_buys 20 rfl) (Nat.le_of_ble_eq_true rfl) rfl ?_
          refine qr_iload_n o (q_dm dm_X12_buys 21 rfl) rfl ?_
          refine qr_iload_n o (q_dm dm_X12_buys 22 rfl) rfl ?_
          refine qr_calls_i (As := [.inl a1, .inl a2]) (S := []) o (a_X12_at g k.2.1 n j r hj hr a1 a2 m8) (Nat.le_of_ble_eq_true rfl) zs_X12_at rfl ml_X12_282 (Nat.le_of_ble_eq_true rfl) (q_dm dm_X12_buys 23 rfl) (fun r9 m10 => ?_)
          refine qs_istore (L' := [some (.inr (some 77)), some (.inl a1), some (.inl a2), some (.inl a3), some (.inl r7), some (.inl r9), none]) o (q_dm dm_X12_buys 24 rfl) (Nat.le_of_ble_eq_true rfl) rfl ?_
          refine qr_aload_n o (q_dm dm_X12_buys 25 rfl) rfl ?_
          refine qr_getr (kf := 0) o cf_X12 (sh77 j r) rfl (Nat.le_of_ble_eq_true rfl) fl_X12_7 (q_dm dm_X12_buys 26 rfl) ?_
          refine qr_iconst o (q_dm dm_X12_buys 27 rfl) ic_0 ?_
          refine qr_iload o (q_dm dm_X12_buys 28 rfl) rfl ?_
          refine qr_iadd o (q_dm dm_X12_buys 29 rfl) ?_
          refine qr_iald o (sh78 j r) (q_dm dm_X12_buys 30 rfl) ?_
          refine qr_if_ne (tgt := 60) o (q_dm dm_X12_buys 31 rfl) (by decide) ?_ ?_
          · refine qr_aload_n o (q_dm dm_X12_buys 34 rfl) rfl ?_
            refine qr_iload_n o (q_dm dm_X12_buys 35 rfl) rfl ?_
            refine qr_iload_n o (q_dm dm_X12_buys 36 rfl) rfl ?_
            refine qr_iload_n o (q_dm dm_X12_buys 37 rfl) rfl ?_
            refine qr_callv_i (As := [.inl a1, .inl a2, .inl a3]) (S := []) o (a_X12_costOf g k.2.1 n j r hj hr a1 a2 a3 m10) (Nat.le_of_ble_eq_true rfl) zv_X12_costOf rfl cf_X12 (sh77 j r) ml_X12_316 (Nat.le_of_ble_eq_true rfl) (q_dm dm_X12_buys 38 rfl) (fun r11 m12 => ?_)
            refine qs_istore (L' := [some (.inr (some 77)), some (.inl a1), some (.inl a2), some (.inl a3), some (.inl r7), some (.inl r9), some (.inl r11)]) o (q_dm dm_X12_buys 39 rfl) (Nat.le_of_ble_eq_true rfl) rfl ?_
            refine qr_aload_n o (q_dm dm_X12_buys 40 rfl) rfl ?_
            refine qr_getr (kf := 0) o cf_X12 (sh77 j r) rfl (Nat.le_of_ble_eq_true rfl) fl_X12_7 (q_dm dm_X12_buys 41 rfl) ?_
            refine qr_sipush o (q_dm dm_X12_buys 42 rfl) si_288 ?_
            refine qr_iload_n o (q_dm dm_X12_buys 43 rfl) rfl ?_
            refine qr_iadd o (q_dm dm_X12_buys 44 rfl) ?_
            refine qr_iald o (sh78 j r) (q_dm dm_X12_buys 45 rfl) ?_
            refine qr_iload o (q_dm dm_X12_buys 46 rfl) rfl ?_
            refine qr_icmp_ge (tgt := 87) o (q_dm dm_X12_buys 47 rfl) (by decide) ?_ ?_
            · refine qr_aload_n o (q_dm dm_X12_buys 50 rfl) rfl ?_
              refine qr_getr (kf := 0) o cf_X12 (sh77 j r) rfl (Nat.le_of_ble_eq_true rfl) fl_X12_7 (q_dm dm_X12_buys 51 rfl) ?_
              refine qr_sipush o (q_dm dm_X12_buys 52 rfl) si_288 ?_
              refine qr_iload_n o (q_dm dm_X12_buys 53 rfl) rfl ?_
              refine qr_iadd o (q_dm dm_X12_buys 54 rfl) ?_
              refine qr_aload_n o (q_dm dm_X12_buys 55 rfl) rfl ?_
              refine qr_getr (kf := 0) o cf_X12 (sh77 j r) rfl (Nat.le_of_ble_eq_true rfl) fl_X12_7 (q_dm dm_X12_buys 56 rfl) ?_
              refine qr_sipush o (q_dm dm_X12_buys 57 rfl) si_288 ?_
              refine qr_iload_n o (q_dm dm_X12_buys 58 rfl) rfl ?_
              refine qr_iadd o (q_dm dm_X12_buys 59 rfl) ?_
              refine qr_iald o (sh78 j r) (q_dm dm_X12_buys 60 rfl) ?_
              refine qr_iload o (q_dm dm_X12_buys 61 rfl) rfl ?_
              refine qr_isub o (q_dm dm_X12_buys 62 rfl) ?_
              refine qr_iast o (sh78 j r) (q_dm dm_X12_buys 63 rfl) ?_
              refine qr_letm (fun m13 => ?_)
              refine qr_aload_n o (q_dm dm_X12_buys 64 rfl) rfl ?_
              refine qr_getr (kf := 0) o cf_X12 (sh77 j r) rfl (Nat.le_of_ble_eq_true rfl) fl_X12_7 (q_dm dm_X12_buys 65 rfl) ?_
              refine qr_sipush o (q_dm dm_X12_buys 66 rfl) si_288 ?_
              refine qr_iload_n o (q_dm dm_X12_buys 67 rfl) rfl ?_
              refine qr_iadd o (q_dm dm_X12_buys 68 rfl) ?_
              refine qr_ldc o (q_dm dm_X12_buys 69 rfl) kc_X12_161 ?_
              refine qr_aload_n o (q_dm dm_X12_buys 70 rfl) rfl ?_
              refine qr_getr (kf := 0) o cf_X12 (sh77 j r) rfl (Nat.le_of_ble_eq_true rfl) fl_X12_7 (q_dm dm_X12_buys 71 rfl) ?_
              refine qr_sipush o (q_dm dm_X12_buys 72 rfl) si_288 ?_
              refine qr_iload_n o (q_dm dm_X12_buys 73 rfl) rfl ?_
              refine qr_iadd o (q_dm dm_X12_buys 74 rfl) ?_
              refine qr_iald o (sh78 j r) (q_dm dm_X12_buys 75 rfl) ?_
              refine qr_iload o (q_dm dm_X12_buys 76 rfl) rfl ?_
              refine qr_iadd o (q_dm dm_X12_buys 77 rfl) ?_
              refine qr_calls_i (As := [.inl (99999 : Int32), .inl ((m13 78 ((288 : Int32) + a3).toNatClampNeg) + r11)]) (S := [.inl ((288 : Int32) + a3), .inr (some 78)]) o (a_X12_min g k.2.1 n j r hj hr (99999 : Int32) ((m13 78 ((288 : Int32) + a3).toNatClampNeg) + r11) m13) (Nat.le_of_ble_eq_true rfl) zs_X12_min rfl ml_X12_307 (Nat.le_of_ble_eq_true rfl) (q_dm dm_X12_buys 78 rfl) (fun r14 m15 => ?_)
              refine qr_iast o (sh78 j r) (q_dm dm_X12_buys 79 rfl) ?_
              refine qr_letm (fun m16 => ?_)
              refine qr_aload_n o (q_dm dm_X12_buys 80 rfl) rfl ?_
              refine qr_getr (kf := 0) o cf_X12 (sh77 j r) rfl (Nat.le_of_ble_eq_true rfl) fl_X12_7 (q_dm dm_X12_buys 81 rfl) ?_
              refine qr_iconst o (q_dm dm_X12_buys 82 rfl) ic_0 ?_
              refine qr_iload o (q_dm dm_X12_buys 83 rfl) rfl ?_
              refine qr_iadd o (q_dm dm_X12_buys 84 rfl) ?_
              refine qr_aload_n o (q_dm dm_X12_buys 85 rfl) rfl ?_
              refine qr_getr (kf := 0) o cf_X12 (sh77 j r) rfl (Nat.le_of_ble_eq_true rfl) fl_X12_7 (q_dm dm_X12_buys 86 rfl) ?_
              refine qr_iconst o (q_dm dm_X12_buys 87 rfl) ic_0 ?_
              refine qr_iload o (q_dm dm_X12_buys 88 rfl) rfl ?_
              refine qr_iadd o (q_dm dm_X12_buys 89 rfl) ?_
              refine qr_iald o (sh78 j r) (q_dm dm_X12_buys 90 rfl) ?_
              refine qr_iconst o (q_dm dm_X12_buys 91 rfl) ic_1 ?_
              refine qr_isub o (q_dm dm_X12_buys 92 rfl) ?_
              refine qr_iast o (sh78 j r) (q_dm dm_X12_buys 93 rfl) ?_
              refine qr_letm (fun m17 => ?_)
              refine qr_aload_n o (q_dm dm_X12_buys 94 rfl) rfl ?_
              refine qr_getr (kf := 0) o cf_X12 (sh77 j r) rfl (Nat.le_of_ble_eq_true rfl) fl_X12_7 (q_dm dm_X12_buys 95 rfl) ?_
              refine qr_iconst o (q_dm dm_X12_buys 96 rfl) ic_0 ?_
              refine qr_iload o (q_dm dm_X12_buys 97 rfl) rfl ?_
              refine qr_iadd o (q_dm dm_X12_buys 98 rfl) ?_
              refine qr_iald o (sh78 j r) (q_dm dm_X12_buys 99 rfl) ?_
              refine qr_if_ne (tgt := 182) o (q_dm dm_X12_buys 100 rfl) (by decide) ?_ ?_
              · exact qr_loc (q_leS (q_leN (q_leN (q_leN (q_leN (q_leS (q_leS q_le0))))))) (w_X12_buys_182 n j r hj hr o r9 r11 m17)
              · refine qr_aload_n o (q_dm dm_X12_buys 101 rfl) rfl ?_
                refine qr_getr (kf := 0) o cf_X12 (sh77 j r) rfl (Nat.le_of_ble_eq_true rfl) fl_X12_7 (q_dm dm_X12_buys 102 rfl) ?_
                refine qr_bipush o (q_dm dm_X12_buys 103 rfl) bi_96 ?_
                refine qr_iload o (q_dm dm_X12_buys 104 rfl) rfl ?_
                refine qr_iadd o (q_dm dm_X12_buys 105 rfl) ?_
                refine qr_bipush o (q_dm dm_X12_buys 106 rfl) bi_m2 ?_
                refine qr_iast o (sh78 j r) (q_dm dm_X12_buys 107 rfl) ?_
                refine qr_letm (fun m18 => ?_)
                exact qr_loc (q_leS (q_leN (q_leN (q_leN (q_leN (q_leS (q_leS q_le0))))))) (w_X12_buys_182 n j r hj hr o r9 r11 m18)
            · refine qr_bipush o (q_dm dm_X12_buys 48 rfl) bi_m2 ?_
              exact qr_iret o rfl rfl (q_dm dm_X12_buys 49 rfl)
          · refine qr_bipush o (q_dm dm_X12_buys 32 rfl) bi_m3 ?_
            exact qr_iret o rfl rfl (q_dm dm_X12_buys 33 rfl)
        · refine qr_iconst o (q_dm dm_X12_buys 15 rfl) ic_m1 ?_
          exact qr_iret o rfl rfl (q_dm dm_X12_buys 16 rfl)

theorem a_X12_buys (g : qG) (l : Launch) (n : Nat) (j r : Nat) (hj : q_isLaw j) (hr : q_isLaw r) (a1 a2 a3 : Int32) (M : qM) : qAM g l 4 zX12_buys (qL j r) [.inr (some 77), .inl a1, .inl a2, .inl a3] (qL j r, M) (f_X12_buys n a1 a2 a3 M) :=
  qAM.of zv_X12_buys.1 (by show 4 ≤ 7; decide) (fun k hk o => w_X12_buys n j r hj hr o a1 a2 a3 M)
def tb_X12_coinsNow : List (Nat × Instr × Nat) := [(0, (.iconst 0, 1)), (1, (.istore_n 1, 1)), (2, (.iconst 0, 1)), (3, (.istore_n 2, 1)), (4, (.iload_n 2, 1)), (5, (.aload_n 0, 1)), (6, (.getfield 365, 3)), (9, (.if_icmp .ge 48, 3)), (12, (.iload_n 1, 1)), (13, (.aload_n 0, 1)), (14, (.getfield 86, 3)), (17, (.aload_n 0, 1)), (18, (.getfield 101, 3)), (21, (.iload_n 2, 1)), (22, (.iaload, 1)), (23, (.iaload, 1)), (24, (.ifCond .le 24, 3)), (27, (.aload_n 0, 1)), (28, (.getfield 86, 3)), (31, (.aload_n 0, 1)), (32, (.getfield 101, 3)), (35, (.iload_n 2, 1)), (36, (.iaload, 1)), (37, (.iaload, 1)), (38, (.aload_n 0, 1)), (39, (.getfield 104, 3)), (42, (.iload_n 2, 1)), (43, (.iaload, 1)), (44, (.imul, 1)), (45, (.goto 4, 3)), (48, (.iconst 0, 1)), (49, (.iadd, 1)), (50, (.istore_n 1, 1)), (51, (.iinc 2 1, 3)), (54, (.goto (-50), 3)), (57, (.iload_n 1, 1)), (58, (.ireturn, 1))]
theorem dm_X12_coinsNow : ∀ q ∈ tb_X12_coinsNow, decode zX12_coinsNow.2.1 q.1 = .ok q.2 := by decide +kernel
def f_X12_coinsNow_49 (n : Nat) (K4 : Int32 → Int32 → qM → qR) (a2 s0 s1 : Int32) (M : qM) : qR :=
  ql (s0 + s1) (fun x1 => ql (a2 + (1 : Int32)) (fun x2 => K4 x1 x2 M))
set_option maxRecDepth 4000 in
theorem w_X12_coinsNow_49 {g : qG} {k : qK} (n : Nat) (j r : Nat) (hj : q_isLaw j) (hr : q_isLaw r) (o : qOk g 0 zX12_coinsNow k) (K4 : Int32 → Int32 → qM → qR) (hK4 : ∀ (a1 a2 : Int32) (M : qM), qAE g k zX12_coinsNow (qL j r) 4 [some (.inr (some 77)), some (.inl a1), some (.inl a2)] [] (qL j r, M) (K4 a1 a2 M)) (a2 s0 s1 : Int32) (M : qM) : qAE g k zX12_coinsNow (qL j r) 49 [some (.inr (some 77)), none, some (.inl a2)] [.inl s1, .inl s0] (qL j r, M) (f_X12_coinsNow_49 n K4 a2 s0 s1 M) := by
  unfold f_X12_coinsNow_49
  refine qr_iadd o (q_dm dm_X12_coinsNow 31 rfl) ?_
  refine qr_lt (fun x1 => ?_)
  refine qs_istore_n (L' := [some (.inr (some 77)), some (.inl x1), some (.inl a2)]) o (q_dm dm_X12_coinsNow 32 rfl) (Nat.le_of_ble_eq_true rfl) rfl ?_
  refine qs_iincl2 (L' := fun x2 => [some (.inr (some 77)), some (.inl x1), some (.inl x2)]) o (q_dm dm_X12_coinsNow 33 rfl) rfl ic_1 (Nat.le_of_ble_eq_true rfl) (fun _ => rfl) (fun x2 => ?_)
  refine qr_goto (tgt := 4) o (q_dm dm_X12_coinsNow 34 rfl) (by decide) ?_
  exact qr_loc (q_leS (q_leS (q_leS q_le0))) (hK4 x1 x2 M)

def b_X12_coinsNow_4 (n : Nat) (K4 : Int32 → Int32 → qM → qR) (a1 a2 : Int32) (M : qM) : qR :=
  (if (M 77 43) ≤ a2 then some (a1, M) else qg a2 4 (qg (M 108 a2.toNatClampNeg) 20 ((if (M 103 (M 108 a2.toNatClampNeg).toNatClampNeg) ≤ (0 : Int32) then f_X12_coinsNow_49 n K4 a2 a1 (0 : Int32) M else qg a2 4 (qg (M 108 a2.toNatClampNeg) 20 (qg a2 4 (f_X12_coinsNow_49 n K4 a2 a1 ((M 103 (M 108 a2.toNatClampNeg).toNatClampNeg) * (M 109 a2.toNatClampNeg)) M)))))))
set_option maxRecDepth 4000 in
theorem wb_X12_coinsNow_4 {g : qG} {k : qK} (n : Nat) (j r : Nat) (hj : q_isLaw j) (hr : q_isLaw r) (o : qOk g 0 zX12_coinsNow k) (K4 : Int32 → Int32 → qM → qR) (hK4 : ∀ (a1 a2 : Int32) (M : qM), qAE g k zX12_coinsNow (qL j r) 4 [some (.inr (some 77)), some (.inl a1), some (.inl a2)] [] (qL j r, M) (K4 a1 a2 M)) (a1 a2 : Int32) (M : qM) : qAE g k zX12_coinsNow (qL j r) 4 [some (.inr (some 77)), some (.inl a1), some (.inl a2)] [] (qL j r, M) (b_X12_coinsNow_4 n K4 a1 a2 M) := by
  unfold b_X12_coinsNow_4
  refine qr_iload_n o (q_dm dm_X12_coinsNow 4 rfl) rfl ?_
  refine qr_aload_n o (q_dm dm_X12_coinsNow 5 rfl) rfl ?_
  refine qr_getf (kf := 43) o cf_X12 (sh77 j r) rfl (Nat.le_of_ble_eq_true rfl) fl_X12_365 (q_dm dm_X12_coinsNow 6 rfl) ?_
  refine qr_icmp_ge (tgt := 57) o (q_dm dm_X12_coinsNow 7 rfl) (by decide) ?_ ?_
  · refine qr_iload_n o (q_dm dm_X12_coinsNow 35 rfl) rfl ?_
    exact qr_iret o rfl rfl (q_dm dm_X12_coinsNow 36 rfl)
  · refine qr_iload_n o (q_dm dm_X12_coinsNow 8 rfl) rfl ?_
    refine qr_aload_n o (q_dm dm_X12_coinsNow 9 rfl) rfl ?_
    refine qr_getr (kf := 46) o cf_X12 (sh77 j r) rfl (Nat.le_of_ble_eq_true rfl) fl_X12_86 (q_dm dm_X12_coinsNow 10 rfl) ?_
    refine qr_aload_n o (q_dm dm_X12_coinsNow 11 rfl) rfl ?_
    refine qr_getr (kf := 51) o cf_X12 (sh77 j r) rfl (Nat.le_of_ble_eq_true rfl) fl_X12_101 (q_dm dm_X12_coinsNow 12 rfl) ?_
    refine qr_iload_n o (q_dm dm_X12_coinsNow 13 rfl) rfl ?_
    refine qr_iald o (sh108 j r) (q_dm dm_X12_coinsNow 14 rfl) ?_
    refine qr_iald o (sh103 j r) (q_dm dm_X12_coinsNow 15 rfl) ?_
    refine qr_if_le (tgt := 48) o (q_dm dm_X12_coinsNow 16 rfl) (by decide) ?_ ?_
    · refine qr_iconst o (q_dm dm_X12_coinsNow 30 rfl) ic_0 ?_
      exact qr_loc (q_leS (q_leN (q_leS q_le0))) (w_X12_coinsNow_49 n j r hj hr o K4 hK4 a2 a1 (0 : Int32) M)
    · refine qr_aload_n o (q_dm dm_X12_coinsNow 17 rfl) rfl ?_
      refine qr_getr (kf := 46) o cf_X12 (sh77 j r) rfl (Nat.le_of_ble_eq_true rfl) fl_X12_86 (q_dm dm_X12_coinsNow 18 rfl) ?_
      refine qr_aload_n o (q_dm dm_X12_coinsNow 19 rfl) rfl ?_
      refine qr_getr (kf := 51) o cf_X12 (sh77 j r) rfl (Nat.le_of_ble_eq_true rfl) fl_X12_101 (q_dm dm_X12_coinsNow 20 rfl) ?_
      refine qr_iload_n o (q_dm dm_X12_coinsNow 21 rfl) rfl ?_
      refine qr_iald o (sh108 j r) (q_dm dm_X12_coinsNow 22 rfl) ?_
      refine qr_iald o (sh103 j r) (q_dm dm_X12_coinsNow 23 rfl) ?_
      refine qr_aload_n o (q_dm dm_X12_coinsNow 24 rfl) rfl ?_
      refine qr_getr (kf := 52) o cf_X12 (sh77 j r) rfl (Nat.le_of_ble_eq_true rfl) fl_X12_104 (q_dm dm_X12_coinsNow 25 rfl) ?_
      refine qr_iload_n o (q_dm dm_X12_coinsNow 26 rfl) rfl ?_
      refine qr_iald o (sh109 j r) (q_dm dm_X12_coinsNow 27 rfl) ?_
      refine qr_imul o (q_dm dm_X12_coinsNow 28 rfl) ?_
      refine qr_goto (tgt := 49) o (q_dm dm_X12_coinsNow 29 rfl) (by decide) ?_
      exact qr_loc (q_leS (q_leN (q_leS q_le0))) (w_X12_coinsNow_49 n j r hj hr o K4 hK4 a2 a1 ((M 103 (M 108 a2.toNatClampNeg).toNatClampNeg) * (M 109 a2.toNatClampNeg)) M)

def f_X12_coinsNow_4 (n : Nat) : Nat → Int32 → Int32 → qM → qR
  | 0, _, _, _ => none
  | m + 1, a1, a2, M => b_X12_coinsNow_4 n (f_X12_coinsNow_4 n m) a1 a2 M
theorem w_X12_coinsNow_4 {g : qG} {k : qK} (n : Nat) (j r : Nat) (hj : q_isLaw j) (hr : q_isLaw r) (o : qOk g 0 zX12_coinsNow k) : ∀ (m : Nat) (a1 a2 : Int32) (M : qM), qAE g k zX12_coinsNow (qL j r) 4 [some (.inr (some 77)), some (.inl a1), some (.inl a2)] [] (qL j r, M) (f_X12_coinsNow_4 n m a1 a2 M) := by
  intro m
  induction m with
  | zero =>
    intro a1 a2 M
    exact qr_none
  | succ m ih =>
    intro a1 a2 M
    exact wb_X12_coinsNow_4 n j r hj hr o (f_X12_coinsNow_4 n m) ih a1 a2 M
def f_X12_coinsNow (n : Nat) (M : qM) : qR :=
  f_X12_coinsNow_4 n n (0 : Int32) (0 : Int32) M
set_option maxRecDepth 4000 in
theorem w_X12_coinsNow {g : qG} {k : qK} (n : Nat) (j r : Nat) (hj : q_isLaw j) (hr : q_isLaw r) (o : qOk g 0 zX12_coinsNow k) (M : qM) : qAE g k zX12_coinsNow (qL j r) 0 [some (.inr (some 77)), none, none] [] (qL j r, M) (f_X12_coinsNow n  M) := by
  unfold f_X12_coinsNow
  refine qr_iconst o (q_dm dm_X12_coinsNow 0 rfl) ic_0 ?_
  refine qs_istore_n (L' := [some (.inr (some 77)), some (.inl (0 : Int32)), none]) o (q_dm dm_X12_coinsNow 1 rfl) (Nat.le_of_ble_eq_true rfl) rfl ?_
  refine qr_iconst o (q_dm dm_X12_coinsNow 2 rfl) ic_0 ?_
  refine qs_istore_n (L' := [some (.inr (some 77)), some (.inl (0 : Int32)), some (.inl (0 : Int32))]) o (q_dm dm_X12_coinsNow 3 rfl) (Nat.le_of_ble_eq_true rfl) rfl ?_
  exact qr_loc (q_leS (q_leS (q_leS q_le0))) (w_X12_coinsNow_4 n j r hj hr o n (0 : Int32) (0 : Int32) M)

theorem a_X12_coinsNow (g : qG) (l : Launch) (n : Nat) (j r : Nat) (hj : q_isLaw j) (hr : q_isLaw r) (M : qM) : qAM g l 0 zX12_coinsNow (qL j r) [.inr (some 77)] (qL j r, M) (f_X12_coinsNow n  M) :=
  qAM.of zv_X12_coinsNow.1 (by show 1 ≤ 3; decide) (fun k hk o => w_X12_coinsNow n j r hj hr o  M)
def tb_X12_hoursNow : List (Nat × Instr × Nat) := [(0, (.iconst 0, 1)), (1, (.istore_n 1, 1)), (2, (.iconst 0, 1)), (3, (.istore_n 2, 1)), (4, (.iload_n 2, 1)), (5, (.aload_n 0, 1)), (6, (.getfield 365, 3)), (9, (.if_icmp .ge 35, 3)), (12, (.iload_n 1, 1)), (13, (.aload_n 0, 1)), (14, (.getfield 83, 3)), (17, (.aload_n 0, 1)), (18, (.getfield 101, 3)), (21, (.iload_n 2, 1)), (22, (.iaload, 1)), (23, (.iaload, 1)), (24, (.aload_n 0, 1)), (25, (.getfield 19, 3)), (28, (.aload_n 0, 1)), (29, (.getfield 92, 3)), (32, (.iload_n 2, 1)), (33, (.iaload, 1)), (34, (.iaload, 1)), (35, (.imul, 1)), (36, (.iadd, 1)), (37, (.istore_n 1, 1)), (38, (.iinc 2 1, 3)), (41, (.goto (-37), 3)), (44, (.iload_n 1, 1)), (45, (.ireturn, 1))]
theorem dm_X12_hoursNow : ∀ q ∈ tb_X12_hoursNow, decode zX12_hoursNow.2.1 q.1 = .ok q.2 := by decide +kernel
def b_X12_hoursNow_4 (n : Nat) (K4 : Int32 → Int32 → qM → qR) (a1 a2 : Int32) (M : qM) : qR :=
  (if (M 77 43) ≤ a2 then some (a1, M) else qg a2 4 (qg (M 108 a2.toNatClampNeg) 20 (qg a2 4 (qg (M 105 a2.toNatClampNeg) 13 (ql (a1 + ((M 102 (M 108 a2.toNatClampNeg).toNatClampNeg) * (M 81 (M 105 a2.toNatClampNeg).toNatClampNeg))) (fun x1 => ql (a2 + (1 : Int32)) (fun x2 => K4 x1 x2 M)))))))
set_option maxRecDepth 4000 in
theorem wb_X12_hoursNow_4 {g : qG} {k : qK} (n : Nat) (j r : Nat) (hj : q_isLaw j) (hr : q_isLaw r) (o : qOk g 0 zX12_hoursNow k) (K4 : Int32 → Int32 → qM → qR) (hK4 : ∀ (a1 a2 : Int32) (M : qM), qAE g k zX12_hoursNow (qL j r) 4 [some (.inr (some 77)), some (.inl a1), some (.inl a2)] [] (qL j r, M) (K4 a1 a2 M)) (a1 a2 : Int32) (M : qM) : qAE g k zX12_hoursNow (qL j r) 4 [some (.inr (some 77)), some (.inl a1), some (.inl a2)] [] (qL j r, M) (b_X12_hoursNow_4 n K4 a1 a2 M) := by
  unfold b_X12_hoursNow_4
  refine qr_iload_n o (q_dm dm_X12_hoursNow 4 rfl) rfl ?_
  refine qr_aload_n o (q_dm dm_X12_hoursNow 5 rfl) rfl ?_
  refine qr_getf (kf := 43) o cf_X12 (sh77 j r) rfl (Nat.le_of_ble_eq_true rfl) fl_X12_365 (q_dm dm_X12_hoursNow 6 rfl) ?_
  refine qr_icmp_ge (tgt := 44) o (q_dm dm_X12_hoursNow 7 rfl) (by decide) ?_ ?_
  · refine qr_iload_n o (q_dm dm_X12_hoursNow 28 rfl) rfl ?_
    exact qr_iret o rfl rfl (q_dm dm_X12_hoursNow 29 rfl)
  · refine qr_iload_n o (q_dm dm_X12_hoursNow 8 rfl) rfl ?_
    refine qr_aload_n o (q_dm dm_X12_hoursNow 9 rfl) rfl ?_
    refine qr_getr (kf := 45) o cf_X12 (sh77 j r) rfl (Nat.le_of_ble_eq_true rfl) fl_X12_83 (q_dm dm_X12_hoursNow 10 rfl) ?_
    refine qr_aload_n o (q_dm dm_X12_hoursNow 11 rfl) rfl ?_
    refine qr_getr (kf := 51) o cf_X12 (sh77 j r) rfl (Nat.le_of_ble_eq_true rfl) fl_X12_101 (q_dm dm_X12_hoursNow 12 rfl) ?_
    refine qr_iload_n o (q_dm dm_X12_hoursNow 13 rfl) rfl ?_
    refine qr_iald o (sh108 j r) (q_dm dm_X12_hoursNow 14 rfl) ?_
    refine qr_iald o (sh102 j r) (q_dm dm_X12_hoursNow 15 rfl) ?_
    refine qr_aload_n o (q_dm dm_X12_hoursNow 16 rfl) rfl ?_
    refine qr_getr (kf := 3) o cf_X12 (sh77 j r) rfl (Nat.le_of_ble_eq_true rfl) fl_X12_19 (q_dm dm_X12_hoursNow 17 rfl) ?_
    refine qr_aload_n o (q_dm dm_X12_hoursNow 18 rfl) rfl ?_
    refine qr_getr (kf := 48) o cf_X12 (sh77 j r) rfl (Nat.le_of_ble_eq_true rfl) fl_X12_92 (q_dm dm_X12_hoursNow 19 rfl) ?_
    refine qr_iload_n o (q_dm dm_X12_hoursNow 20 rfl) rfl ?_
    refine qr_iald o (sh105 j r) (q_dm dm_X12_hoursNow 21 rfl) ?_
    refine qr_iald o (sh81 j r) (q_dm dm_X12_hoursNow 22 rfl) ?_
    refine qr_imul o (q_dm dm_X12_hoursNow 23 rfl) ?_
    refine qr_iadd o (q_dm dm_X12_hoursNow 24 rfl) ?_
    refine qr_lt (fun x1 => ?_)
    refine qs_istore_n (L' := [some (.inr (some 77)), some (.inl x1), some (.inl a2)]) o (q_dm dm_X12_hoursNow 25 rfl) (Nat.le_of_ble_eq_true rfl) rfl ?_
    refine qs_iincl2 (L' := fun x2 => [some (.inr (some 77)), some (.inl x1), some (.inl x2)]) o (q_dm dm_X12_hoursNow 26 rfl) rfl ic_1 (Nat.le_of_ble_eq_true rfl) (fun _ => rfl) (fun x2 => ?_)
    refine qr_goto (tgt := 4) o (q_dm dm_X12_hoursNow 27 rfl) (by decide) ?_
    exact qr_loc (q_leS (q_leS (q_leS q_le0))) (hK4 x1 x2 M)

def f_X12_hoursNow_4 (n : Nat) : Nat → Int32 → Int32 → qM → qR
  | 0, _, _, _ => none
  | m + 1, a1, a2, M => b_X12_hoursNow_4 n (f_X12_hoursNow_4 n m) a1 a2 M
theorem w_X12_hoursNow_4 {g : qG} {k : qK} (n : Nat) (j r : Nat) (hj : q_isLaw j) (hr : q_isLaw r) (o : qOk g 0 zX12_hoursNow k) : ∀ (m : Nat) (a1 a2 : Int32) (M : qM), qAE g k zX12_hoursNow (qL j r) 4 [some (.inr (some 77)), some (.inl a1), some (.inl a2)] [] (qL j r, M) (f_X12_hoursNow_4 n m a1 a2 M) := by
  intro m
  induction m with
  | zero =>
    intro a1 a2 M
    exact qr_none
  | succ m ih =>
    intro a1 a2 M
    exact wb_X12_hoursNow_4 n j r hj hr o (f_X12_hoursNow_4 n m) ih a1 a2 M
def f_X12_hoursNow (n : Nat) (M : qM) : qR :=
  f_X12_hoursNow_4 n n (0 : Int32) (0 : Int32) M
set_option maxRecDepth 4000 in
theorem w_X12_hoursNow {g : qG} {k : qK} (n : Nat) (j r : Nat) (hj : q_isLaw j) (hr : q_isLaw r) (o : qOk g 0 zX12_hoursNow k) (M : qM) : qAE g k zX12_hoursNow (qL j r) 0 [some (.inr (some 77)), none, none] [] (qL j r, M) (f_X12_hoursNow n  M) := by
  unfold f_X12_hoursNow
  refine qr_iconst o (q_dm dm_X12_hoursNow 0 rfl) ic_0 ?_
  refine qs_istore_n (L' := [some (.inr (some 77)), some (.inl (0 : Int32)), none]) o (q_dm dm_X12_hoursNow 1 rfl) (Nat.le_of_ble_eq_true rfl) rfl ?_
  refine qr_iconst o (q_dm dm_X12_hoursNow 2 rfl) ic_0 ?_
  refine qs_istore_n (L' := [some (.inr (some 77)), some (.inl (0 : Int32)), some (.inl (0 : Int32))]) o (q_dm dm_X12_hoursNow 3 rfl) (Nat.le_of_ble_eq_true rfl) rfl ?_
  exact qr_loc (q_leS (q_leS (q_leS q_le0))) (w_X12_hoursNow_4 n j r hj hr o n (0 : Int32) (0 : Int32) M)

theorem a_X12_hoursNow (g : qG) (l : Launch) (n : Nat) (j r : Nat) (hj : q_isLaw j) (hr : q_isLaw r) (M : qM) : qAM g l 0 zX12_hoursNow (qL j r) [.inr (some 77)] (qL j r, M) (f_X12_hoursNow n  M) :=
  qAM.of zv_X12_hoursNow.1 (by show 1 ≤ 3; decide) (fun k hk o => w_X12_hoursNow n j r hj hr o  M)
def tb_X12_in : List (Nat × Instr × Nat) := [(0, (.iload_n 0, 1)), (1, (.iload_n 1, 1)), (2, (.if_icmp .lt 12, 3)), (5, (.iload_n 0, 1)), (6, (.iload_n 2, 1)), (7, (.if_icmp .gt 7, 3)), (10, (.iconst 1, 1)), (11, (.goto 4, 3)), (14, (.iconst 0, 1)), (15, (.ireturn, 1))]
theorem dm_X12_in : ∀ q ∈ tb_X12_in, decode zX12_in.2.1 q.1 = .ok q.2 := by decide +kernel
def f_X12_in (n : Nat) (a0 a1 a2 : Int32) (M : qM) : qR :=
  (if a0 < a1 then some ((0 : Int32), M) else (if a2 < a0 then some ((0 : Int32), M) else some ((1 : Int32), M)))
set_option maxRecDepth 4000 in
theorem w_X12_in {g : qG} {k : qK} (n : Nat) (j r : Nat) (hj : q_isLaw j) (hr : q_isLaw r) (o : qOk g 0 zX12_in k) (a0 a1 a2 : Int32) (M : qM) : qAE g k zX12_in (qL j r) 0 [some (.inl a0), some (.inl a1), some (.inl a2)] [] (qL j r, M) (f_X12_in n a0 a1 a2 M) := by
  unfold f_X12_in
  refine qr_iload_n o (q_dm dm_X12_in 0 rfl) rfl ?_
  refine qr_iload_n o (q_dm dm_X12_in 1 rfl) rfl ?_
  refine qr_icmp_lt (tgt := 14) o (q_dm dm_X12_in 2 rfl) (by decide) ?_ ?_
  · refine qr_iconst o (q_dm dm_X12_in 8 rfl) ic_0 ?_
    exact qr_iret o rfl (by decide) (q_dm dm_X12_in 9 rfl)
  · refine qr_iload_n o (q_dm dm_X12_in 3 rfl) rfl ?_
    refine qr_iload_n o (q_dm dm_X12_in 4 rfl) rfl ?_
    refine qr_icmp_gt (tgt := 14) o (q_dm dm_X12_in 5 rfl) (by decide) ?_ ?_
    · refine qr_iconst o (q_dm dm_X12_in 8 rfl) ic_0 ?_
      exact qr_iret o rfl (by decide) (q_dm dm_X12_in 9 rfl)
    · refine qr_iconst o (q_dm dm_X12_in 6 rfl) ic_1 ?_
      refine qr_goto (tgt := 15) o (q_dm dm_X12_in 7 rfl) (by decide) ?_
      exact qr_iret o rfl (by decide) (q_dm dm_X12_in 9 rfl)

theorem a_X12_in (g : qG) (l : Launch) (n : Nat) (j r : Nat) (hj : q_isLaw j) (hr : q_isLaw r) (a0 a1 a2 : Int32) (M : qM) : qAM g l 0 zX12_in (qL j r) [.inl a0, .inl a1, .inl a2] (qL j r, M) (f_X12_in n a0 a1 a2 M) :=
  qAM.of zs_X12_in.1 (by show 3 ≤ 3; decide) (fun k hk o => w_X12_in n j r hj hr o a0 a1 a2 M)
def tb_X12_oldOnes : List (Nat × Instr × Nat) := [(0, (.iconst 0, 1)), (1, (.istore_n 3, 1)), (2, (.iconst 0, 1)), (3, (.istore 4, 2)), (5, (.iload 4, 2)), (7, (.bipush 12, 2)), (9, (.if_icmp .ge 60, 3)), (12, (.aload_n 0, 1)), (13, (.iload 4, 2)), (15, (.invokevirtual 157, 3)), (18, (.ifCond .eq 45, 3)), (21, (.aload_n 0, 1)), (22, (.getfield 7, 3)), (25, (.iconst 0, 1)), (26, (.iload_n 1, 1)), (27, (.iload 4, 2)), (29, (.invokestatic 282, 3)), (32, (.iadd, 1)), (33, (.iaload, 1)), (34, (.ifCond .le 29, 3)), (37, (.aload_n 0, 1)), (38, (.iload_n 2, 1)), (39, (.iload 4, 2)), (41, (.invokevirtual 279, 3)), (44, (.ifCond .eq 19, 3)), (47, (.iload_n 3, 1)), (48, (.aload_n 0, 1)), (49, (.getfield 7, 3)), (52, (.iconst 0, 1)), (53, (.iload_n 1, 1)), (54, (.iload 4, 2)), (56, (.invokestatic 282, 3)), (59, (.iadd, 1)), (60, (.iaload, 1)), (61, (.iadd, 1)), (62, (.istore_n 3, 1)), (63, (.iinc 4 1, 3)), (66, (.goto (-61), 3)), (69, (.iload_n 3, 1)), (70, (.ireturn, 1))]
theorem dm_X12_oldOnes : ∀ q ∈ tb_X12_oldOnes, decode zX12_oldOnes.2.1 q.1 = .ok q.2 := by decide +kernel
def b_X12_oldOnes_5 (n : Nat) (K5 : Int32 → Int32 → Int32 → Int32 → qM → qR) (a1 a2 a3 a4 : Int32) (M : qM) : qR :=
  (if (12 : Int32) ≤ a4 then some (a3, M) else qc (f_X12_isKind n a4 M) (fun r1 m2 => (if r1 = (0 : Int32) then ql (a4 + (1 : Int32)) (fun x3 => K5 a1 a2 a3 x3 m2) else qc (f_X12_at n a1 a4 m2) (fun r4 m5 => qg ((0 : Int32) + r4) 954 ((if (m5 78 ((0 : Int32) + r4).toNatClampNeg) ≤ (0 : Int32) then ql (a4 + (1 : Int32)) (fun x6 => K5 a1 a2 a3 x6 m5) else qc (f_X12_isLike n a2 a4 m5) (fun r7 m8 => (if r7 = (0 : Int32) then ql (a4 + (1 : Int32)) (fun x9 => K5 a1 a2 a3 x9 m8) else qc (f_X12_at n a1 a4 m8) (fun r10 m11 => qg ((0 : Int32) + r10) 954 (ql (a3 + (m11 78 ((0 : Int32) + r10).toNatClampNeg)) (fun x12 => ql (a4 + (1 : Int32)) (fun x13 => K5 a1 a2 x12 x13 m11))))))))))))
set_option maxRecDepth 4000 in
theorem wb_X12_oldOnes_5 {g : qG} {k : qK} (n : Nat) (j r : Nat) (hj : q_isLaw j) (hr : q_isLaw r) (o : qOk g 3 zX12_oldOnes k) (K5 : Int32 → Int32 → Int32 → Int32 → qM → qR) (hK5 : ∀ (a1 a2 a3 a4 : Int32) (M : qM), qAE g k zX12_oldOnes (qL j r) 5 [some (.inr (some 77)), some (.inl a1), some (.inl a2), some (.inl a3), some (.inl a4)] [] (qL j r, M) (K5 a1 a2 a3 a4 M)) (a1 a2 a3 a4 : Int32) (M : qM) : qAE g k zX12_oldOnes (qL j r) 5 [some (.inr (some 77)), some (.inl a1), some (.inl a2), some (.inl a3), some (.inl a4)] [] (qL j r, M) (b_X12_oldOnes_5 n K5 a1 a2 a3 a4 M) := by
  unfold b_X12_oldOnes_5
  refine qr_iload o (q_dm dm_X12_oldOnes 4 rfl) rfl ?_
  refine qr_bipush o (q_dm dm_X12_oldOnes 5 rfl) bi_12 ?_
  refine qr_icmp_ge (tgt := 69) o (q_dm dm_X12_oldOnes 6 rfl) (by decide) ?_ ?_
  · refine qr_iload_n o (q_dm dm_X12_oldOnes 38 rfl) rfl ?_
    exact qr_iret o rfl rfl (q_dm dm_X12_oldOnes 39 rfl)
  · refine qr_aload_n o (q_dm dm_X12_oldOnes 7 rfl) rfl ?_
    refine qr_iload o (q_dm dm_X12_oldOnes 8 rfl) rfl ?_
    refine qr_callv_i (As := [.inl a4]) (S := []) o (a_X12_isKind g k.2.1 n j r hj hr a4 M) (Nat.le_of_ble_eq_true rfl) zv_X12_isKind rfl cf_X12 (sh77 j r) ml_X12_157 (Nat.le_of_ble_eq_true rfl) (q_dm dm_X12_oldOnes 9 rfl) (fun r1 m2 => ?_)
    refine qr_if_eq (tgt := 63) o (q_dm dm_X12_oldOnes 10 rfl) (by decide) ?_ ?_
    · refine qs_iincl2 (L' := fun x3 => [some (.inr (some 77)), some (.inl a1), some (.inl a2), some (.inl a3), some (.inl x3)]) o (q_dm dm_X12_oldOnes 36 rfl) rfl ic_1 (Nat.le_of_ble_eq_true rfl) (fun _ => rfl) (fun x3 => ?_)
      refine qr_goto (tgt := 5) o (q_dm dm_X12_oldOnes 37 rfl) (by decide) ?_
      exact qr_loc (q_leS (q_leS (q_leS (q_leS (q_leS q_le0))))) (hK5 a1 a2 a3 x3 m2)
    · refine qr_aload_n o (q_dm dm_X12_oldOnes 11 rfl) rfl ?_
      refine qr_getr (kf := 0) o cf_X12 (sh77 j r) rfl (Nat.le_of_ble_eq_true rfl) fl_X12_7 (q_dm dm_X12_oldOnes 12 rfl) ?_
      refine qr_iconst o (q_dm dm_X12_oldOnes 13 rfl) ic_0 ?_
      refine qr_iload_n o (q_dm dm_X12_oldOnes 14 rfl) rfl ?_
      refine qr_iload o (q_dm dm_X12_oldOnes 15 rfl) rfl ?_
      refine qr_calls_i (As := [.inl a1, .inl a4]) (S := [.inl (0 : Int32), .inr (some 78)]) o (a_X12_at g k.2.1 n j r hj hr a1 a4 m2) (Nat.le_of_ble_eq_true rfl) zs_X12_at rfl ml_X12_282 (Nat.le_of_ble_eq_true rfl) (q_dm dm_X12_oldOnes 16 rfl) (fun r4 m5 => ?_)
      refine qr_iadd o (q_dm dm_X12_oldOnes 17 rfl) ?_
      refine qr_iald o (sh78 j r) (q_dm dm_X12_oldOnes 18 rfl) ?_
      refine qr_if_le (tgt := 63) o (q_dm dm_X12_oldOnes 19 rfl) (by decide) ?_ ?_
      · refine qs_iincl2 (L' := fun x6 => [some (.inr (some 77)), some (.inl a1), some (.inl a2), some (.inl a3), some (.inl x6)]) o (q_dm dm_X12_oldOnes 36 rfl) rfl ic_1 (Nat.le_of_ble_eq_true rfl) (fun _ => rfl) (fun x6 => ?_)
        refine qr_goto (tgt := 5) o (q_dm dm_X12_oldOnes 37 rfl) (by decide) ?_
        exact qr_loc (q_leS (q_leS (q_leS (q_leS (q_leS q_le0))))) (hK5 a1 a2 a3 x6 m5)
      · refine qr_aload_n o (q_dm dm_X12_oldOnes 20 rfl) rfl ?_
        refine qr_iload_n o (q_dm dm_X12_oldOnes 21 rfl) rfl ?_
        refine qr_iload o (q_dm dm_X12_oldOnes 22 rfl) rfl ?_
        refine qr_callv_i (As := [.inl a2, .inl a4]) (S := []) o (a_X12_isLike g k.2.1 n j r hj hr a2 a4 m5) (Nat.le_of_ble_eq_true rfl) zv_X12_isLike rfl cf_X12 (sh77 j r) ml_X12_279 (Nat.le_of_ble_eq_true rfl) (q_dm dm_X12_oldOnes 23 rfl) (fun r7 m8 => ?_)
        refine qr_if_eq (tgt := 63) o (q_dm dm_X12_oldOnes 24 rfl) (by decide) ?_ ?_
        · refine qs_iincl2 (L' := fun x9 => [some (.inr (some 77)), some (.inl a1), some (.inl a2), some (.inl a3), some (.inl x9)]) o (q_dm dm_X12_oldOnes 36 rfl) rfl ic_1 (Nat.le_of_ble_eq_true rfl) (fun _ => rfl) (fun x9 => ?_)
          refine qr_goto (tgt := 5) o (q_dm dm_X12_oldOnes 37 rfl) (by decide) ?_
          exact qr_loc (q_leS (q_leS (q_leS (q_leS (q_leS q_le0))))) (hK5 a1 a2 a3 x9 m8)
        · refine qr_iload_n o (q_dm dm_X12_oldOnes 25 rfl) rfl ?_
          refine qr_aload_n o (q_dm dm_X12_oldOnes 26 rfl) rfl ?_
          refine qr_getr (kf := 0) o cf_X12 (sh77 j r) rfl (Nat.le_of_ble_eq_true rfl) fl_X12_7 (q_dm dm_X12_oldOnes 27 rfl) ?_
          refine qr_iconst o (q_dm dm_X12_oldOnes 28 rfl) ic_0 ?_
          refine qr_iload_n o (q_dm dm_X12_oldOnes 29 rfl) rfl ?_
          refine qr_iload o (q_dm dm_X12_oldOnes 30 rfl) rfl ?_
          refine qr_calls_i (As := [.inl a1, .inl a4]) (S := [.inl (0 : Int32), .inr (some 78), .inl a3]) o (a_X12_at g k.2.1 n j r hj hr a1 a4 m8) (Nat.le_of_ble_eq_true rfl) zs_X12_at rfl ml_X12_282 (Nat.le_of_ble_eq_true rfl) (q_dm dm_X12_oldOnes 31 rfl) (fun r10 m11 => ?_)
          refine qr_iadd o (q_dm dm_X12_oldOnes 32 rfl) ?_
          refine qr_iald o (sh78 j r) (q_dm dm_X12_oldOnes 33 rfl) ?_
          refine qr_iadd o (q_dm dm_X12_oldOnes 34 rfl) ?_
          refine qr_lt (fun x12 => ?_)
          refine qs_istore_n (L' := [some (.inr (some 77)), some (.inl a1), some (.inl a2), some (.inl x12), some (.inl a4)]) o (q_dm dm_X12_oldOnes 35 rfl) (Nat.le_of_ble_eq_true rfl) rfl ?_
          refine qs_iincl2 (L' := fun x13 => [some (.inr (some 77)), some (.inl a1), some (.inl a2), some (.inl x12), some (.inl x13)]) o (q_dm dm_X12_oldOnes 36 rfl) rfl ic_1 (Nat.le_of_ble_eq_true rfl) (fun _ => rfl) (fun x13 => ?_)
          refine qr_goto (tgt := 5) o (q_dm dm_X12_oldOnes 37 rfl) (by decide) ?_
          exact qr_loc (q_leS (q_leS (q_leS (q_leS (q_leS q_le0))))) (hK5 a1 a2 x12 x13 m11)

def f_X12_oldOnes_5 (n : Nat) : Nat → Int32 → Int32 → Int32 → Int32 → qM → qR
  | 0, _, _, _, _, _ => none
  | m + 1, a1, a2, a3, a4, M => b_X12_oldOnes_5 n (f_X12_oldOnes_5 n m) a1 a2 a3 a4 M
theorem w_X12_oldOnes_5 {g : qG} {k : qK} (n : Nat) (j r : Nat) (hj : q_isLaw j) (hr : q_isLaw r) (o : qOk g 3 zX12_oldOnes k) : ∀ (m : Nat) (a1 a2 a3 a4 : Int32) (M : qM), qAE g k zX12_oldOnes (qL j r) 5 [some (.inr (some 77)), some (.inl a1), some (.inl a2), some (.inl a3), some (.inl a4)] [] (qL j r, M) (f_X12_oldOnes_5 n m a1 a2 a3 a4 M) := by
  intro m
  induction m with
  | zero =>
    intro a1 a2 a3 a4 M
    exact qr_none
  | succ m ih =>
    intro a1 a2 a3 a4 M
    exact wb_X12_oldOnes_5 n j r hj hr o (f_X12_oldOnes_5 n m) ih a1 a2 a3 a4 M
def f_X12_oldOnes (n : Nat) (a1 a2 : Int32) (M : qM) : qR :=
  f_X12_oldOnes_5 n n a1 a2 (0 : Int32) (0 : Int32) M
set_option maxRecDepth 4000 in
theorem w_X12_oldOnes {g : qG} {k : qK} (n : Nat) (j r : Nat) (hj : q_isLaw j) (hr : q_isLaw r) (o : qOk g 3 zX12_oldOnes k) (a1 a2 : Int32) (M : qM) : qAE g k zX12_oldOnes (qL j r) 0 [some (.inr (some 77)), some (.inl a1), some (.inl a2), none, none] [] (qL j r, M) (f_X12_oldOnes n a1 a2 M) := by
  unfold f_X12_oldOnes
  refine qr_iconst o (q_dm dm_X12_oldOnes 0 rfl) ic_0 ?_
  refine qs_istore_n (L' := [some (.inr (some 77)), some (.inl a1), some (.inl a2), some (.inl (0 : Int32)), none]) o (q_dm dm_X12_oldOnes 1 rfl) (Nat.le_of_ble_eq_true rfl) rfl ?_
  refine qr_iconst o (q_dm dm_X12_oldOnes 2 rfl) ic_0 ?_
  refine qs_istore (L' := [some (.inr (some 77)), some (.inl a1), some (.inl a2), some (.inl (0 : Int32)), some (.inl (0 : Int32))]) o (q_dm dm_X12_oldOnes 3 rfl) (Nat.le_of_ble_eq_true rfl) rfl ?_
  exact qr_loc (q_leS (q_leS (q_leS (q_leS (q_leS q_le0))))) (w_X12_oldOnes_5 n j r hj hr o n a1 a2 (0 : Int32) (0 : Int32) M)

theorem a_X12_oldOnes (g : qG) (l : Launch) (n : Nat) (j r : Nat) (hj : q_isLaw j) (hr : q_isLaw r) (a1 a2 : Int32) (M : qM) : qAM g l 3 zX12_oldOnes (qL j r) [.inr (some 77), .inl a1, .inl a2] (qL j r, M) (f_X12_oldOnes n a1 a2 M) :=
  qAM.of zv_X12_oldOnes.1 (by show 3 ≤ 5; decide) (fun k hk o => w_X12_oldOnes n j r hj hr o a1 a2 M)
def tb_X12_laysOwn : List (Nat × Instr × Nat) := [(0, (.aload_n 0, 1)), (1, (.iload_n 1, 1)), (2, (.putfield 362, 3)), (5, (.aload_n 0, 1)), (6, (.iconst 0, 1)), (7, (.putfield 365, 3)), (10, (.iconst 0, 1)), (11, (.istore_n 3, 1)), (12, (.iload_n 3, 1)), (13, (.bipush 12, 2)), (15, (.if_icmp .ge 40, 3)), (18, (.iload_n 2, 1)), (19, (.iload_n 3, 1)), (20, (.invokestatic 149, 3)), (23, (.ifCond .ne 6, 3)), (26, (.goto 23, 3)), (29, (.aload_n 0, 1)), (30, (.getfield 92, 3)), (33, (.aload_n 0, 1)), (34, (.getfield 365, 3)), (37, (.iload_n 3, 1)), (38, (.iastore, 1)), (39, (.aload_n 0, 1)), (40, (.aload_n 0, 1)), (41, (.getfield 365, 3)), (44, (.iconst 1, 1)), (45, (.iadd, 1)), (46, (.putfield 365, 3)), (49, (.iinc 3 1, 3)), (52, (.goto (-40), 3)), (55, (.iconst 0, 1)), (56, (.istore_n 3, 1)), (57, (.iload_n 3, 1)), (58, (.aload_n 0, 1)), (59, (.getfield 365, 3)), (62, (.if_icmp .ge 88, 3)), (65, (.aload_n 0, 1)), (66, (.getfield 95, 3)), (69, (.iload_n 3, 1)), (70, (.aload_n 0, 1)), (71, (.iload_n 1, 1)), (72, (.aload_n 0, 1)), (73, (.getfield 92, 3)), (76, (.iload_n 3, 1)), (77, (.iaload, 1)), (78, (.invokevirtual 298, 3)), (81, (.iastore, 1)), (82, (.aload_n 0, 1)), (83, (.getfield 98, 3)), (86, (.iload_n 3, 1)), (87, (.iconst 0, 1)), (88, (.iastore, 1)), (89, (.iconst 0, 1)), (90, (.istore 4, 2)), (92, (.iload 4, 2)), (94, (.aload_n 0, 1)), (95, (.getfield 365, 3)), (98, (.if_icmp .ge 46, 3)), (101, (.aload_n 0, 1)), (102, (.aload_n 0, 1)), (103, (.getfield 92, 3)), (106, (.iload_n 3, 1)), (107, (.iaload, 1)), (108, (.aload_n 0, 1)), (109, (.getfield 92, 3)), (112, (.iload 4, 2)), (114, (.iaload, 1)), (115, (.invokevirtual 279, 3)), (118, (.ifCond .eq 20, 3)), (121, (.aload_n 0, 1)), (122, (.getfield 98, 3)), (125, (.iload_n 3, 1)), (126, (.aload_n 0, 1)), (127, (.getfield 98, 3)), (130, (.iload_n 3, 1)), (131, (.iaload, 1)), (132, (.iconst 1, 1)), (133, (.iload 4, 2)), (135, (.ishl, 1)), (136, (.ior, 1)), (137, (.iastore, 1)), (138, (.iinc 4 1, 3)), (141, (.goto (-49), 3)), (144, (.iinc 3 1, 3)), (147, (.goto (-90), 3)), (150, (.return_, 1))]
theorem dm_X12_laysOwn : ∀ q ∈ tb_X12_laysOwn, decode zX12_laysOwn.2.1 q.1 = .ok q.2 := by decide +kernel
def b_X12_laysOwn_92 (n : Nat) (K57 : Int32 → Int32 → qM → qR) (K92 : Int32 → Int32 → Int32 → qM → qR) (a1 a3 a4 : Int32) (M : qM) : qR :=
  (if (M 77 43) ≤ a4 then ql (a3 + (1 : Int32)) (fun x1 => K57 a1 x1 M) else qg a3 4 (qg a4 4 (qc (f_X12_isLike n (M 105 a3.toNatClampNeg) (M 105 a4.toNatClampNeg) M) (fun r2 m3 => (if r2 = (0 : Int32) then ql (a4 + (1 : Int32)) (fun x4 => K92 a1 a3 x4 m3) else qg a3 4 (qg a3 4 (qlm (mu m3 107 a3.toNatClampNeg ((m3 107 a3.toNatClampNeg) ||| ((1 : Int32) <<< (a4 &&& 31)))) (fun m5 => ql (a4 + (1 : Int32)) (fun x6 => K92 a1 a3 x6 m5)))))))))
set_option maxRecDepth 4000 in
theorem wb_X12_laysOwn_92 {g : qG} {k : qK} (n : Nat) (j r : Nat) (hj : q_isLaw j) (hr : q_isLaw r) (o : qOk g 4 zX12_laysOwn k) (K57 : Int32 → Int32 → qM → qR) (hK57 : ∀ (a1 a3 : Int32) (M : qM), qAE g k zX12_laysOwn (qL j r) 57 [some (.inr (some 77)), some (.inl a1), none, some (.inl a3), none] [] (qL j r, M) (K57 a1 a3 M)) (K92 : Int32 → Int32 → Int32 → qM → qR) (hK92 : ∀ (a1 a3 a4 : Int32) (M : qM), qAE g k zX12_laysOwn (qL j r) 92 [some (.inr (some 77)), some (.inl a1), none, some (.inl a3), some (.inl a4)] [] (qL j r, M) (K92 a1 a3 a4 M)) (a1 a3 a4 : Int32) (M : qM) : qAE g k zX12_laysOwn (qL j r) 92 [some (.inr (some 77)), some (.inl a1), none, some (.inl a3), some (.inl a4)] [] (qL j r, M) (b_X12_laysOwn_92 n K57 K92 a1 a3 a4 M) := by
  unfold b_X12_laysOwn_92
  refine qr_iload o (q_dm dm_X12_laysOwn 54 rfl) rfl ?_
  refine qr_aload_n o (q_dm dm_X12_laysOwn 55 rfl) rfl ?_
  refine qr_getf (kf := 43) o cf_X12 (sh77 j r) rfl (Nat.le_of_ble_eq_true rfl) fl_X12_365 (q_dm dm_X12_laysOwn 56 rfl) ?_
  refine qr_icmp_ge (tgt := 144) o (q_dm dm_X12_laysOwn 57 rfl) (by decide) ?_ ?_
  · refine qs_iincl2 (L' := fun x1 => [some (.inr (some 77)), some (.inl a1), none, some (.inl x1), some (.inl a4)]) o (q_dm dm_X12_laysOwn 83 rfl) rfl ic_1 (Nat.le_of_ble_eq_true rfl) (fun _ => rfl) (fun x1 => ?_)
    refine qr_goto (tgt := 57) o (q_dm dm_X12_laysOwn 84 rfl) (by decide) ?_
    exact qr_loc (q_leS (q_leS (q_leN (q_leS (q_leN q_le0))))) (hK57 a1 x1 M)
  · refine qr_aload_n o (q_dm dm_X12_laysOwn 58 rfl) rfl ?_
    refine qr_aload_n o (q_dm dm_X12_laysOwn 59 rfl) rfl ?_
    refine qr_getr (kf := 48) o cf_X12 (sh77 j r) rfl (Nat.le_of_ble_eq_true rfl) fl_X12_92 (q_dm dm_X12_laysOwn 60 rfl) ?_
    refine qr_iload_n o (q_dm dm_X12_laysOwn 61 rfl) rfl ?_
    refine qr_iald o (sh105 j r) (q_dm dm_X12_laysOwn 62 rfl) ?_
    refine qr_aload_n o (q_dm dm_X12_laysOwn 63 rfl) rfl ?_
    refine qr_getr (kf := 48) o cf_X12 (sh77 j r) rfl (Nat.le_of_ble_eq_true rfl) fl_X12_92 (q_dm dm_X12_laysOwn 64 rfl) ?_
    refine qr_iload o (q_dm dm_X12_laysOwn 65 rfl) rfl ?_
    refine qr_iald o (sh105 j r) (q_dm dm_X12_laysOwn 66 rfl) ?_
    refine qr_callv_i (As := [.inl (M 105 a3.toNatClampNeg), .inl (M 105 a4.toNatClampNeg)]) (S := []) o (a_X12_isLike g k.2.1 n j r hj hr (M 105 a3.toNatClampNeg) (M 105 a4.toNatClampNeg) M) (Nat.le_of_ble_eq_true rfl) zv_X12_isLike rfl cf_X12 (sh77 j r) ml_X12_279 (Nat.le_of_ble_eq_true rfl) (q_dm dm_X12_laysOwn 67 rfl) (fun r2 m3 => ?_)
    refine qr_if_eq (tgt := 138) o (q_dm dm_X12_laysOwn 68 rfl) (by decide) ?_ ?_
    · refine qs_iincl2 (L' := fun x4 => [some (.inr (some 77)), some (.inl a1), none, some (.inl a3), some (.inl x4)]) o (q_dm dm_X12_laysOwn 81 rfl) rfl ic_1 (Nat.le_of_ble_eq_true rfl) (fun _ => rfl) (fun x4 => ?_)
      refine qr_goto (tgt := 92) o (q_dm dm_X12_laysOwn 82 rfl) (by decide) ?_
      exact qr_loc (q_leS (q_leS (q_leN (q_leS (q_leS q_le0))))) (hK92 a1 a3 x4 m3)
    · refine qr_aload_n o (q_dm dm_X12_laysOwn 69 rfl) rfl ?_
      refine qr_getr (kf := 50) o cf_X12 (sh77 j r) rfl (Nat.le_of_ble_eq_true rfl) fl_X12_98 (q_dm dm_X12_laysOwn 70 rfl) ?_
      refine qr_iload_n o (q_dm dm_X12_laysOwn 71 rfl) rfl ?_
      refine qr_aload_n o (q_dm dm_X12_laysOwn 72 rfl) rfl ?_
      refine qr_getr (kf := 50) o cf_X12 (sh77 j r) rfl (Nat.le_of_ble_eq_true rfl) fl_X12_98 (q_dm dm_X12_laysOwn 73 rfl) ?_
      refine qr_iload_n o (q_dm dm_X12_laysOwn 74 rfl) rfl ?_
      refine qr_iald o (sh107 j r) (q_dm dm_X12_laysOwn 75 rfl) ?_
      refine qr_iconst o (q_dm dm_X12_laysOwn 76 rfl) ic_1 ?_
      refine qr_iload o (q_dm dm_X12_laysOwn 77 rfl) rfl ?_
      refine qr_ishl o (q_dm dm_X12_laysOwn 78 rfl) ?_
      refine qr_ior o (q_dm dm_X12_laysOwn 79 rfl) ?_
      refine qr_iast o (sh107 j r) (q_dm dm_X12_laysOwn 80 rfl) ?_
      refine qr_letm (fun m5 => ?_)
      refine qs_iincl2 (L' := fun x6 => [some (.inr (some 77)), some (.inl a1), none, some (.inl a3), some (.inl x6)]) o (q_dm dm_X12_laysOwn 81 rfl) rfl ic_1 (Nat.le_of_ble_eq_true rfl) (fun _ => rfl) (fun x6 => ?_)
      refine qr_goto (tgt := 92) o (q_dm dm_X12_laysOwn 82 rfl) (by decide) ?_
      exact qr_loc (q_leS (q_leS (q_leN (q_leS (q_leS q_le0))))) (hK92 a1 a3 x6 m5)

def f_X12_laysOwn_92 (n : Nat) (K57 : Int32 → Int32 → qM → qR) : Nat → Int32 → Int32 → Int32 → qM → qR
  | 0, _, _, _, _ => none
  | m + 1, a1, a3, a4, M => b_X12_laysOwn_92 n K57 (f_X12_laysOwn_92 n K57 m) a1 a3 a4 M
theorem w_X12_laysOwn_92 {g : qG} {k : qK} (n : Nat) (j r : Nat) (hj : q_isLaw j) (hr : q_isLaw r) (o : qOk g 4 zX12_laysOwn k) (K57 : Int32 → Int32 → qM → qR) (hK57 : ∀ (a1 a3 : Int32) (M : qM), qAE g k zX12_laysOwn (qL j r) 57 [some (.inr (some 77)), some (.inl a1), none, some (.inl a3), none] [] (qL j r, M) (K57 a1 a3 M)) : ∀ (m : Nat) (a1 a3 a4 : Int32) (M : qM), qAE g k zX12_laysOwn (qL j r) 92 [some (.inr (some 77)), some (.inl a1), none, some (.inl a3), some (.inl a4)] [] (qL j r, M) (f_X12_laysOwn_92 n K57 m a1 a3 a4 M) := by
  intro m
  induction m with
  | zero =>
    intro a1 a3 a4 M
    exact qr_none
  | succ m ih =>
    intro a1 a3 a4 M
    exact wb_X12_laysOwn_92 n j r hj hr o K57 hK57 (f_X12_laysOwn_92 n K57 m) ih a1 a3 a4 M
def b_X12_laysOwn_57 (n : Nat) (K57 : Int32 → Int32 → qM → qR) (a1 a3 : Int32) (M : qM) : qR :=
  (if (M 77 43) ≤ a3 then some (0, M) else qg a3 4 (qc (f_X12_oldOnes n a1 (M 105 a3.toNatClampNeg) M) (fun r1 m2 => qg a3 4 (qlm (mu m2 106 a3.toNatClampNeg r1) (fun m3 => qg a3 4 (qlm (mu m3 107 a3.toNatClampNeg (0 : Int32)) (fun m4 => f_X12_laysOwn_92 n K57 n a1 a3 (0 : Int32) m4)))))))
set_option maxRecDepth 4000 in
theorem wb_X12_laysOwn_57 {g : qG} {k : qK} (n : Nat) (j r : Nat) (hj : q_isLaw j) (hr : q_isLaw r) (o : qOk g 4 zX12_laysOwn k) (K57 : Int32 → Int32 → qM → qR) (hK57 : ∀ (a1 a3 : Int32) (M : qM), qAE g k zX12_laysOwn (qL j r) 57 [some (.inr (some 77)), some (.inl a1), none, some (.inl a3), none] [] (qL j r, M) (K57 a1 a3 M)) (a1 a3 : Int32) (M : qM) : qAE g k zX12_laysOwn (qL j r) 57 [some (.inr (some 77)), some (.inl a1), none, some (.inl a3), none] [] (qL j r, M) (b_X12_laysOwn_57 n K57 a1 a3 M) := by
  unfold b_X12_laysOwn_57
  refine qr_iload_n o (q_dm dm_X12_laysOwn 32 rfl) rfl ?_
  refine qr_aload_n o (q_dm dm_X12_laysOwn 33 rfl) rfl ?_
  refine qr_getf (kf := 43) o cf_X12 (sh77 j r) rfl (Nat.le_of_ble_eq_true rfl) fl_X12_365 (q_dm dm_X12_laysOwn 34 rfl) ?_
  refine qr_icmp_ge (tgt := 150) o (q_dm dm_X12_laysOwn 35 rfl) (by decide) ?_ ?_
  · exact qr_vret o rfl (q_dm dm_X12_laysOwn 85 rfl)
  · refine qr_aload_n o (q_dm dm_X12_laysOwn 36 rfl) rfl ?_
    refine qr_getr (kf := 49) o cf_X12 (sh77 j r) rfl (Nat.le_of_ble_eq_true rfl) fl_X12_95 (q_dm dm_X12_laysOwn 37 rfl) ?_
    refine qr_iload_n o (q_dm dm_X12_laysOwn 38 rfl) rfl ?_
    refine qr_aload_n o (q_dm dm_X12_laysOwn 39 rfl) rfl ?_
    refine qr_iload_n o (q_dm dm_X12_laysOwn 40 rfl) rfl ?_
    refine qr_aload_n o (q_dm dm_X12_laysOwn 41 rfl) rfl ?_
    refine qr_getr (kf := 48) o cf_X12 (sh77 j r) rfl (Nat.le_of_ble_eq_true rfl) fl_X12_92 (q_dm dm_X12_laysOwn 42 rfl) ?_
    refine qr_iload_n o (q_dm dm_X12_laysOwn 43 rfl) rfl ?_
    refine qr_iald o (sh105 j r) (q_dm dm_X12_laysOwn 44 rfl) ?_
    refine qr_callv_i (As := [.inl a1, .inl (M 105 a3.toNatClampNeg)]) (S := [.inl a3, .inr (some 106)]) o (a_X12_oldOnes g k.2.1 n j r hj hr a1 (M 105 a3.toNatClampNeg) M) (Nat.le_of_ble_eq_true rfl) zv_X12_oldOnes rfl cf_X12 (sh77 j r) ml_X12_298 (Nat.le_of_ble_eq_true rfl) (q_dm dm_X12_laysOwn 45 rfl) (fun r1 m2 => ?_)
    refine qr_iast o (sh106 j r) (q_dm dm_X12_laysOwn 46 rfl) ?_
    refine qr_letm (fun m3 => ?_)
    refine qr_aload_n o (q_dm dm_X12_laysOwn 47 rfl) rfl ?_
    refine qr_getr (kf := 50) o cf_X12 (sh77 j r) rfl (Nat.le_of_ble_eq_true rfl) fl_X12_98 (q_dm dm_X12_laysOwn 48 rfl) ?_
    refine qr_iload_n o (q_dm dm_X12_laysOwn 49 rfl) rfl ?_
    refine qr_iconst o (q_dm dm_X12_laysOwn 50 rfl) ic_0 ?_
    refine qr_iast o (sh107 j r) (q_dm dm_X12_laysOwn 51 rfl) ?_
    refine qr_letm (fun m4 => ?_)
    refine qr_iconst o (q_dm dm_X12_laysOwn 52 rfl) ic_0 ?_
    refine qs_istore (L' := [some (.inr (some 77)), some (.inl a1), none, some (.inl a3), some (.inl (0 : Int32))]) o (q_dm dm_X12_laysOwn 53 rfl) (Nat.le_of_ble_eq_true rfl) rfl ?_
    exact qr_loc (q_leS (q_leS (q_leN (q_leS (q_leS q_le0))))) (w_X12_laysOwn_92 n j r hj hr o K57 hK57 n a1 a3 (0 : Int32) m4)

def f_X12_laysOwn_57 (n : Nat) : Nat → Int32 → Int32 → qM → qR
  | 0, _, _, _ => none
  | m + 1, a1, a3, M => b_X12_laysOwn_57 n (f_X12_laysOwn_57 n m) a1 a3 M
theorem w_X12_laysOwn_57 {g : qG} {k : qK} (n : Nat) (j r : Nat) (hj : q_isLaw j) (hr : q_isLaw r) (o : qOk g 4 zX12_laysOwn k) : ∀ (m : Nat) (a1 a3 : Int32) (M : qM), qAE g k zX12_laysOwn (qL j r) 57 [some (.inr (some 77)), some (.inl a1), none, some (.inl a3), none] [] (qL j r, M) (f_X12_laysOwn_57 n m a1 a3 M) := by
  intro m
  induction m with
  | zero =>
    intro a1 a3 M
    exact qr_none
  | succ m ih =>
    intro a1 a3 M
    exact wb_X12_laysOwn_57 n j r hj hr o (f_X12_laysOwn_57 n m) ih a1 a3 M
def b_X12_laysOwn_12 (n : Nat) (K12 : Int32 → Int32 → Int32 → qM → qR) (a1 a2 a3 : Int32) (M : qM) : qR :=
  (if (12 : Int32) ≤ a3 then f_X12_laysOwn_57 n n a1 (0 : Int32) M else qc (f_X12_has0 n a2 a3 M) (fun r1 m2 => (if r1 = (0 : Int32) then ql (a3 + (1 : Int32)) (fun x6 => K12 a1 a2 x6 m2) else qg (m2 77 43) 4 (qlm (mu m2 105 (m2 77 43).toNatClampNeg a3) (fun m3 => qlm (mu m3 77 43 ((m3 77 43) + (1 : Int32))) (fun m4 => ql (a3 + (1 : Int32)) (fun x5 => K12 a1 a2 x5 m4)))))))
set_option maxRecDepth 4000 in
theorem wb_X12_laysOwn_12 {g : qG} {k : qK} (n : Nat) (j r : Nat) (hj : q_isLaw j) (hr : q_isLaw r) (o : qOk g 4 zX12_laysOwn k) (K12 : Int32 → Int32 → Int32 → qM → qR) (hK12 : ∀ (a1 a2 a3 : Int32) (M : qM), qAE g k zX12_laysOwn (qL j r) 12 [some (.inr (some 77)), some (.inl a1), some (.inl a2), some (.inl a3), none] [] (qL j r, M) (K12 a1 a2 a3 M)) (a1 a2 a3 : Int32) (M : qM) : qAE g k zX12_laysOwn (qL j r) 12 [some (.inr (some 77)), some (.inl a1), some (.inl a2), some (.inl a3), none] [] (qL j r, M) (b_X12_laysOwn_12 n K12 a1 a2 a3 M) := by
  unfold b_X12_laysOwn_12
  refine qr_iload_n o (q_dm dm_X12_laysOwn 8 rfl) rfl ?_
  refine qr_bipush o (q_dm dm_X12_laysOwn 9 rfl) bi_12 ?_
  refine qr_icmp_ge (tgt := 55) o (q_dm dm_X12_laysOwn 10 rfl) (by decide) ?_ ?_
  · refine qr_iconst o (q_dm dm_X12_laysOwn 30 rfl) ic_0 ?_
    refine qs_istore_n (L' := [some (.inr (some 77)), some (.inl a1), some (.inl a2), some (.inl (0 : Int32)), none]) o (q_dm dm_X12_laysOwn 31 rfl) (Nat.le_of_ble_eq_true rfl) rfl ?_
    exact qr_loc (q_leS (q_leS (q_leN (q_leS (q_leN q_le0))))) (w_X12_laysOwn_57 n j r hj hr o n a1 (0 : Int32) M)
  · refine qr_iload_n o (q_dm dm_X12_laysOwn 11 rfl) rfl ?_
    refine qr_iload_n o (q_dm dm_X12_laysOwn 12 rfl) rfl ?_
    refine qr_calls_i (As := [.inl a2, .inl a3]) (S := []) o (a_X12_has0 g k.2.1 n j r hj hr a2 a3 M) (Nat.le_of_ble_eq_true rfl) zs_X12_has0 rfl ml_X12_149 (Nat.le_of_ble_eq_true rfl) (q_dm dm_X12_laysOwn 13 rfl) (fun r1 m2 => ?_)
    refine qr_if_ne (tgt := 29) o (q_dm dm_X12_laysOwn 14 rfl) (by decide) ?_ ?_
    · refine qr_aload_n o (q_dm dm_X12_laysOwn 16 rfl) rfl ?_
      refine qr_getr (kf := 48) o cf_X12 (sh77 j r) rfl (Nat.le_of_ble_eq_true rfl) fl_X12_92 (q_dm dm_X12_laysOwn 17 rfl) ?_
      refine qr_aload_n o (q_dm dm_X12_laysOwn 18 rfl) rfl ?_
      refine qr_getf (kf := 43) o cf_X12 (sh77 j r) rfl (Nat.le_of_ble_eq_true rfl) fl_X12_365 (q_dm dm_X12_laysOwn 19 rfl) ?_
      refine qr_iload_n o (q_dm dm_X12_laysOwn 20 rfl) rfl ?_
      refine qr_iast o (sh105 j r) (q_dm dm_X12_laysOwn 21 rfl) ?_
      refine qr_letm (fun m3 => ?_)
      refine qr_aload_n o (q_dm dm_X12_laysOwn 22 rfl) rfl ?_
      refine qr_aload_n o (q_dm dm_X12_laysOwn 23 rfl) rfl ?_
      refine qr_getf (kf := 43) o cf_X12 (sh77 j r) rfl (Nat.le_of_ble_eq_true rfl) fl_X12_365 (q_dm dm_X12_laysOwn 24 rfl) ?_
      refine qr_iconst o (q_dm dm_X12_laysOwn 25 rfl) ic_1 ?_
      refine qr_iadd o (q_dm dm_X12_laysOwn 26 rfl) ?_
      refine qr_putf (kf := 43) o cf_X12 (sh77 j r) rfl (Nat.le_of_ble_eq_true rfl) fl_X12_365 rfl (by decide +kernel) (q_dm dm_X12_laysOwn 27 rfl) ?_
      refine qr_letm (fun m4 => ?_)
      refine qs_iincl2 (L' := fun x5 => [some (.inr (some 77)), some (.inl a1), some (.inl a2), some (.inl x5), none]) o (q_dm dm_X12_laysOwn 28 rfl) rfl ic_1 (Nat.le_of_ble_eq_true rfl) (fun _ => rfl) (fun x5 => ?_)
      refine qr_goto (tgt := 12) o (q_dm dm_X12_laysOwn 29 rfl) (by decide) ?_
      exact qr_loc (q_leS (q_leS (q_leS (q_leS (q_leN q_le0))))) (hK12 a1 a2 x5 m4)
    · refine qr_goto (tgt := 49) o (q_dm dm_X12_laysOwn 15 rfl) (by decide) ?_
      refine qs_iincl2 (L' := fun x6 => [some (.inr (some 77)), some (.inl a1), some (.inl a2), some (.inl x6), none]) o (q_dm dm_X12_laysOwn 28 rfl) rfl ic_1 (Nat.le_of_ble_eq_true rfl) (fun _ => rfl) (fun x6 => ?_)
      refine qr_goto (tgt := 12) o (q_dm dm_X12_laysOwn 29 rfl) (by decide) ?_
      exact qr_loc (q_leS (q_leS (q_leS (q_leS (q_leN q_le0))))) (hK12 a1 a2 x6 m2)

def f_X12_laysOwn_12 (n : Nat) : Nat → Int32 → Int32 → Int32 → qM → qR
  | 0, _, _, _, _ => none
  | m + 1, a1, a2, a3, M => b_X12_laysOwn_12 n (f_X12_laysOwn_12 n m) a1 a2 a3 M
theorem w_X12_laysOwn_12 {g : qG} {k : qK} (n : Nat) (j r : Nat) (hj : q_isLaw j) (hr : q_isLaw r) (o : qOk g 4 zX12_laysOwn k) : ∀ (m : Nat) (a1 a2 a3 : Int32) (M : qM), qAE g k zX12_laysOwn (qL j r) 12 [some (.inr (some 77)), some (.inl a1), some (.inl a2), some (.inl a3), none] [] (qL j r, M) (f_X12_laysOwn_12 n m a1 a2 a3 M) := by
  intro m
  induction m with
  | zero =>
    intro a1 a2 a3 M
    exact qr_none
  | succ m ih =>
    intro a1 a2 a3 M
    exact wb_X12_laysOwn_12 n j r hj hr o (f_X12_laysOwn_12 n m) ih a1 a2 a3 M
def f_X12_laysOwn (n : Nat) (a1 a2 : Int32) (M : qM) : qR :=
  qlm (mu M 77 44 a1) (fun m1 => qlm (mu m1 77 43 (0 : Int32)) (fun m2 => f_X12_laysOwn_12 n n a1 a2 (0 : Int32) m2))
set_option maxRecDepth 4000 in
theorem w_X12_laysOwn {g : qG} {k : qK} (n : Nat) (j r : Nat) (hj : q_isLaw j) (hr : q_isLaw r) (o : qOk g 4 zX12_laysOwn k) (a1 a2 : Int32) (M : qM) : qAE g k zX12_laysOwn (qL j r) 0 [some (.inr (some 77)), some (.inl a1), some (.inl a2), none, none] [] (qL j r, M) (f_X12_laysOwn n a1 a2 M) := by
  unfold f_X12_laysOwn
  refine qr_aload_n o (q_dm dm_X12_laysOwn 0 rfl) rfl ?_
  refine qr_iload_n o (q_dm dm_X12_laysOwn 1 rfl) rfl ?_
  refine qr_putf (kf := 44) o cf_X12 (sh77 j r) rfl (Nat.le_of_ble_eq_true rfl) fl_X12_362 rfl (by decide +kernel) (q_dm dm_X12_laysOwn 2 rfl) ?_
  refine qr_letm (fun m1 => ?_)
  refine qr_aload_n o (q_dm dm_X12_laysOwn 3 rfl) rfl ?_
  refine qr_iconst o (q_dm dm_X12_laysOwn 4 rfl) ic_0 ?_
  refine qr_putf (kf := 43) o cf_X12 (sh77 j r) rfl (Nat.le_of_ble_eq_true rfl) fl_X12_365 rfl (by decide +kernel) (q_dm dm_X12_laysOwn 5 rfl) ?_
  refine qr_letm (fun m2 => ?_)
  refine qr_iconst o (q_dm dm_X12_laysOwn 6 rfl) ic_0 ?_
  refine qs_istore_n (L' := [some (.inr (some 77)), some (.inl a1), some (.inl a2), some (.inl (0 : Int32)), none]) o (q_dm dm_X12_laysOwn 7 rfl) (Nat.le_of_ble_eq_true rfl) rfl ?_
  exact qr_loc (q_leS (q_leS (q_leS (q_leS (q_leN q_le0))))) (w_X12_laysOwn_12 n j r hj hr o n a1 a2 (0 : Int32) m2)

theorem a_X12_laysOwn (g : qG) (l : Launch) (n : Nat) (j r : Nat) (hj : q_isLaw j) (hr : q_isLaw r) (a1 a2 : Int32) (M : qM) : qAM g l 4 zX12_laysOwn (qL j r) [.inr (some 77), .inl a1, .inl a2] (qL j r, M) (f_X12_laysOwn n a1 a2 M) :=
  qAM.of zv_X12_laysOwn.1 (by show 3 ≤ 5; decide) (fun k hk o => w_X12_laysOwn n j r hj hr o a1 a2 M)

def tb_X12_leastPrice : List (Nat × Instr × Nat) := [(0, (.ldc_w 398, 3)), (3, (.istore_n 3, 1)), (4, (.iconst 0, 1)), (5, (.istore 4, 2)), (7, (.iload 4, 2)), (9, (.bipush 8, 2)), (11, (.if_icmp .ge 53, 3)), (14, (.aload_n 0, 1)), (15, (.iload 4, 2)), (17, (.invokevirtual 310, 3)), (20, (.ifCond .eq 38, 3)), (23, (.iload 4, 2)), (25, (.iload_n 1, 1)), (26, (.if_icmp .eq 32, 3)), (29, (.aload_n 0, 1)), (30, (.getfield 7, 3)), (33, (.iconst 0, 1)), (34, (.iload 4, 2)), (36, (.iload_n 2, 1)), (37, (.invokestatic 282, 3)), (40, (.iadd, 1)), (41, (.iaload, 1)), (42, (.ifCond .le 16, 3)), (45, (.iload_n 3, 1)), (46, (.aload_n 0, 1)), (47, (.iload_n 1, 1)), (48, (.iload_n 2, 1)), (49, (.iload 4, 2)), (51, (.invokevirtual 316, 3)), (54, (.invokestatic 307, 3)), (57, (.istore_n 3, 1)), (58, (.iinc 4 1, 3)), (61, (.goto (-54), 3)), (64, (.iload_n 3, 1)), (65, (.ireturn, 1))]
theorem dm_X12_leastPrice : ∀ q ∈ tb_X12_leastPrice, decode zX12_leastPrice.2.1 q.1 = .ok q.2 := by decide +kernel
def b_X12_leastPrice_7 (n : Nat) (K7 : Int32 → Int32 → Int32 → Int32 → qM → qR) (a1 a2 a3 a4 : Int32) (M : qM) : qR :=
  (if (8 : Int32) ≤ a4 then some (a3, M) else qc (f_X12_isPerson n a4 M) (fun r1 m2 => (if r1 = (0 : Int32) then ql (a4 + (1 : Int32)) (fun x3 => K7 a1 a2 a3 x3 m2) else (if a4 = a1 then ql (a4 + (1 : Int32)) (fun x4 => K7 a1 a2 a3 x4 m2) else qc (f_X12_at n a4 a2 m2) (fun r5 m6 => qg ((0 : Int32) + r5) 954 ((if (m6 78 ((0 : Int32) + r5).toNatClampNeg) ≤ (0 : Int32) then ql (a4 + (1 : Int32)) (fun x7 => K7 a1 a2 a3 x7 m6) else qc (f_X12_costOf n a1 a2 a4 m6) (fun r8 m9 => qc (f_X12_min n a3 r8 m9) (fun r10 m11 => ql (a4 + (1 : Int32)) (fun x12 => K7 a1 a2 r10 x12 m11))))))))))
set_option maxRecDepth 4000 in
theorem wb_X12_leastPrice_7 {g : qG} {k : qK} (n : Nat) (j r : Nat) (hj : q_isLaw j) (hr : q_isLaw r) (o : qOk g 4 zX12_leastPrice k) (K7 : Int32 → Int32 → Int32 → Int32 → qM → qR) (hK7 : ∀ (a1 a2 a3 a4 : Int32) (M : qM), qAE g k zX12_leastPrice (qL j r) 7 [some (.inr (some 77)), some (.inl a1), some (.inl a2), some (.inl a3), some (.inl a4)] [] (qL j r, M) (K7 a1 a2 a3 a4 M)) (a1 a2 a3 a4 : Int32) (M : qM) : qAE g k zX12_leastPrice (qL j r) 7 [some (.inr (some 77)), some (.inl a1), some (.inl a2), some (.inl a3), some (.inl a4)] [] (qL j r, M) (b_X12_leastPrice_7 n K7 a1 a2 a3 a4 M) := by
  unfold b_X12_leastPrice_7
  refine qr_iload o (q_dm dm_X12_leastPrice 4 rfl) rfl ?_
  refine qr_bipush o (q_dm dm_X12_leastPrice 5 rfl) bi_8 ?_
  refine qr_icmp_ge (tgt := 64) o (q_dm dm_X12_leastPrice 6 rfl) (by decide) ?_ ?_
  · refine qr_iload_n o (q_dm dm_X12_leastPrice 33 rfl) rfl ?_
    exact qr_iret o rfl rfl (q_dm dm_X12_leastPrice 34 rfl)
  · refine qr_aload_n o (q_dm dm_X12_leastPrice 7 rfl) rfl ?_
    refine qr_iload o (q_dm dm_X12_leastPrice 8 rfl) rfl ?_
    refine qr_callv_i (As := [.inl a4]) (S := []) o (a_X12_isPerson g k.2.1 n j r hj hr a4 M) (Nat.le_of_ble_eq_true rfl) zv_X12_isPerson rfl cf_X12 (sh77 j r) ml_X12_310 (Nat.le_of_ble_eq_true rfl) (q_dm dm_X12_leastPrice 9 rfl) (fun r1 m2 => ?_)
    refine qr_if_eq (tgt := 58) o (q_dm dm_X12_leastPrice 10 rfl) (by decide) ?_ ?_
    · refine qs_iincl2 (L' := fun x3 => [some (.inr (some 77)), some (.inl a1), some (.inl a2), some (.inl a3), some (.inl x3)]) o (q_dm dm_X12_leastPrice 31 rfl) rfl ic_1 (Nat.le_of_ble_eq_true rfl) (fun _ => rfl) (fun x3 => ?_)
      refine qr_goto (tgt := 7) o (q_dm dm_X12_leastPrice 32 rfl) (by decide) ?_
      exact qr_loc (q_leS (q_leS (q_leS (q_leS (q_leS q_le0))))) (hK7 a1 a2 a3 x3 m2)
    · refine qr_iload o (q_dm dm_X12_leastPrice 11 rfl) rfl ?_
      refine qr_iload_n o (q_dm dm_X12_leastPrice 12 rfl) rfl ?_
      refine qr_icmp_eq (tgt := 58) o (q_dm dm_X12_leastPrice 13 rfl) (by decide) ?_ ?_
      · refine qs_iincl2 (L' := fun x4 => [some (.inr (some 77)), some (.inl a1), some (.inl a2), some (.inl a3), some (.inl x4)]) o (q_dm dm_X12_leastPrice 31 rfl) rfl ic_1 (Nat.le_of_ble_eq_true rfl) (fun _ => rfl) (fun x4 => ?_)
        refine qr_goto (tgt := 7) o (q_dm dm_X12_leastPrice 32 rfl) (by decide) ?_
        exact qr_loc (q_leS (q_leS (q_leS (q_leS (q_leS q_le0))))) (hK7 a1 a2 a3 x4 m2)
      · refine qr_aload_n o (q_dm dm_X12_leastPrice 14 rfl) rfl ?_
        refine qr_getr (kf := 0) o cf_X12 (sh77 j r) rfl (Nat.le_of_ble_eq_true rfl) fl_X12_7 (q_dm dm_X12_leastPrice 15 rfl) ?_
        refine qr_iconst o (q_dm dm_X12_leastPrice 16 rfl) ic_0 ?_
        refine qr_iload o (q_dm dm_X12_leastPrice 17 rfl) rfl ?_
        refine qr_iload_n o (q_dm dm_X12_leastPrice 18 rfl) rfl ?_
        refine qr_calls_i (As := [.inl a4, .inl a2]) (S := [.inl (0 : Int32), .inr (some 78)]) o (a_X12_at g k.2.1 n j r hj hr a4 a2 m2) (Nat.le_of_ble_eq_true rfl) zs_X12_at rfl ml_X12_282 (Nat.le_of_ble_eq_true rfl) (q_dm dm_X12_leastPrice 19 rfl) (fun r5 m6 => ?_)
        refine qr_iadd o (q_dm dm_X12_leastPrice 20 rfl) ?_
        refine qr_iald o (sh78 j r) (q_dm dm_X12_leastPrice 21 rfl) ?_
        refine qr_if_le (tgt := 58) o (q_dm dm_X12_leastPrice 22 rfl) (by decide) ?_ ?_
        · refine qs_iincl2 (L' := fun x7 => [some (.inr (some 77)), some (.inl a1), some (.inl a2), some (.inl a3), some (.inl x7)]) o (q_dm dm_X12_leastPrice 31 rfl) rfl ic_1 (Nat.le_of_ble_eq_true rfl) (fun _ => rfl) (fun x7 => ?_)
          refine qr_goto (tgt := 7) o (q_dm dm_X12_leastPrice 32 rfl) (by decide) ?_
          exact qr_loc (q_leS (q_leS (q_leS (q_leS (q_leS q_le0))))) (hK7 a1 a2 a3 x7 m6)
        · refine qr_iload_n o (q_dm dm_X12_leastPrice 23 rfl) rfl ?_
          refine qr_aload_n o (q_dm dm_X12_leastPrice 24 rfl) rfl ?_
          refine qr_iload_n o (q_dm dm_X12_leastPrice 25 rfl) rfl ?_
          refine qr_iload_n o (q_dm dm_X12_leastPrice 26 rfl) rfl ?_
          refine qr_iload o (q_dm dm_X12_leastPrice 27 rfl) rfl ?_
          refine qr_callv_i (As := [.inl a1, .inl a2, .inl a4]) (S := [.inl a3]) o (a_X12_costOf g k.2.1 n j r hj hr a1 a2 a4 m6) (Nat.le_of_ble_eq_true rfl) zv_X12_costOf rfl cf_X12 (sh77 j r) ml_X12_316 (Nat.le_of_ble_eq_true rfl) (q_dm dm_X12_leastPrice 28 rfl) (fun r8 m9 => ?_)
          refine qr_calls_i (As := [.inl a3, .inl r8]) (S := []) o (a_X12_min g k.2.1 n j r hj hr a3 r8 m9) (Nat.le_of_ble_eq_true rfl) zs_X12_min rfl ml_X12_307 (Nat.le_of_ble_eq_true rfl) (q_dm dm_X12_leastPrice 29 rfl) (fun r10 m11 => ?_)
          refine qs_istore_n (L' := [some (.inr (some 77)), some (.inl a1), some (.inl a2), some (.inl r10), some (.inl a4)]) o (q_dm dm_X12_leastPrice 30 rfl) (Nat.le_of_ble_eq_true rfl) rfl ?_
          refine qs_iincl2 (L' := fun x12 => [some (.inr (some 77)), some (.inl a1), some (.inl a2), some (.inl r10), some (.inl x12)]) o (q_dm dm_X12_leastPrice 31 rfl) rfl ic_1 (Nat.le_of_ble_eq_true rfl) (fun _ => rfl) (fun x12 => ?_)
          refine qr_goto (tgt := 7) o (q_dm dm_X12_leastPrice 32 rfl) (by decide) ?_
          exact qr_loc (q_leS (q_leS (q_leS (q_leS (q_leS q_le0))))) (hK7 a1 a2 r10 x12 m11)

def f_X12_leastPrice_7 (n : Nat) : Nat → Int32 → Int32 → Int32 → Int32 → qM → qR
  | 0, _, _, _, _, _ => none
  | m + 1, a1, a2, a3, a4, M => b_X12_leastPrice_7 n (f_X12_leastPrice_7 n m) a1 a2 a3 a4 M
theorem w_X12_leastPrice_7 {g : qG} {k : qK} (n : Nat) (j r : Nat) (hj : q_isLaw j) (hr : q_isLaw r) (o : qOk g 4 zX12_leastPrice k) : ∀ (m : Nat) (a1 a2 a3 a4 : Int32) (M : qM), qAE g k zX12_leastPrice (qL j r) 7 [some (.inr (some 77)), some (.inl a1), some (.inl a2), some (.inl a3), some (.inl a4)] [] (qL j r, M) (f_X12_leastPrice_7 n m a1 a2 a3 a4 M) := by
  intro m
  induction m with
  | zero =>
    intro a1 a2 a3 a4 M
    exact qr_none
  | succ m ih =>
    intro a1 a2 a3 a4 M
    exact wb_X12_leastPrice_7 n j r hj hr o (f_X12_leastPrice_7 n m) ih a1 a2 a3 a4 M
def f_X12_leastPrice (n : Nat) (a1 a2 : Int32) (M : qM) : qR :=
  f_X12_leastPrice_7 n n a1 a2 (1000000000 : Int32) (0 : Int32) M
set_option maxRecDepth 4000 in
theorem w_X12_leastPrice {g : qG} {k : qK} (n : Nat) (j r : Nat) (hj : q_isLaw j) (hr : q_isLaw r) (o : qOk g 4 zX12_leastPrice k) (a1 a2 : Int32) (M : qM) : qAE g k zX12_leastPrice (qL j r) 0 [some (.inr (some 77)), some (.inl a1), some (.inl a2), none, none] [] (qL j r, M) (f_X12_leastPrice n a1 a2 M) := by
  unfold f_X12_leastPrice
  refine qr_ldc_w o (q_dm dm_X12_leastPrice 0 rfl) kc_X12_398 ?_
  refine qs_istore_n (L' := [some (.inr (some 77)), some (.inl a1), some (.inl a2), some (.inl (1000000000 : Int32)), none]) o (q_dm dm_X12_leastPrice 1 rfl) (Nat.le_of_ble_eq_true rfl) rfl ?_
  refine qr_iconst o (q_dm dm_X12_leastPrice 2 rfl) ic_0 ?_
  refine qs_istore (L' := [some (.inr (some 77)), some (.inl a1), some (.inl a2), some (.inl (1000000000 : Int32)), some (.inl (0 : Int32))]) o (q_dm dm_X12_leastPrice 3 rfl) (Nat.le_of_ble_eq_true rfl) rfl ?_
  exact qr_loc (q_leS (q_leS (q_leS (q_leS (q_leS q_le0))))) (w_X12_leastPrice_7 n j r hj hr o n a1 a2 (1000000000 : Int32) (0 : Int32) M)

theorem a_X12_leastPrice (g : qG) (l : Launch) (n : Nat) (j r : Nat) (hj : q_isLaw j) (hr : q_isLaw r) (a1 a2 : Int32) (M : qM) : qAM g l 4 zX12_leastPrice (qL j r) [.inr (some 77), .inl a1, .inl a2] (qL j r, M) (f_X12_leastPrice n a1 a2 M) :=
  qAM.of zv_X12_leastPrice.1 (by show 3 ≤ 5; decide) (fun k hk o => w_X12_leastPrice n j r hj hr o a1 a2 M)
def tb_X12_goesNow : List (Nat × Instr × Nat) := [(0, (.iconst 0, 1)), (1, (.istore_n 1, 1)), (2, (.iconst 0, 1)), (3, (.istore_n 2, 1)), (4, (.iload_n 2, 1)), (5, (.aload_n 0, 1)), (6, (.getfield 365, 3)), (9, (.if_icmp .ge 23, 3)), (12, (.iload_n 1, 1)), (13, (.aload_n 0, 1)), (14, (.getfield 86, 3)), (17, (.aload_n 0, 1)), (18, (.getfield 101, 3)), (21, (.iload_n 2, 1)), (22, (.iaload, 1)), (23, (.iaload, 1)), (24, (.iadd, 1)), (25, (.istore_n 1, 1)), (26, (.iinc 2 1, 3)), (29, (.goto (-25), 3)), (32, (.iload_n 1, 1)), (33, (.ireturn, 1))]
theorem dm_X12_goesNow : ∀ q ∈ tb_X12_goesNow, decode zX12_goesNow.2.1 q.1 = .ok q.2 := by decide +kernel
def b_X12_goesNow_4 (n : Nat) (K4 : Int32 → Int32 → qM → qR) (a1 a2 : Int32) (M : qM) : qR :=
  (if (M 77 43) ≤ a2 then some (a1, M) else qg a2 4 (qg (M 108 a2.toNatClampNeg) 20 (ql (a1 + (M 103 (M 108 a2.toNatClampNeg).toNatClampNeg)) (fun x1 => ql (a2 + (1 : Int32)) (fun x2 => K4 x1 x2 M)))))
set_option maxRecDepth 4000 in
theorem wb_X12_goesNow_4 {g : qG} {k : qK} (n : Nat) (j r : Nat) (hj : q_isLaw j) (hr : q_isLaw r) (o : qOk g 0 zX12_goesNow k) (K4 : Int32 → Int32 → qM → qR) (hK4 : ∀ (a1 a2 : Int32) (M : qM), qAE g k zX12_goesNow (qL j r) 4 [some (.inr (some 77)), some (.inl a1), some (.inl a2)] [] (qL j r, M) (K4 a1 a2 M)) (a1 a2 : Int32) (M : qM) : qAE g k zX12_goesNow (qL j r) 4 [some (.inr (some 77)), some (.inl a1), some (.inl a2)] [] (qL j r, M) (b_X12_goesNow_4 n K4 a1 a2 M) := by
  unfold b_X12_goesNow_4
  refine qr_iload_n o (q_dm dm_X12_goesNow 4 rfl) rfl ?_
  refine qr_aload_n o (q_dm dm_X12_goesNow 5 rfl) rfl ?_
  refine qr_getf (kf := 43) o cf_X12 (sh77 j r) rfl (Nat.le_of_ble_eq_true rfl) fl_X12_365 (q_dm dm_X12_goesNow 6 rfl) ?_
  refine qr_icmp_ge (tgt := 32) o (q_dm dm_X12_goesNow 7 rfl) (by decide) ?_ ?_
  · refine qr_iload_n o (q_dm dm_X12_goesNow 20 rfl) rfl ?_
    exact qr_iret o rfl rfl (q_dm dm_X12_goesNow 21 rfl)
  · refine qr_iload_n o (q_dm dm_X12_goesNow 8 rfl) rfl ?_
    refine qr_aload_n o (q_dm dm_X12_goesNow 9 rfl) rfl ?_
    refine qr_getr (kf := 46) o cf_X12 (sh77 j r) rfl (Nat.le_of_ble_eq_true rfl) fl_X12_86 (q_dm dm_X12_goesNow 10 rfl) ?_
    refine qr_aload_n o (q_dm dm_X12_goesNow 11 rfl) rfl ?_
    refine qr_getr (kf := 51) o cf_X12 (sh77 j r) rfl (Nat.le_of_ble_eq_true rfl) fl_X12_101 (q_dm dm_X12_goesNow 12 rfl) ?_
    refine qr_iload_n o (q_dm dm_X12_goesNow 13 rfl) rfl ?_
    refine qr_iald o (sh108 j r) (q_dm dm_X12_goesNow 14 rfl) ?_
    refine qr_iald o (sh103 j r) (q_dm dm_X12_goesNow 15 rfl) ?_
    refine qr_iadd o (q_dm dm_X12_goesNow 16 rfl) ?_
    refine qr_lt (fun x1 => ?_)
    refine qs_istore_n (L' := [some (.inr (some 77)), some (.inl x1), some (.inl a2)]) o (q_dm dm_X12_goesNow 17 rfl) (Nat.le_of_ble_eq_true rfl) rfl ?_
    refine qs_iincl2 (L' := fun x2 => [some (.inr (some 77)), some (.inl x1), some (.inl x2)]) o (q_dm dm_X12_goesNow 18 rfl) rfl ic_1 (Nat.le_of_ble_eq_true rfl) (fun _ => rfl) (fun x2 => ?_)
    refine qr_goto (tgt := 4) o (q_dm dm_X12_goesNow 19 rfl) (by decide) ?_
    exact qr_loc (q_leS (q_leS (q_leS q_le0))) (hK4 x1 x2 M)

def f_X12_goesNow_4 (n : Nat) : Nat → Int32 → Int32 → qM → qR
  | 0, _, _, _ => none
  | m + 1, a1, a2, M => b_X12_goesNow_4 n (f_X12_goesNow_4 n m) a1 a2 M
theorem w_X12_goesNow_4 {g : qG} {k : qK} (n : Nat) (j r : Nat) (hj : q_isLaw j) (hr : q_isLaw r) (o : qOk g 0 zX12_goesNow k) : ∀ (m : Nat) (a1 a2 : Int32) (M : qM), qAE g k zX12_goesNow (qL j r) 4 [some (.inr (some 77)), some (.inl a1), some (.inl a2)] [] (qL j r, M) (f_X12_goesNow_4 n m a1 a2 M) := by
  intro m
  induction m with
  | zero =>
    intro a1 a2 M
    exact qr_none
  | succ m ih =>
    intro a1 a2 M
    exact wb_X12_goesNow_4 n j r hj hr o (f_X12_goesNow_4 n m) ih a1 a2 M
def f_X12_goesNow (n : Nat) (M : qM) : qR :=
  f_X12_goesNow_4 n n (0 : Int32) (0 : Int32) M
set_option maxRecDepth 4000 in
theorem w_X12_goesNow {g : qG} {k : qK} (n : Nat) (j r : Nat) (hj : q_isLaw j) (hr : q_isLaw r) (o : qOk g 0 zX12_goesNow k) (M : qM) : qAE g k zX12_goesNow (qL j r) 0 [some (.inr (some 77)), none, none] [] (qL j r, M) (f_X12_goesNow n  M) := by
  unfold f_X12_goesNow
  refine qr_iconst o (q_dm dm_X12_goesNow 0 rfl) ic_0 ?_
  refine qs_istore_n (L' := [some (.inr (some 77)), some (.inl (0 : Int32)), none]) o (q_dm dm_X12_goesNow 1 rfl) (Nat.le_of_ble_eq_true rfl) rfl ?_
  refine qr_iconst o (q_dm dm_X12_goesNow 2 rfl) ic_0 ?_
  refine qs_istore_n (L' := [some (.inr (some 77)), some (.inl (0 : Int32)), some (.inl (0 : Int32))]) o (q_dm dm_X12_goesNow 3 rfl) (Nat.le_of_ble_eq_true rfl) rfl ?_
  exact qr_loc (q_leS (q_leS (q_leS q_le0))) (w_X12_goesNow_4 n j r hj hr o n (0 : Int32) (0 : Int32) M)

theorem a_X12_goesNow (g : qG) (l : Launch) (n : Nat) (j r : Nat) (hj : q_isLaw j) (hr : q_isLaw r) (M : qM) : qAM g l 0 zX12_goesNow (qL j r) [.inr (some 77)] (qL j r, M) (f_X12_goesNow n  M) :=
  qAM.of zv_X12_goesNow.1 (by show 1 ≤ 3; decide) (fun k hk o => w_X12_goesNow n j r hj hr o  M)
def tb_X12_madeNow : List (Nat × Instr × Nat) := [(0, (.iconst 0, 1)), (1, (.istore_n 1, 1)), (2, (.iconst 0, 1)), (3, (.istore_n 2, 1)), (4, (.iload_n 2, 1)), (5, (.aload_n 0, 1)), (6, (.getfield 365, 3)), (9, (.if_icmp .ge 23, 3)), (12, (.iload_n 1, 1)), (13, (.aload_n 0, 1)), (14, (.getfield 83, 3)), (17, (.aload_n 0, 1)), (18, (.getfield 101, 3)), (21, (.iload_n 2, 1)), (22, (.iaload, 1)), (23, (.iaload, 1)), (24, (.iadd, 1)), (25, (.istore_n 1, 1)), (26, (.iinc 2 1, 3)), (29, (.goto (-25), 3)), (32, (.iload_n 1, 1)), (33, (.ireturn, 1))]
theorem dm_X12_madeNow : ∀ q ∈ tb_X12_madeNow, decode zX12_madeNow.2.1 q.1 = .ok q.2 := by decide +kernel
def b_X12_madeNow_4 (n : Nat) (K4 : Int32 → Int32 → qM → qR) (a1 a2 : Int32) (M : qM) : qR :=
  (if (M 77 43) ≤ a2 then some (a1, M) else qg a2 4 (qg (M 108 a2.toNatClampNeg) 20 (ql (a1 + (M 102 (M 108 a2.toNatClampNeg).toNatClampNeg)) (fun x1 => ql (a2 + (1 : Int32)) (fun x2 => K4 x1 x2 M)))))
set_option maxRecDepth 4000 in
theorem wb_X12_madeNow_4 {g : qG} {k : qK} (n : Nat) (j r : Nat) (hj : q_isLaw j) (hr : q_isLaw r) (o : qOk g 0 zX12_madeNow k) (K4 : Int32 → Int32 → qM → qR) (hK4 : ∀ (a1 a2 : Int32) (M : qM), qAE g k zX12_madeNow (qL j r) 4 [some (.inr (some 77)), some (.inl a1), some (.inl a2)] [] (qL j r, M) (K4 a1 a2 M)) (a1 a2 : Int32) (M : qM) : qAE g k zX12_madeNow (qL j r) 4 [some (.inr (some 77)), some (.inl a1), some (.inl a2)] [] (qL j r, M) (b_X12_madeNow_4 n K4 a1 a2 M) := by
  unfold b_X12_madeNow_4
  refine qr_iload_n o (q_dm dm_X12_madeNow 4 rfl) rfl ?_
  refine qr_aload_n o (q_dm dm_X12_madeNow 5 rfl) rfl ?_
  refine qr_getf (kf := 43) o cf_X12 (sh77 j r) rfl (Nat.le_of_ble_eq_true rfl) fl_X12_365 (q_dm dm_X12_madeNow 6 rfl) ?_
  refine qr_icmp_ge (tgt := 32) o (q_dm dm_X12_madeNow 7 rfl) (by decide) ?_ ?_
  · refine qr_iload_n o (q_dm dm_X12_madeNow 20 rfl) rfl ?_
    exact qr_iret o rfl rfl (q_dm dm_X12_madeNow 21 rfl)
  · refine qr_iload_n o (q_dm dm_X12_madeNow 8 rfl) rfl ?_
    refine qr_aload_n o (q_dm dm_X12_madeNow 9 rfl) rfl ?_
    refine qr_getr (kf := 45) o cf_X12 (sh77 j r) rfl (Nat.le_of_ble_eq_true rfl) fl_X12_83 (q_dm dm_X12_madeNow 10 rfl) ?_
    refine qr_aload_n o (q_dm dm_X12_madeNow 11 rfl) rfl ?_
    refine qr_getr (kf := 51) o cf_X12 (sh77 j r) rfl (Nat.le_of_ble_eq_true rfl) fl_X12_101 (q_dm dm_X12_madeNow 12 rfl) ?_
    refine qr_iload_n o (q_dm dm_X12_madeNow 13 rfl) rfl ?_
    refine qr_iald o (sh108 j r) (q_dm dm_X12_madeNow 14 rfl) ?_
    refine qr_iald o (sh102 j r) (q_dm dm_X12_madeNow 15 rfl) ?_
    refine qr_iadd o (q_dm dm_X12_madeNow 16 rfl) ?_
    refine qr_lt (fun x1 => ?_)
    refine qs_istore_n (L' := [some (.inr (some 77)), some (.inl x1), some (.inl a2)]) o (q_dm dm_X12_madeNow 17 rfl) (Nat.le_of_ble_eq_true rfl) rfl ?_
    refine qs_iincl2 (L' := fun x2 => [some (.inr (some 77)), some (.inl x1), some (.inl x2)]) o (q_dm dm_X12_madeNow 18 rfl) rfl ic_1 (Nat.le_of_ble_eq_true rfl) (fun _ => rfl) (fun x2 => ?_)
    refine qr_goto (tgt := 4) o (q_dm dm_X12_madeNow 19 rfl) (by decide) ?_
    exact qr_loc (q_leS (q_leS (q_leS q_le0))) (hK4 x1 x2 M)

def f_X12_madeNow_4 (n : Nat) : Nat → Int32 → Int32 → qM → qR
  | 0, _, _, _ => none
  | m + 1, a1, a2, M => b_X12_madeNow_4 n (f_X12_madeNow_4 n m) a1 a2 M
theorem w_X12_madeNow_4 {g : qG} {k : qK} (n : Nat) (j r : Nat) (hj : q_isLaw j) (hr : q_isLaw r) (o : qOk g 0 zX12_madeNow k) : ∀ (m : Nat) (a1 a2 : Int32) (M : qM), qAE g k zX12_madeNow (qL j r) 4 [some (.inr (some 77)), some (.inl a1), some (.inl a2)] [] (qL j r, M) (f_X12_madeNow_4 n m a1 a2 M) := by
  intro m
  induction m with
  | zero =>
    intro a1 a2 M
    exact qr_none
  | succ m ih =>
    intro a1 a2 M
    exact wb_X12_madeNow_4 n j r hj hr o (f_X12_madeNow_4 n m) ih a1 a2 M
def f_X12_madeNow (n : Nat) (M : qM) : qR :=
  f_X12_madeNow_4 n n (0 : Int32) (0 : Int32) M
set_option maxRecDepth 4000 in
theorem w_X12_madeNow {g : qG} {k : qK} (n : Nat) (j r : Nat) (hj : q_isLaw j) (hr : q_isLaw r) (o : qOk g 0 zX12_madeNow k) (M : qM) : qAE g k zX12_madeNow (qL j r) 0 [some (.inr (some 77)), none, none] [] (qL j r, M) (f_X12_madeNow n  M) := by
  unfold f_X12_madeNow
  refine qr_iconst o (q_dm dm_X12_madeNow 0 rfl) ic_0 ?_
  refine qs_istore_n (L' := [some (.inr (some 77)), some (.inl (0 : Int32)), none]) o (q_dm dm_X12_madeNow 1 rfl) (Nat.le_of_ble_eq_true rfl) rfl ?_
  refine qr_iconst o (q_dm dm_X12_madeNow 2 rfl) ic_0 ?_
  refine qs_istore_n (L' := [some (.inr (some 77)), some (.inl (0 : Int32)), some (.inl (0 : Int32))]) o (q_dm dm_X12_madeNow 3 rfl) (Nat.le_of_ble_eq_true rfl) rfl ?_
  exact qr_loc (q_leS (q_leS (q_leS q_le0))) (w_X12_madeNow_4 n j r hj hr o n (0 : Int32) (0 : Int32) M)

theorem a_X12_madeNow (g : qG) (l : Launch) (n : Nat) (j r : Nat) (hj : q_isLaw j) (hr : q_isLaw r) (M : qM) : qAM g l 0 zX12_madeNow (qL j r) [.inr (some 77)] (qL j r, M) (f_X12_madeNow n  M) :=
  qAM.of zv_X12_madeNow.1 (by show 1 ≤ 3; decide) (fun k hk o => w_X12_madeNow n j r hj hr o  M)
def tb_X12_takesState : List (Nat × Instr × Nat) := [(0, (.iload_n 1, 1)), (1, (.istore_n 2, 1)), (2, (.iconst 0, 1)), (3, (.istore_n 3, 1)), (4, (.iload_n 3, 1)), (5, (.aload_n 0, 1)), (6, (.getfield 365, 3)), (9, (.if_icmp .ge 24, 3)), (12, (.aload_n 0, 1)), (13, (.getfield 101, 3)), (16, (.iload_n 3, 1)), (17, (.iload_n 2, 1)), (18, (.bipush 20, 2)), (20, (.irem, 1)), (21, (.iastore, 1)), (22, (.iload_n 2, 1)), (23, (.bipush 20, 2)), (25, (.idiv, 1)), (26, (.istore_n 2, 1)), (27, (.iinc 3 1, 3)), (30, (.goto (-26), 3)), (33, (.return_, 1))]
theorem dm_X12_takesState : ∀ q ∈ tb_X12_takesState, decode zX12_takesState.2.1 q.1 = .ok q.2 := by decide +kernel
def b_X12_takesState_4 (n : Nat) (K4 : Int32 → Int32 → qM → qR) (a2 a3 : Int32) (M : qM) : qR :=
  (if (M 77 43) ≤ a3 then some (0, M) else qg a3 4 (qlm (mu M 108 a3.toNatClampNeg (a2 - a2 / (20 : Int32) * (20 : Int32))) (fun m1 => ql (a2 / (20 : Int32)) (fun x2 => ql (a3 + (1 : Int32)) (fun x3 => K4 x2 x3 m1)))))
set_option maxRecDepth 4000 in
theorem wb_X12_takesState_4 {g : qG} {k : qK} (n : Nat) (j r : Nat) (hj : q_isLaw j) (hr : q_isLaw r) (o : qOk g 0 zX12_takesState k) (K4 : Int32 → Int32 → qM → qR) (hK4 : ∀ (a2 a3 : Int32) (M : qM), qAE g k zX12_takesState (qL j r) 4 [some (.inr (some 77)), none, some (.inl a2), some (.inl a3)] [] (qL j r, M) (K4 a2 a3 M)) (a2 a3 : Int32) (M : qM) : qAE g k zX12_takesState (qL j r) 4 [some (.inr (some 77)), none, some (.inl a2), some (.inl a3)] [] (qL j r, M) (b_X12_takesState_4 n K4 a2 a3 M) := by
  unfold b_X12_takesState_4
  refine qr_iload_n o (q_dm dm_X12_takesState 4 rfl) rfl ?_
  refine qr_aload_n o (q_dm dm_X12_takesState 5 rfl) rfl ?_
  refine qr_getf (kf := 43) o cf_X12 (sh77 j r) rfl (Nat.le_of_ble_eq_true rfl) fl_X12_365 (q_dm dm_X12_takesState 6 rfl) ?_
  refine qr_icmp_ge (tgt := 33) o (q_dm dm_X12_takesState 7 rfl) (by decide) ?_ ?_
  · exact qr_vret o rfl (q_dm dm_X12_takesState 21 rfl)
  · refine qr_aload_n o (q_dm dm_X12_takesState 8 rfl) rfl ?_
    refine qr_getr (kf := 51) o cf_X12 (sh77 j r) rfl (Nat.le_of_ble_eq_true rfl) fl_X12_101 (q_dm dm_X12_takesState 9 rfl) ?_
    refine qr_iload_n o (q_dm dm_X12_takesState 10 rfl) rfl ?_
    refine qr_iload_n o (q_dm dm_X12_takesState 11 rfl) rfl ?_
    refine qr_bipush o (q_dm dm_X12_takesState 12 rfl) bi_20 ?_
    refine qr_iremc o (q_dm dm_X12_takesState 13 rfl) (by decide) ?_
    refine qr_iast o (sh108 j r) (q_dm dm_X12_takesState 14 rfl) ?_
    refine qr_letm (fun m1 => ?_)
    refine qr_iload_n o (q_dm dm_X12_takesState 15 rfl) rfl ?_
    refine qr_bipush o (q_dm dm_X12_takesState 16 rfl) bi_20 ?_
    refine qr_idivc o (q_dm dm_X12_takesState 17 rfl) (by decide) ?_
    refine qr_lt (fun x2 => ?_)
    refine qs_istore_n (L' := [some (.inr (some 77)), none, some (.inl x2), some (.inl a3)]) o (q_dm dm_X12_takesState 18 rfl) (Nat.le_of_ble_eq_true rfl) rfl ?_
    refine qs_iincl2 (L' := fun x3 => [some (.inr (some 77)), none, some (.inl x2), some (.inl x3)]) o (q_dm dm_X12_takesState 19 rfl) rfl ic_1 (Nat.le_of_ble_eq_true rfl) (fun _ => rfl) (fun x3 => ?_)
    refine qr_goto (tgt := 4) o (q_dm dm_X12_takesState 20 rfl) (by decide) ?_
    exact qr_loc (q_leS (q_leN (q_leS (q_leS q_le0)))) (hK4 x2 x3 m1)

def f_X12_takesState_4 (n : Nat) : Nat → Int32 → Int32 → qM → qR
  | 0, _, _, _ => none
  | m + 1, a2, a3, M => b_X12_takesState_4 n (f_X12_takesState_4 n m) a2 a3 M
theorem w_X12_takesState_4 {g : qG} {k : qK} (n : Nat) (j r : Nat) (hj : q_isLaw j) (hr : q_isLaw r) (o : qOk g 0 zX12_takesState k) : ∀ (m : Nat) (a2 a3 : Int32) (M : qM), qAE g k zX12_takesState (qL j r) 4 [some (.inr (some 77)), none, some (.inl a2), some (.inl a3)] [] (qL j r, M) (f_X12_takesState_4 n m a2 a3 M) := by
  intro m
  induction m with
  | zero =>
    intro a2 a3 M
    exact qr_none
  | succ m ih =>
    intro a2 a3 M
    exact wb_X12_takesState_4 n j r hj hr o (f_X12_takesState_4 n m) ih a2 a3 M
def f_X12_takesState (n : Nat) (a1 : Int32) (M : qM) : qR :=
  f_X12_takesState_4 n n a1 (0 : Int32) M
set_option maxRecDepth 4000 in
theorem w_X12_takesState {g : qG} {k : qK} (n : Nat) (j r : Nat) (hj : q_isLaw j) (hr : q_isLaw r) (o : qOk g 0 zX12_takesState k) (a1 : Int32) (M : qM) : qAE g k zX12_takesState (qL j r) 0 [some (.inr (some 77)), some (.inl a1), none, none] [] (qL j r, M) (f_X12_takesState n a1 M) := by
  unfold f_X12_takesState
  refine qr_iload_n o (q_dm dm_X12_takesState 0 rfl) rfl ?_
  refine qs_istore_n (L' := [some (.inr (some 77)), some (.inl a1), some (.inl a1), none]) o (q_dm dm_X12_takesState 1 rfl) (Nat.le_of_ble_eq_true rfl) rfl ?_
  refine qr_iconst o (q_dm dm_X12_takesState 2 rfl) ic_0 ?_
  refine qs_istore_n (L' := [some (.inr (some 77)), some (.inl a1), some (.inl a1), some (.inl (0 : Int32))]) o (q_dm dm_X12_takesState 3 rfl) (Nat.le_of_ble_eq_true rfl) rfl ?_
  exact qr_loc (q_leS (q_leN (q_leS (q_leS q_le0)))) (w_X12_takesState_4 n j r hj hr o n a1 (0 : Int32) M)

theorem a_X12_takesState (g : qG) (l : Launch) (n : Nat) (j r : Nat) (hj : q_isLaw j) (hr : q_isLaw r) (a1 : Int32) (M : qM) : qAM g l 0 zX12_takesState (qL j r) [.inr (some 77), .inl a1] (qL j r, M) (f_X12_takesState n a1 M) :=
  qAM.of zv_X12_takesState.1 (by show 2 ≤ 4; decide) (fun k hk o => w_X12_takesState n j r hj hr o a1 M)
def tb_X12_marksBought : List (Nat × Instr × Nat) := [(0, (.iconst 0, 1)), (1, (.istore_n 2, 1)), (2, (.iload_n 2, 1)), (3, (.iload_n 1, 1)), (4, (.if_icmp .ge 98, 3)), (7, (.aload_n 0, 1)), (8, (.iload_n 2, 1)), (9, (.invokevirtual 399, 3)), (12, (.aload_n 0, 1)), (13, (.invokevirtual 405, 3)), (16, (.ifCond .ne 15, 3)), (19, (.aload_n 0, 1)), (20, (.invokevirtual 374, 3)), (23, (.iconst 3, 1)), (24, (.if_icmp .gt 7, 3)), (27, (.iconst 1, 1)), (28, (.goto 4, 3)), (31, (.iconst 0, 1)), (32, (.istore_n 3, 1)), (33, (.iconst 0, 1)), (34, (.istore 4, 2)), (36, (.iload 4, 2)), (38, (.aload_n 0, 1)), (39, (.getfield 365, 3)), (42, (.if_icmp .ge 47, 3)), (45, (.iload_n 3, 1)), (46, (.ifCond .eq 35, 3)), (49, (.aload_n 0, 1)), (50, (.getfield 86, 3)), (53, (.aload_n 0, 1)), (54, (.getfield 101, 3)), (57, (.iload 4, 2)), (59, (.iaload, 1)), (60, (.iaload, 1)), (61, (.ifCond .eq 16, 3)), (64, (.aload_n 0, 1)), (65, (.getfield 104, 3)), (68, (.iload 4, 2)), (70, (.iaload, 1)), (71, (.ldc_w 398, 3)), (74, (.if_icmp .ge 7, 3)), (77, (.iconst 1, 1)), (78, (.goto 4, 3)), (81, (.iconst 0, 1)), (82, (.istore_n 3, 1)), (83, (.iinc 4 1, 3)), (86, (.goto (-50), 3)), (89, (.aload_n 0, 1)), (90, (.getfield 108, 3)), (93, (.iload_n 2, 1)), (94, (.iload_n 3, 1)), (95, (.bastore, 1)), (96, (.iinc 2 1, 3)), (99, (.goto (-97), 3)), (102, (.return_, 1))]
theorem dm_X12_marksBought : ∀ q ∈ tb_X12_marksBought, decode zX12_marksBought.2.1 q.1 = .ok q.2 := by decide +kernel
def f_X12_marksBought_81 (n : Nat) (K2 : Int32 → Int32 → qM → qR) (K36 : Int32 → Int32 → Int32 → Int32 → qM → qR) (a1 a2 a4 : Int32) (M : qM) : qR :=
  ql (a4 + (1 : Int32)) (fun x1 => K36 a1 a2 (0 : Int32) x1 M)
set_option maxRecDepth 4000 in
theorem w_X12_marksBought_81 {g : qG} {k : qK} (n : Nat) (j r : Nat) (hj : q_isLaw j) (hr : q_isLaw r) (o : qOk g 1 zX12_marksBought k) (K2 : Int32 → Int32 → qM → qR) (hK2 : ∀ (a1 a2 : Int32) (M : qM), qAE g k zX12_marksBought (qL j r) 2 [some (.inr (some 77)), some (.inl a1), some (.inl a2), none, none] [] (qL j r, M) (K2 a1 a2 M)) (K36 : Int32 → Int32 → Int32 → Int32 → qM → qR) (hK36 : ∀ (a1 a2 a3 a4 : Int32) (M : qM), qAE g k zX12_marksBought (qL j r) 36 [some (.inr (some 77)), some (.inl a1), some (.inl a2), some (.inl a3), some (.inl a4)] [] (qL j r, M) (K36 a1 a2 a3 a4 M)) (a1 a2 a4 : Int32) (M : qM) : qAE g k zX12_marksBought (qL j r) 81 [some (.inr (some 77)), some (.inl a1), some (.inl a2), none, some (.inl a4)] [] (qL j r, M) (f_X12_marksBought_81 n K2 K36 a1 a2 a4 M) := by
  unfold f_X12_marksBought_81
  refine qr_iconst o (q_dm dm_X12_marksBought 43 rfl) ic_0 ?_
  refine qs_istore_n (L' := [some (.inr (some 77)), some (.inl a1), some (.inl a2), some (.inl (0 : Int32)), some (.inl a4)]) o (q_dm dm_X12_marksBought 44 rfl) (Nat.le_of_ble_eq_true rfl) rfl ?_
  refine qs_iincl2 (L' := fun x1 => [some (.inr (some 77)), some (.inl a1), some (.inl a2), some (.inl (0 : Int32)), some (.inl x1)]) o (q_dm dm_X12_marksBought 45 rfl) rfl ic_1 (Nat.le_of_ble_eq_true rfl) (fun _ => rfl) (fun x1 => ?_)
  refine qr_goto (tgt := 36) o (q_dm dm_X12_marksBought 46 rfl) (by decide) ?_
  exact qr_loc (q_leS (q_leS (q_leS (q_leS (q_leS q_le0))))) (hK36 a1 a2 (0 : Int32) x1 M)

def b_X12_marksBought_36 (n : Nat) (K2 : Int32 → Int32 → qM → qR) (K36 : Int32 → Int32 → Int32 → Int32 → qM → qR) (a1 a2 a3 a4 : Int32) (M : qM) : qR :=
  (if (M 77 43) ≤ a4 then qg a2 160000 (qlm (mu M 110 a2.toNatClampNeg (vp_nar .boolean a3)) (fun m1 => ql (a2 + (1 : Int32)) (fun x2 => K2 a1 x2 m1))) else (if a3 = (0 : Int32) then f_X12_marksBought_81 n K2 K36 a1 a2 a4 M else qg a4 4 (qg (M 108 a4.toNatClampNeg) 20 ((if (M 103 (M 108 a4.toNatClampNeg).toNatClampNeg) = (0 : Int32) then ql (a4 + (1 : Int32)) (fun x3 => K36 a1 a2 (1 : Int32) x3 M) else qg a4 4 ((if (1000000000 : Int32) ≤ (M 109 a4.toNatClampNeg) then f_X12_marksBought_81 n K2 K36 a1 a2 a4 M else ql (a4 + (1 : Int32)) (fun x4 => K36 a1 a2 (1 : Int32) x4 M))))))))
set_option maxRecDepth 4000 in
theorem wb_X12_marksBought_36 {g : qG} {k : qK} (n : Nat) (j r : Nat) (hj : q_isLaw j) (hr : q_isLaw r) (o : qOk g 1 zX12_marksBought k) (K2 : Int32 → Int32 → qM → qR) (hK2 : ∀ (a1 a2 : Int32) (M : qM), qAE g k zX12_marksBought (qL j r) 2 [some (.inr (some 77)), some (.inl a1), some (.inl a2), none, none] [] (qL j r, M) (K2 a1 a2 M)) (K36 : Int32 → Int32 → Int32 → Int32 → qM → qR) (hK36 : ∀ (a1 a2 a3 a4 : Int32) (M : qM), qAE g k zX12_marksBought (qL j r) 36 [some (.inr (some 77)), some (.inl a1), some (.inl a2), some (.inl a3), some (.inl a4)] [] (qL j r, M) (K36 a1 a2 a3 a4 M)) (a1 a2 a3 a4 : Int32) (M : qM) : qAE g k zX12_marksBought (qL j r) 36 [some (.inr (some 77)), some (.inl a1), some (.inl a2), some (.inl a3), some (.inl a4)] [] (qL j r, M) (b_X12_marksBought_36 n K2 K36 a1 a2 a3 a4 M) := by
  unfold b_X12_marksBought_36
  refine qr_iload o (q_dm dm_X12_marksBought 21 rfl) rfl ?_
  refine qr_aload_n o (q_dm dm_X12_marksBought 22 rfl) rfl ?_
  refine qr_getf (kf := 43) o cf_X12 (sh77 j r) rfl (Nat.le_of_ble_eq_true rfl) fl_X12_365 (q_dm dm_X12_marksBought 23 rfl) ?_
  refine qr_icmp_ge (tgt := 89) o (q_dm dm_X12_marksBought 24 rfl) (by decide) ?_ ?_
  · refine qr_aload_n o (q_dm dm_X12_marksBought 47 rfl) rfl ?_
    refine qr_getr (kf := 53) o cf_X12 (sh77 j r) rfl (Nat.le_of_ble_eq_true rfl) fl_X12_108 (q_dm dm_X12_marksBought 48 rfl) ?_
    refine qr_iload_n o (q_dm dm_X12_marksBought 49 rfl) rfl ?_
    refine qr_iload_n o (q_dm dm_X12_marksBought 50 rfl) rfl ?_
    refine qr_zast o (sh110 j r) (q_dm dm_X12_marksBought 51 rfl) ?_
    refine qr_letm (fun m1 => ?_)
    refine qs_iincl2 (L' := fun x2 => [some (.inr (some 77)), some (.inl a1), some (.inl x2), some (.inl a3), some (.inl a4)]) o (q_dm dm_X12_marksBought 52 rfl) rfl ic_1 (Nat.le_of_ble_eq_true rfl) (fun _ => rfl) (fun x2 => ?_)
    refine qr_goto (tgt := 2) o (q_dm dm_X12_marksBought 53 rfl) (by decide) ?_
    exact qr_loc (q_leS (q_leS (q_leS (q_leN (q_leN q_le0))))) (hK2 a1 x2 m1)
  · refine qr_iload_n o (q_dm dm_X12_marksBought 25 rfl) rfl ?_
    refine qr_if_eq (tgt := 81) o (q_dm dm_X12_marksBought 26 rfl) (by decide) ?_ ?_
    · exact qr_loc (q_leS (q_leS (q_leS (q_leN (q_leS q_le0))))) (w_X12_marksBought_81 n j r hj hr o K2 hK2 K36 hK36 a1 a2 a4 M)
    · refine qr_aload_n o (q_dm dm_X12_marksBought 27 rfl) rfl ?_
      refine qr_getr (kf := 46) o cf_X12 (sh77 j r) rfl (Nat.le_of_ble_eq_true rfl) fl_X12_86 (q_dm dm_X12_marksBought 28 rfl) ?_
      refine qr_aload_n o (q_dm dm_X12_marksBought 29 rfl) rfl ?_
      refine qr_getr (kf := 51) o cf_X12 (sh77 j r) rfl (Nat.le_of_ble_eq_true rfl) fl_X12_101 (q_dm dm_X12_marksBought 30 rfl) ?_
      refine qr_iload o (q_dm dm_X12_marksBought 31 rfl) rfl ?_
      refine qr_iald o (sh108 j r) (q_dm dm_X12_marksBought 32 rfl) ?_
      refine qr_iald o (sh103 j r) (q_dm dm_X12_marksBought 33 rfl) ?_
      refine qr_if_eq (tgt := 77) o (q_dm dm_X12_marksBought 34 rfl) (by decide) ?_ ?_
      · refine qr_iconst o (q_dm dm_X12_marksBought 41 rfl) ic_1 ?_
        refine qr_goto (tgt := 82) o (q_dm dm_X12_marksBought 42 rfl) (by decide) ?_
        refine qs_istore_n (L' := [some (.inr (some 77)), some (.inl a1), some (.inl a2), some (.inl (1 : Int32)), some (.inl a4)]) o (q_dm dm_X12_marksBought 44 rfl) (Nat.le_of_ble_eq_true rfl) rfl ?_
        refine qs_iincl2 (L' := fun x3 => [some (.inr (some 77)), some (.inl a1), some (.inl a2), some (.inl (1 : Int32)), some (.inl x3)]) o (q_dm dm_X12_marksBought 45 rfl) rfl ic_1 (Nat.le_of_ble_eq_true rfl) (fun _ => rfl) (fun x3 => ?_)
        refine qr_goto (tgt := 36) o (q_dm dm_X12_marksBought 46 rfl) (by decide) ?_
        exact qr_loc (q_leS (q_leS (q_leS (q_leS (q_leS q_le0))))) (hK36 a1 a2 (1 : Int32) x3 M)
      · refine qr_aload_n o (q_dm dm_X12_marksBought 35 rfl) rfl ?_
        refine qr_getr (kf := 52) o cf_X12 (sh77 j r) rfl (Nat.le_of_ble_eq_true rfl) fl_X12_104 (q_dm dm_X12_marksBought 36 rfl) ?_
        refine qr_iload o (q_dm dm_X12_marksBought 37 rfl) rfl ?_
        refine qr_iald o (sh109 j r) (q_dm dm_X12_marksBought 38 rfl) ?_
        refine qr_ldc_w o (q_dm dm_X12_marksBought 39 rfl) kc_X12_398 ?_
        refine qr_icmp_ge (tgt := 81) o (q_dm dm_X12_marksBought 40 rfl) (by decide) ?_ ?_
        · exact qr_loc (q_leS (q_leS (q_leS (q_leN (q_leS q_le0))))) (w_X12_marksBought_81 n j r hj hr o K2 hK2 K36 hK36 a1 a2 a4 M)
        · refine qr_iconst o (q_dm dm_X12_marksBought 41 rfl) ic_1 ?_
          refine qr_goto (tgt := 82) o (q_dm dm_X12_marksBought 42 rfl) (by decide) ?_
          refine qs_istore_n (L' := [some (.inr (some 77)), some (.inl a1), some (.inl a2), some (.inl (1 : Int32)), some (.inl a4)]) o (q_dm dm_X12_marksBought 44 rfl) (Nat.le_of_ble_eq_true rfl) rfl ?_
          refine qs_iincl2 (L' := fun x4 => [some (.inr (some 77)), some (.inl a1), some (.inl a2), some (.inl (1 : Int32)), some (.inl x4)]) o (q_dm dm_X12_marksBought 45 rfl) rfl ic_1 (Nat.le_of_ble_eq_true rfl) (fun _ => rfl) (fun x4 => ?_)
          refine qr_goto (tgt := 36) o (q_dm dm_X12_marksBought 46 rfl) (by decide) ?_
          exact qr_loc (q_leS (q_leS (q_leS (q_leS (q_leS q_le0))))) (hK36 a1 a2 (1 : Int32) x4 M)

def f_X12_marksBought_36 (n : Nat) (K2 : Int32 → Int32 → qM → qR) : Nat → Int32 → Int32 → Int32 → Int32 → qM → qR
  | 0, _, _, _, _, _ => none
  | m + 1, a1, a2, a3, a4, M => b_X12_marksBought_36 n K2 (f_X12_marksBought_36 n K2 m) a1 a2 a3 a4 M
theorem w_X12_marksBought_36 {g : qG} {k : qK} (n : Nat) (j r : Nat) (hj : q_isLaw j) (hr : q_isLaw r) (o : qOk g 1 zX12_marksBought k) (K2 : Int32 → Int32 → qM → qR) (hK2 : ∀ (a1 a2 : Int32) (M : qM), qAE g k zX12_marksBought (qL j r) 2 [some (.inr (some 77)), some (.inl a1), some (.inl a2), none, none] [] (qL j r, M) (K2 a1 a2 M)) : ∀ (m : Nat) (a1 a2 a3 a4 : Int32) (M : qM), qAE g k zX12_marksBought (qL j r) 36 [some (.inr (some 77)), some (.inl a1), some (.inl a2), some (.inl a3), some (.inl a4)] [] (qL j r, M) (f_X12_marksBought_36 n K2 m a1 a2 a3 a4 M) := by
  intro m
  induction m with
  | zero =>
    intro a1 a2 a3 a4 M
    exact qr_none
  | succ m ih =>
    intro a1 a2 a3 a4 M
    exact wb_X12_marksBought_36 n j r hj hr o K2 hK2 (f_X12_marksBought_36 n K2 m) ih a1 a2 a3 a4 M
def f_X12_marksBought_32 (n : Nat) (K2 : Int32 → Int32 → qM → qR) (a1 a2 s0 : Int32) (M : qM) : qR :=
  f_X12_marksBought_36 n K2 n a1 a2 s0 (0 : Int32) M
set_option maxRecDepth 4000 in
theorem w_X12_marksBought_32 {g : qG} {k : qK} (n : Nat) (j r : Nat) (hj : q_isLaw j) (hr : q_isLaw r) (o : qOk g 1 zX12_marksBought k) (K2 : Int32 → Int32 → qM → qR) (hK2 : ∀ (a1 a2 : Int32) (M : qM), qAE g k zX12_marksBought (qL j r) 2 [some (.inr (some 77)), some (.inl a1), some (.inl a2), none, none] [] (qL j r, M) (K2 a1 a2 M)) (a1 a2 s0 : Int32) (M : qM) : qAE g k zX12_marksBought (qL j r) 32 [some (.inr (some 77)), some (.inl a1), some (.inl a2), none, none] [.inl s0] (qL j r, M) (f_X12_marksBought_32 n K2 a1 a2 s0 M) := by
  unfold f_X12_marksBought_32
  refine qs_istore_n (L' := [some (.inr (some 77)), some (.inl a1), some (.inl a2), some (.inl s0), none]) o (q_dm dm_X12_marksBought 18 rfl) (Nat.le_of_ble_eq_true rfl) rfl ?_
  refine qr_iconst o (q_dm dm_X12_marksBought 19 rfl) ic_0 ?_
  refine qs_istore (L' := [some (.inr (some 77)), some (.inl a1), some (.inl a2), some (.inl s0), some (.inl (0 : Int32))]) o (q_dm dm_X12_marksBought 20 rfl) (Nat.le_of_ble_eq_true rfl) rfl ?_
  exact qr_loc (q_leS (q_leS (q_leS (q_leS (q_leS q_le0))))) (w_X12_marksBought_36 n j r hj hr o K2 hK2 n a1 a2 s0 (0 : Int32) M)

def f_X12_marksBought_31 (n : Nat) (K2 : Int32 → Int32 → qM → qR) (a1 a2 : Int32) (M : qM) : qR :=
  f_X12_marksBought_32 n K2 a1 a2 (0 : Int32) M
set_option maxRecDepth 4000 in
theorem w_X12_marksBought_31 {g : qG} {k : qK} (n : Nat) (j r : Nat) (hj : q_isLaw j) (hr : q_isLaw r) (o : qOk g 1 zX12_marksBought k) (K2 : Int32 → Int32 → qM → qR) (hK2 : ∀ (a1 a2 : Int32) (M : qM), qAE g k zX12_marksBought (qL j r) 2 [some (.inr (some 77)), some (.inl a1), some (.inl a2), none, none] [] (qL j r, M) (K2 a1 a2 M)) (a1 a2 : Int32) (M : qM) : qAE g k zX12_marksBought (qL j r) 31 [some (.inr (some 77)), some (.inl a1), some (.inl a2), none, none] [] (qL j r, M) (f_X12_marksBought_31 n K2 a1 a2 M) := by
  unfold f_X12_marksBought_31
  refine qr_iconst o (q_dm dm_X12_marksBought 17 rfl) ic_0 ?_
  exact qr_loc (q_leS (q_leS (q_leS (q_leN (q_leN q_le0))))) (w_X12_marksBought_32 n j r hj hr o K2 hK2 a1 a2 (0 : Int32) M)

def b_X12_marksBought_2 (n : Nat) (K2 : Int32 → Int32 → qM → qR) (a1 a2 : Int32) (M : qM) : qR :=
  (if a1 ≤ a2 then some (0, M) else qc (f_X12_takesState n a2 M) (fun _ m1 => qc (f_X12_madeNow n  m1) (fun r2 m3 => (if r2 = (0 : Int32) then qc (f_X12_goesNow n  m3) (fun r4 m5 => (if (3 : Int32) < r4 then f_X12_marksBought_31 n K2 a1 a2 m5 else f_X12_marksBought_32 n K2 a1 a2 (1 : Int32) m5)) else f_X12_marksBought_31 n K2 a1 a2 m3))))
set_option maxRecDepth 4000 in
theorem wb_X12_marksBought_2 {g : qG} {k : qK} (n : Nat) (j r : Nat) (hj : q_isLaw j) (hr : q_isLaw r) (o : qOk g 1 zX12_marksBought k) (K2 : Int32 → Int32 → qM → qR) (hK2 : ∀ (a1 a2 : Int32) (M : qM), qAE g k zX12_marksBought (qL j r) 2 [some (.inr (some 77)), some (.inl a1), some (.inl a2), none, none] [] (qL j r, M) (K2 a1 a2 M)) (a1 a2 : Int32) (M : qM) : qAE g k zX12_marksBought (qL j r) 2 [some (.inr (some 77)), some (.inl a1), some (.inl a2), none, none] [] (qL j r, M) (b_X12_marksBought_2 n K2 a1 a2 M) := by
  unfold b_X12_marksBought_2
  refine qr_iload_n o (q_dm dm_X12_marksBought 2 rfl) rfl ?_
  refine qr_iload_n o (q_dm dm_X12_marksBought 3 rfl) rfl ?_
  refine qr_icmp_ge (tgt := 102) o (q_dm dm_X12_marksBought 4 rfl) (by decide) ?_ ?_
  · exact qr_vret o rfl (q_dm dm_X12_marksBought 54 rfl)
  · refine qr_aload_n o (q_dm dm_X12_marksBought 5 rfl) rfl ?_
    refine qr_iload_n o (q_dm dm_X12_marksBought 6 rfl) rfl ?_
    refine qr_callv_v (As := [.inl a2]) (S := []) o (a_X12_takesState g k.2.1 n j r hj hr a2 M) (Nat.le_of_ble_eq_true rfl) zv_X12_takesState rfl cf_X12 (sh77 j r) ml_X12_399 (Nat.le_of_ble_eq_true rfl) (q_dm dm_X12_marksBought 7 rfl) (fun _ m1 => ?_)
    refine qr_aload_n o (q_dm dm_X12_marksBought 8 rfl) rfl ?_
    refine qr_callv_i (As := []) (S := []) o (a_X12_madeNow g k.2.1 n j r hj hr  m1) (Nat.le_of_ble_eq_true rfl) zv_X12_madeNow rfl cf_X12 (sh77 j r) ml_X12_405 (Nat.le_of_ble_eq_true rfl) (q_dm dm_X12_marksBought 9 rfl) (fun r2 m3 => ?_)
    refine qr_if_ne (tgt := 31) o (q_dm dm_X12_marksBought 10 rfl) (by decide) ?_ ?_
    · exact qr_loc (q_leS (q_leS (q_leS (q_leN (q_leN q_le0))))) (w_X12_marksBought_31 n j r hj hr o K2 hK2 a1 a2 m3)
    · refine qr_aload_n o (q_dm dm_X12_marksBought 11 rfl) rfl ?_
      refine qr_callv_i (As := []) (S := []) o (a_X12_goesNow g k.2.1 n j r hj hr  m3) (Nat.le_of_ble_eq_true rfl) zv_X12_goesNow rfl cf_X12 (sh77 j r) ml_X12_374 (Nat.le_of_ble_eq_true rfl) (q_dm dm_X12_marksBought 12 rfl) (fun r4 m5 => ?_)
      refine qr_iconst o (q_dm dm_X12_marksBought 13 rfl) ic_3 ?_
      refine qr_icmp_gt (tgt := 31) o (q_dm dm_X12_marksBought 14 rfl) (by decide) ?_ ?_
      · exact qr_loc (q_leS (q_leS (q_leS (q_leN (q_leN q_le0))))) (w_X12_marksBought_31 n j r hj hr o K2 hK2 a1 a2 m5)
      · refine qr_iconst o (q_dm dm_X12_marksBought 15 rfl) ic_1 ?_
        refine qr_goto (tgt := 32) o (q_dm dm_X12_marksBought 16 rfl) (by decide) ?_
        exact qr_loc (q_leS (q_leS (q_leS (q_leN (q_leN q_le0))))) (w_X12_marksBought_32 n j r hj hr o K2 hK2 a1 a2 (1 : Int32) m5)

def f_X12_marksBought_2 (n : Nat) : Nat → Int32 → Int32 → qM → qR
  | 0, _, _, _ => none
  | m + 1, a1, a2, M => b_X12_marksBought_2 n (f_X12_marksBought_2 n m) a1 a2 M
theorem w_X12_marksBought_2 {g : qG} {k : qK} (n : Nat) (j r : Nat) (hj : q_isLaw j) (hr : q_isLaw r) (o : qOk g 1 zX12_marksBought k) : ∀ (m : Nat) (a1 a2 : Int32) (M : qM), qAE g k zX12_marksBought (qL j r) 2 [some (.inr (some 77)), some (.inl a1), some (.inl a2), none, none] [] (qL j r, M) (f_X12_marksBought_2 n m a1 a2 M) := by
  intro m
  induction m with
  | zero =>
    intro a1 a2 M
    exact qr_none
  | succ m ih =>
    intro a1 a2 M
    exact wb_X12_marksBought_2 n j r hj hr o (f_X12_marksBought_2 n m) ih a1 a2 M
def f_X12_marksBought (n : Nat) (a1 : Int32) (M : qM) : qR :=
  f_X12_marksBought_2 n n a1 (0 : Int32) M
set_option maxRecDepth 4000 in
theorem w_X12_marksBought {g : qG} {k : qK} (n : Nat) (j r : Nat) (hj : q_isLaw j) (hr : q_isLaw r) (o : qOk g 1 zX12_marksBought k) (a1 : Int32) (M : qM) : qAE g k zX12_marksBought (qL j r) 0 [some (.inr (some 77)), some (.inl a1), none, none, none] [] (qL j r, M) (f_X12_marksBought n a1 M) := by
  unfold f_X12_marksBought
  refine qr_iconst o (q_dm dm_X12_marksBought 0 rfl) ic_0 ?_
  refine qs_istore_n (L' := [some (.inr (some 77)), some (.inl a1), some (.inl (0 : Int32)), none, none]) o (q_dm dm_X12_marksBought 1 rfl) (Nat.le_of_ble_eq_true rfl) rfl ?_
  exact qr_loc (q_leS (q_leS (q_leS (q_leN (q_leN q_le0))))) (w_X12_marksBought_2 n j r hj hr o n a1 (0 : Int32) M)

theorem a_X12_marksBought (g : qG) (l : Launch) (n : Nat) (j r : Nat) (hj : q_isLaw j) (hr : q_isLaw r) (a1 : Int32) (M : qM) : qAM g l 1 zX12_marksBought (qL j r) [.inr (some 77), .inl a1] (qL j r, M) (f_X12_marksBought n a1 M) :=
  qAM.of zv_X12_marksBought.1 (by show 2 ≤ 5; decide) (fun k hk o => w_X12_marksBought n j r hj hr o a1 M)
def tb_X12_placeOf : List (Nat × Instr × Nat) := [(0, (.iconst 0, 1)), (1, (.istore_n 2, 1)), (2, (.aload_n 0, 1)), (3, (.getfield 92, 3)), (6, (.iload_n 2, 1)), (7, (.iaload, 1)), (8, (.iload_n 1, 1)), (9, (.if_icmp .eq 10, 3)), (12, (.iload_n 2, 1)), (13, (.iconst 1, 1)), (14, (.iadd, 1)), (15, (.istore_n 2, 1)), (16, (.goto (-14), 3)), (19, (.iload_n 2, 1)), (20, (.ireturn, 1))]
theorem dm_X12_placeOf : ∀ q ∈ tb_X12_placeOf, decode zX12_placeOf.2.1 q.1 = .ok q.2 := by decide +kernel
def b_X12_placeOf_2 (n : Nat) (K2 : Int32 → Int32 → qM → qR) (a1 a2 : Int32) (M : qM) : qR :=
  qg a2 4 ((if (M 105 a2.toNatClampNeg) = a1 then some (a2, M) else ql (a2 + (1 : Int32)) (fun x1 => K2 a1 x1 M)))
set_option maxRecDepth 4000 in
theorem wb_X12_placeOf_2 {g : qG} {k : qK} (n : Nat) (j r : Nat) (hj : q_isLaw j) (hr : q_isLaw r) (o : qOk g 0 zX12_placeOf k) (K2 : Int32 → Int32 → qM → qR) (hK2 : ∀ (a1 a2 : Int32) (M : qM), qAE g k zX12_placeOf (qL j r) 2 [some (.inr (some 77)), some (.inl a1), some (.inl a2)] [] (qL j r, M) (K2 a1 a2 M)) (a1 a2 : Int32) (M : qM) : qAE g k zX12_placeOf (qL j r) 2 [some (.inr (some 77)), some (.inl a1), some (.inl a2)] [] (qL j r, M) (b_X12_placeOf_2 n K2 a1 a2 M) := by
  unfold b_X12_placeOf_2
  refine qr_aload_n o (q_dm dm_X12_placeOf 2 rfl) rfl ?_
  refine qr_getr (kf := 48) o cf_X12 (sh77 j r) rfl (Nat.le_of_ble_eq_true rfl) fl_X12_92 (q_dm dm_X12_placeOf 3 rfl) ?_
  refine qr_iload_n o (q_dm dm_X12_placeOf 4 rfl) rfl ?_
  refine qr_iald o (sh105 j r) (q_dm dm_X12_placeOf 5 rfl) ?_
  refine qr_iload_n o (q_dm dm_X12_placeOf 6 rfl) rfl ?_
  refine qr_icmp_eq (tgt := 19) o (q_dm dm_X12_placeOf 7 rfl) (by decide) ?_ ?_
  · refine qr_iload_n o (q_dm dm_X12_placeOf 13 rfl) rfl ?_
    exact qr_iret o rfl rfl (q_dm dm_X12_placeOf 14 rfl)
  · refine qr_iload_n o (q_dm dm_X12_placeOf 8 rfl) rfl ?_
    refine qr_iconst o (q_dm dm_X12_placeOf 9 rfl) ic_1 ?_
    refine qr_iadd o (q_dm dm_X12_placeOf 10 rfl) ?_
    refine qr_lt (fun x1 => ?_)
    refine qs_istore_n (L' := [some (.inr (some 77)), some (.inl a1), some (.inl x1)]) o (q_dm dm_X12_placeOf 11 rfl) (Nat.le_of_ble_eq_true rfl) rfl ?_
    refine qr_goto (tgt := 2) o (q_dm dm_X12_placeOf 12 rfl) (by decide) ?_
    exact qr_loc (q_leS (q_leS (q_leS q_le0))) (hK2 a1 x1 M)

def f_X12_placeOf_2 (n : Nat) : Nat → Int32 → Int32 → qM → qR
  | 0, _, _, _ => none
  | m + 1, a1, a2, M => b_X12_placeOf_2 n (f_X12_placeOf_2 n m) a1 a2 M
theorem w_X12_placeOf_2 {g : qG} {k : qK} (n : Nat) (j r : Nat) (hj : q_isLaw j) (hr : q_isLaw r) (o : qOk g 0 zX12_placeOf k) : ∀ (m : Nat) (a1 a2 : Int32) (M : qM), qAE g k zX12_placeOf (qL j r) 2 [some (.inr (some 77)), some (.inl a1), some (.inl a2)] [] (qL j r, M) (f_X12_placeOf_2 n m a1 a2 M) := by
  intro m
  induction m with
  | zero =>
    intro a1 a2 M
    exact qr_none
  | succ m ih =>
    intro a1 a2 M
    exact wb_X12_placeOf_2 n j r hj hr o (f_X12_placeOf_2 n m) ih a1 a2 M
def f_X12_placeOf (n : Nat) (a1 : Int32) (M : qM) : qR :=
  f_X12_placeOf_2 n n a1 (0 : Int32) M
set_option maxRecDepth 4000 in
theorem w_X12_placeOf {g : qG} {k : qK} (n : Nat) (j r : Nat) (hj : q_isLaw j) (hr : q_isLaw r) (o : qOk g 0 zX12_placeOf k) (a1 : Int32) (M : qM) : qAE g k zX12_placeOf (qL j r) 0 [some (.inr (some 77)), some (.inl a1), none] [] (qL j r, M) (f_X12_placeOf n a1 M) := by
  unfold f_X12_placeOf
  refine qr_iconst o (q_dm dm_X12_placeOf 0 rfl) ic_0 ?_
  refine qs_istore_n (L' := [some (.inr (some 77)), some (.inl a1), some (.inl (0 : Int32))]) o (q_dm dm_X12_placeOf 1 rfl) (Nat.le_of_ble_eq_true rfl) rfl ?_
  exact qr_loc (q_leS (q_leS (q_leS q_le0))) (w_X12_placeOf_2 n j r hj hr o n a1 (0 : Int32) M)

theorem a_X12_placeOf (g : qG) (l : Launch) (n : Nat) (j r : Nat) (hj : q_isLaw j) (hr : q_isLaw r) (a1 : Int32) (M : qM) : qAM g l 0 zX12_placeOf (qL j r) [.inr (some 77), .inl a1] (qL j r, M) (f_X12_placeOf n a1 M) :=
  qAM.of zv_X12_placeOf.1 (by show 2 ≤ 3; decide) (fun k hk o => w_X12_placeOf n j r hj hr o a1 M)
def tb_X12_stateNow : List (Nat × Instr × Nat) := [(0, (.iconst 0, 1)), (1, (.istore_n 1, 1)), (2, (.aload_n 0, 1)), (3, (.getfield 365, 3)), (6, (.iconst 1, 1)), (7, (.isub, 1)), (8, (.istore_n 2, 1)), (9, (.iload_n 2, 1)), (10, (.ifCond .lt 21, 3)), (13, (.bipush 20, 2)), (15, (.iload_n 1, 1)), (16, (.imul, 1)), (17, (.aload_n 0, 1)), (18, (.getfield 101, 3)), (21, (.iload_n 2, 1)), (22, (.iaload, 1)), (23, (.iadd, 1)), (24, (.istore_n 1, 1)), (25, (.iinc 2 (-1), 3)), (28, (.goto (-19), 3)), (31, (.iload_n 1, 1)), (32, (.ireturn, 1))]
theorem dm_X12_stateNow : ∀ q ∈ tb_X12_stateNow, decode zX12_stateNow.2.1 q.1 = .ok q.2 := by decide +kernel
def b_X12_stateNow_9 (n : Nat) (K9 : Int32 → Int32 → qM → qR) (a1 a2 : Int32) (M : qM) : qR :=
  (if a2 < (0 : Int32) then some (a1, M) else qg a2 4 (ql (((20 : Int32) * a1) + (M 108 a2.toNatClampNeg)) (fun x1 => ql (a2 + (-1 : Int32)) (fun x2 => K9 x1 x2 M))))
set_option maxRecDepth 4000 in
theorem wb_X12_stateNow_9 {g : qG} {k : qK} (n : Nat) (j r : Nat) (hj : q_isLaw j) (hr : q_isLaw r) (o : qOk g 0 zX12_stateNow k) (K9 : Int32 → Int32 → qM → qR) (hK9 : ∀ (a1 a2 : Int32) (M : qM), qAE g k zX12_stateNow (qL j r) 9 [some (.inr (some 77)), some (.inl a1), some (.inl a2)] [] (qL j r, M) (K9 a1 a2 M)) (a1 a2 : Int32) (M : qM) : qAE g k zX12_stateNow (qL j r) 9 [some (.inr (some 77)), some (.inl a1), some (.inl a2)] [] (qL j r, M) (b_X12_stateNow_9 n K9 a1 a2 M) := by
  unfold b_X12_stateNow_9
  refine qr_iload_n o (q_dm dm_X12_stateNow 7 rfl) rfl ?_
  refine qr_if_lt (tgt := 31) o (q_dm dm_X12_stateNow 8 rfl) (by decide) ?_ ?_
  · refine qr_iload_n o (q_dm dm_X12_stateNow 20 rfl) rfl ?_
    exact qr_iret o rfl rfl (q_dm dm_X12_stateNow 21 rfl)
  · refine qr_bipush o (q_dm dm_X12_stateNow 9 rfl) bi_20 ?_
    refine qr_iload_n o (q_dm dm_X12_stateNow 10 rfl) rfl ?_
    refine qr_imul o (q_dm dm_X12_stateNow 11 rfl) ?_
    refine qr_aload_n o (q_dm dm_X12_stateNow 12 rfl) rfl ?_
    refine qr_getr (kf := 51) o cf_X12 (sh77 j r) rfl (Nat.le_of_ble_eq_true rfl) fl_X12_101 (q_dm dm_X12_stateNow 13 rfl) ?_
    refine qr_iload_n o (q_dm dm_X12_stateNow 14 rfl) rfl ?_
    refine qr_iald o (sh108 j r) (q_dm dm_X12_stateNow 15 rfl) ?_
    refine qr_iadd o (q_dm dm_X12_stateNow 16 rfl) ?_
    refine qr_lt (fun x1 => ?_)
    refine qs_istore_n (L' := [some (.inr (some 77)), some (.inl x1), some (.inl a2)]) o (q_dm dm_X12_stateNow 17 rfl) (Nat.le_of_ble_eq_true rfl) rfl ?_
    refine qs_iincl2 (L' := fun x2 => [some (.inr (some 77)), some (.inl x1), some (.inl x2)]) o (q_dm dm_X12_stateNow 18 rfl) rfl ic_m1 (Nat.le_of_ble_eq_true rfl) (fun _ => rfl) (fun x2 => ?_)
    refine qr_goto (tgt := 9) o (q_dm dm_X12_stateNow 19 rfl) (by decide) ?_
    exact qr_loc (q_leS (q_leS (q_leS q_le0))) (hK9 x1 x2 M)

def f_X12_stateNow_9 (n : Nat) : Nat → Int32 → Int32 → qM → qR
  | 0, _, _, _ => none
  | m + 1, a1, a2, M => b_X12_stateNow_9 n (f_X12_stateNow_9 n m) a1 a2 M
theorem w_X12_stateNow_9 {g : qG} {k : qK} (n : Nat) (j r : Nat) (hj : q_isLaw j) (hr : q_isLaw r) (o : qOk g 0 zX12_stateNow k) : ∀ (m : Nat) (a1 a2 : Int32) (M : qM), qAE g k zX12_stateNow (qL j r) 9 [some (.inr (some 77)), some (.inl a1), some (.inl a2)] [] (qL j r, M) (f_X12_stateNow_9 n m a1 a2 M) := by
  intro m
  induction m with
  | zero =>
    intro a1 a2 M
    exact qr_none
  | succ m ih =>
    intro a1 a2 M
    exact wb_X12_stateNow_9 n j r hj hr o (f_X12_stateNow_9 n m) ih a1 a2 M
def f_X12_stateNow (n : Nat) (M : qM) : qR :=
  ql ((M 77 43) - (1 : Int32)) (fun x1 => f_X12_stateNow_9 n n (0 : Int32) x1 M)
set_option maxRecDepth 4000 in
theorem w_X12_stateNow {g : qG} {k : qK} (n : Nat) (j r : Nat) (hj : q_isLaw j) (hr : q_isLaw r) (o : qOk g 0 zX12_stateNow k) (M : qM) : qAE g k zX12_stateNow (qL j r) 0 [some (.inr (some 77)), none, none] [] (qL j r, M) (f_X12_stateNow n  M) := by
  unfold f_X12_stateNow
  refine qr_iconst o (q_dm dm_X12_stateNow 0 rfl) ic_0 ?_
  refine qs_istore_n (L' := [some (.inr (some 77)), some (.inl (0 : Int32)), none]) o (q_dm dm_X12_stateNow 1 rfl) (Nat.le_of_ble_eq_true rfl) rfl ?_
  refine qr_aload_n o (q_dm dm_X12_stateNow 2 rfl) rfl ?_
  refine qr_getf (kf := 43) o cf_X12 (sh77 j r) rfl (Nat.le_of_ble_eq_true rfl) fl_X12_365 (q_dm dm_X12_stateNow 3 rfl) ?_
  refine qr_iconst o (q_dm dm_X12_stateNow 4 rfl) ic_1 ?_
  refine qr_isub o (q_dm dm_X12_stateNow 5 rfl) ?_
  refine qr_lt (fun x1 => ?_)
  refine qs_istore_n (L' := [some (.inr (some 77)), some (.inl (0 : Int32)), some (.inl x1)]) o (q_dm dm_X12_stateNow 6 rfl) (Nat.le_of_ble_eq_true rfl) rfl ?_
  exact qr_loc (q_leS (q_leS (q_leS q_le0))) (w_X12_stateNow_9 n j r hj hr o n (0 : Int32) x1 M)

theorem a_X12_stateNow (g : qG) (l : Launch) (n : Nat) (j r : Nat) (hj : q_isLaw j) (hr : q_isLaw r) (M : qM) : qAM g l 0 zX12_stateNow (qL j r) [.inr (some 77)] (qL j r, M) (f_X12_stateNow n  M) :=
  qAM.of zv_X12_stateNow.1 (by show 1 ≤ 3; decide) (fun k hk o => w_X12_stateNow n j r hj hr o  M)
def tb_X12_marks : List (Nat × Instr × Nat) := [(0, (.aload_n 0, 1)), (1, (.getfield 101, 3)), (4, (.iload_n 1, 1)), (5, (.iaload, 1)), (6, (.istore_n 3, 1)), (7, (.aload_n 0, 1)), (8, (.getfield 101, 3)), (11, (.iload_n 1, 1)), (12, (.iload_n 2, 1)), (13, (.iastore, 1)), (14, (.aload_n 0, 1)), (15, (.getfield 108, 3)), (18, (.aload_n 0, 1)), (19, (.invokevirtual 371, 3)), (22, (.iconst 1, 1)), (23, (.bastore, 1)), (24, (.aload_n 0, 1)), (25, (.getfield 101, 3)), (28, (.iload_n 1, 1)), (29, (.iload_n 3, 1)), (30, (.iastore, 1)), (31, (.return_, 1))]
theorem dm_X12_marks : ∀ q ∈ tb_X12_marks, decode zX12_marks.2.1 q.1 = .ok q.2 := by decide +kernel
def f_X12_marks (n : Nat) (a1 a2 : Int32) (M : qM) : qR :=
  qg a1 4 (ql (M 108 a1.toNatClampNeg) (fun x1 => qg a1 4 (qlm (mu M 108 a1.toNatClampNeg a2) (fun m2 => qc (f_X12_stateNow n  m2) (fun r3 m4 => qg r3 160000 (qlm (mu m4 110 r3.toNatClampNeg (vp_nar .boolean (1 : Int32))) (fun m5 => qg a1 4 (qlm (mu m5 108 a1.toNatClampNeg x1) (fun m6 => some (0, m6))))))))))
set_option maxRecDepth 4000 in
theorem w_X12_marks {g : qG} {k : qK} (n : Nat) (j r : Nat) (hj : q_isLaw j) (hr : q_isLaw r) (o : qOk g 1 zX12_marks k) (a1 a2 : Int32) (M : qM) : qAE g k zX12_marks (qL j r) 0 [some (.inr (some 77)), some (.inl a1), some (.inl a2), none] [] (qL j r, M) (f_X12_marks n a1 a2 M) := by
  unfold f_X12_marks
  refine qr_aload_n o (q_dm dm_X12_marks 0 rfl) rfl ?_
  refine qr_getr (kf := 51) o cf_X12 (sh77 j r) rfl (Nat.le_of_ble_eq_true rfl) fl_X12_101 (q_dm dm_X12_marks 1 rfl) ?_
  refine qr_iload_n o (q_dm dm_X12_marks 2 rfl) rfl ?_
  refine qr_iald o (sh108 j r) (q_dm dm_X12_marks 3 rfl) ?_
  refine qr_lt (fun x1 => ?_)
  refine qs_istore_n (L' := [some (.inr (some 77)), some (.inl a1), some (.inl a2), some (.inl x1)]) o (q_dm dm_X12_marks 4 rfl) (Nat.le_of_ble_eq_true rfl) rfl ?_
  refine qr_aload_n o (q_dm dm_X12_marks 5 rfl) rfl ?_
  refine qr_getr (kf := 51) o cf_X12 (sh77 j r) rfl (Nat.le_of_ble_eq_true rfl) fl_X12_101 (q_dm dm_X12_marks 6 rfl) ?_
  refine qr_iload_n o (q_dm dm_X12_marks 7 rfl) rfl ?_
  refine qr_iload_n o (q_dm dm_X12_marks 8 rfl) rfl ?_
  refine qr_iast o (sh108 j r) (q_dm dm_X12_marks 9 rfl) ?_
  refine qr_letm (fun m2 => ?_)
  refine qr_aload_n o (q_dm dm_X12_marks 10 rfl) rfl ?_
  refine qr_getr (kf := 53) o cf_X12 (sh77 j r) rfl (Nat.le_of_ble_eq_true rfl) fl_X12_108 (q_dm dm_X12_marks 11 rfl) ?_
  refine qr_aload_n o (q_dm dm_X12_marks 12 rfl) rfl ?_
  refine qr_callv_i (As := []) (S := [.inr (some 110)]) o (a_X12_stateNow g k.2.1 n j r hj hr  m2) (Nat.le_of_ble_eq_true rfl) zv_X12_stateNow rfl cf_X12 (sh77 j r) ml_X12_371 (Nat.le_of_ble_eq_true rfl) (q_dm dm_X12_marks 13 rfl) (fun r3 m4 => ?_)
  refine qr_iconst o (q_dm dm_X12_marks 14 rfl) ic_1 ?_
  refine qr_zast o (sh110 j r) (q_dm dm_X12_marks 15 rfl) ?_
  refine qr_letm (fun m5 => ?_)
  refine qr_aload_n o (q_dm dm_X12_marks 16 rfl) rfl ?_
  refine qr_getr (kf := 51) o cf_X12 (sh77 j r) rfl (Nat.le_of_ble_eq_true rfl) fl_X12_101 (q_dm dm_X12_marks 17 rfl) ?_
  refine qr_iload_n o (q_dm dm_X12_marks 18 rfl) rfl ?_
  refine qr_iload_n o (q_dm dm_X12_marks 19 rfl) rfl ?_
  refine qr_iast o (sh108 j r) (q_dm dm_X12_marks 20 rfl) ?_
  refine qr_letm (fun m6 => ?_)
  exact qr_vret o rfl (q_dm dm_X12_marks 21 rfl)

theorem a_X12_marks (g : qG) (l : Launch) (n : Nat) (j r : Nat) (hj : q_isLaw j) (hr : q_isLaw r) (a1 a2 : Int32) (M : qM) : qAM g l 1 zX12_marks (qL j r) [.inr (some 77), .inl a1, .inl a2] (qL j r, M) (f_X12_marks n a1 a2 M) :=
  qAM.of zv_X12_marks.1 (by show 3 ≤ 4; decide) (fun k hk o => w_X12_marks n j r hj hr o a1 a2 M)
def tb_X12_wayWith : List (Nat × Instr × Nat) := [(0, (.iconst 0, 1)), (1, (.istore 4, 2)), (3, (.iload 4, 2)), (5, (.bipush 20, 2)), (7, (.if_icmp .ge 45, 3)), (10, (.aload_n 0, 1)), (11, (.getfield 83, 3)), (14, (.iload 4, 2)), (16, (.iaload, 1)), (17, (.iload_n 1, 1)), (18, (.if_icmp .ne 28, 3)), (21, (.aload_n 0, 1)), (22, (.getfield 86, 3)), (25, (.iload 4, 2)), (27, (.iaload, 1)), (28, (.iload_n 2, 1)), (29, (.if_icmp .ne 17, 3)), (32, (.aload_n 0, 1)), (33, (.getfield 89, 3)), (36, (.iload 4, 2)), (38, (.iaload, 1)), (39, (.iload_n 3, 1)), (40, (.if_icmp .ne 6, 3)), (43, (.iload 4, 2)), (45, (.ireturn, 1)), (46, (.iinc 4 1, 3)), (49, (.goto (-46), 3)), (52, (.iconst (-1), 1)), (53, (.ireturn, 1))]
theorem dm_X12_wayWith : ∀ q ∈ tb_X12_wayWith, decode zX12_wayWith.2.1 q.1 = .ok q.2 := by decide +kernel
def b_X12_wayWith_3 (n : Nat) (K3 : Int32 → Int32 → Int32 → Int32 → qM → qR) (a1 a2 a3 a4 : Int32) (M : qM) : qR :=
  (if (20 : Int32) ≤ a4 then some ((-1 : Int32), M) else qg a4 20 ((if (M 102 a4.toNatClampNeg) = a1 then qg a4 20 ((if (M 103 a4.toNatClampNeg) = a2 then qg a4 20 ((if (M 104 a4.toNatClampNeg) = a3 then some (a4, M) else ql (a4 + (1 : Int32)) (fun x3 => K3 a1 a2 a3 x3 M))) else ql (a4 + (1 : Int32)) (fun x2 => K3 a1 a2 a3 x2 M))) else ql (a4 + (1 : Int32)) (fun x1 => K3 a1 a2 a3 x1 M))))
set_option maxRecDepth 4000 in
theorem wb_X12_wayWith_3 {g : qG} {k : qK} (n : Nat) (j r : Nat) (hj : q_isLaw j) (hr : q_isLaw r) (o : qOk g 0 zX12_wayWith k) (K3 : Int32 → Int32 → Int32 → Int32 → qM → qR) (hK3 : ∀ (a1 a2 a3 a4 : Int32) (M : qM), qAE g k zX12_wayWith (qL j r) 3 [some (.inr (some 77)), some (.inl a1), some (.inl a2), some (.inl a3), some (.inl a4)] [] (qL j r, M) (K3 a1 a2 a3 a4 M)) (a1 a2 a3 a4 : Int32) (M : qM) : qAE g k zX12_wayWith (qL j r) 3 [some (.inr (some 77)), some (.inl a1), some (.inl a2), some (.inl a3), some (.inl a4)] [] (qL j r, M) (b_X12_wayWith_3 n K3 a1 a2 a3 a4 M) := by
  unfold b_X12_wayWith_3
  refine qr_iload o (q_dm dm_X12_wayWith 2 rfl) rfl ?_
  refine qr_bipush o (q_dm dm_X12_wayWith 3 rfl) bi_20 ?_
  refine qr_icmp_ge (tgt := 52) o (q_dm dm_X12_wayWith 4 rfl) (by decide) ?_ ?_
  · refine qr_iconst o (q_dm dm_X12_wayWith 27 rfl) ic_m1 ?_
    exact qr_iret o rfl rfl (q_dm dm_X12_wayWith 28 rfl)
  · refine qr_aload_n o (q_dm dm_X12_wayWith 5 rfl) rfl ?_
    refine qr_getr (kf := 45) o cf_X12 (sh77 j r) rfl (Nat.le_of_ble_eq_true rfl) fl_X12_83 (q_dm dm_X12_wayWith 6 rfl) ?_
    refine qr_iload o (q_dm dm_X12_wayWith 7 rfl) rfl ?_
    refine qr_iald o (sh102 j r) (q_dm dm_X12_wayWith 8 rfl) ?_
    refine qr_iload_n o (q_dm dm_X12_wayWith 9 rfl) rfl ?_
    refine qr_icmp_ne (tgt := 46) o (q_dm dm_X12_wayWith 10 rfl) (by decide) ?_ ?_
    · refine qs_iincl2 (L' := fun x1 => [some (.inr (some 77)), some (.inl a1), some (.inl a2), some (.inl a3), some (.inl x1)]) o (q_dm dm_X12_wayWith 25 rfl) rfl ic_1 (Nat.le_of_ble_eq_true rfl) (fun _ => rfl) (fun x1 => ?_)
      refine qr_goto (tgt := 3) o (q_dm dm_X12_wayWith 26 rfl) (by decide) ?_
      exact qr_loc (q_leS (q_leS (q_leS (q_leS (q_leS q_le0))))) (hK3 a1 a2 a3 x1 M)
    · refine qr_aload_n o (q_dm dm_X12_wayWith 11 rfl) rfl ?_
      refine qr_getr (kf := 46) o cf_X12 (sh77 j r) rfl (Nat.le_of_ble_eq_true rfl) fl_X12_86 (q_dm dm_X12_wayWith 12 rfl) ?_
      refine qr_iload o (q_dm dm_X12_wayWith 13 rfl) rfl ?_
      refine qr_iald o (sh103 j r) (q_dm dm_X12_wayWith 14 rfl) ?_
      refine qr_iload_n o (q_dm dm_X12_wayWith 15 rfl) rfl ?_
      refine qr_icmp_ne (tgt := 46) o (q_dm dm_X12_wayWith 16 rfl) (by decide) ?_ ?_
      · refine qs_iincl2 (L' := fun x2 => [some (.inr (some 77)), some (.inl a1), some (.inl a2), some (.inl a3), some (.inl x2)]) o (q_dm dm_X12_wayWith 25 rfl) rfl ic_1 (Nat.le_of_ble_eq_true rfl) (fun _ => rfl) (fun x2 => ?_)
        refine qr_goto (tgt := 3) o (q_dm dm_X12_wayWith 26 rfl) (by decide) ?_
        exact qr_loc (q_leS (q_leS (q_leS (q_leS (q_leS q_le0))))) (hK3 a1 a2 a3 x2 M)
      · refine qr_aload_n o (q_dm dm_X12_wayWith 17 rfl) rfl ?_
        refine qr_getr (kf := 47) o cf_X12 (sh77 j r) rfl (Nat.le_of_ble_eq_true rfl) fl_X12_89 (q_dm dm_X12_wayWith 18 rfl) ?_
        refine qr_iload o (q_dm dm_X12_wayWith 19 rfl) rfl ?_
        refine qr_iald o (sh104 j r) (q_dm dm_X12_wayWith 20 rfl) ?_
        refine qr_iload_n o (q_dm dm_X12_wayWith 21 rfl) rfl ?_
        refine qr_icmp_ne (tgt := 46) o (q_dm dm_X12_wayWith 22 rfl) (by decide) ?_ ?_
        · refine qs_iincl2 (L' := fun x3 => [some (.inr (some 77)), some (.inl a1), some (.inl a2), some (.inl a3), some (.inl x3)]) o (q_dm dm_X12_wayWith 25 rfl) rfl ic_1 (Nat.le_of_ble_eq_true rfl) (fun _ => rfl) (fun x3 => ?_)
          refine qr_goto (tgt := 3) o (q_dm dm_X12_wayWith 26 rfl) (by decide) ?_
          exact qr_loc (q_leS (q_leS (q_leS (q_leS (q_leS q_le0))))) (hK3 a1 a2 a3 x3 M)
        · refine qr_iload o (q_dm dm_X12_wayWith 23 rfl) rfl ?_
          exact qr_iret o rfl rfl (q_dm dm_X12_wayWith 24 rfl)

def f_X12_wayWith_3 (n : Nat) : Nat → Int32 → Int32 → Int32 → Int32 → qM → qR
  | 0, _, _, _, _, _ => none
  | m + 1, a1, a2, a3, a4, M => b_X12_wayWith_3 n (f_X12_wayWith_3 n m) a1 a2 a3 a4 M
theorem w_X12_wayWith_3 {g : qG} {k : qK} (n : Nat) (j r : Nat) (hj : q_isLaw j) (hr : q_isLaw r) (o : qOk g 0 zX12_wayWith k) : ∀ (m : Nat) (a1 a2 a3 a4 : Int32) (M : qM), qAE g k zX12_wayWith (qL j r) 3 [some (.inr (some 77)), some (.inl a1), some (.inl a2), some (.inl a3), some (.inl a4)] [] (qL j r, M) (f_X12_wayWith_3 n m a1 a2 a3 a4 M) := by
  intro m
  induction m with
  | zero =>
    intro a1 a2 a3 a4 M
    exact qr_none
  | succ m ih =>
    intro a1 a2 a3 a4 M
    exact wb_X12_wayWith_3 n j r hj hr o (f_X12_wayWith_3 n m) ih a1 a2 a3 a4 M
def f_X12_wayWith (n : Nat) (a1 a2 a3 : Int32) (M : qM) : qR :=
  f_X12_wayWith_3 n n a1 a2 a3 (0 : Int32) M
set_option maxRecDepth 4000 in
theorem w_X12_wayWith {g : qG} {k : qK} (n : Nat) (j r : Nat) (hj : q_isLaw j) (hr : q_isLaw r) (o : qOk g 0 zX12_wayWith k) (a1 a2 a3 : Int32) (M : qM) : qAE g k zX12_wayWith (qL j r) 0 [some (.inr (some 77)), some (.inl a1), some (.inl a2), some (.inl a3), none] [] (qL j r, M) (f_X12_wayWith n a1 a2 a3 M) := by
  unfold f_X12_wayWith
  refine qr_iconst o (q_dm dm_X12_wayWith 0 rfl) ic_0 ?_
  refine qs_istore (L' := [some (.inr (some 77)), some (.inl a1), some (.inl a2), some (.inl a3), some (.inl (0 : Int32))]) o (q_dm dm_X12_wayWith 1 rfl) (Nat.le_of_ble_eq_true rfl) rfl ?_
  exact qr_loc (q_leS (q_leS (q_leS (q_leS (q_leS q_le0))))) (w_X12_wayWith_3 n j r hj hr o n a1 a2 a3 (0 : Int32) M)

theorem a_X12_wayWith (g : qG) (l : Launch) (n : Nat) (j r : Nat) (hj : q_isLaw j) (hr : q_isLaw r) (a1 a2 a3 : Int32) (M : qM) : qAM g l 0 zX12_wayWith (qL j r) [.inr (some 77), .inl a1, .inl a2, .inl a3] (qL j r, M) (f_X12_wayWith n a1 a2 a3 M) :=
  qAM.of zv_X12_wayWith.1 (by show 4 ≤ 5; decide) (fun k hk o => w_X12_wayWith n j r hj hr o a1 a2 a3 M)
def tb_X12_wouldCount : List (Nat × Instr × Nat) := [(0, (.aload_n 0, 1)), (1, (.getfield 92, 3)), (4, (.iload_n 1, 1)), (5, (.iaload, 1)), (6, (.istore_n 2, 1)), (7, (.aload_n 0, 1)), (8, (.getfield 95, 3)), (11, (.iload_n 1, 1)), (12, (.iaload, 1)), (13, (.istore_n 3, 1)), (14, (.iconst 0, 1)), (15, (.istore 4, 2)), (17, (.iload 4, 2)), (19, (.aload_n 0, 1)), (20, (.getfield 365, 3)), (23, (.if_icmp .ge 55, 3)), (26, (.iload_n 3, 1)), (27, (.aload_n 0, 1)), (28, (.getfield 98, 3)), (31, (.iload_n 1, 1)), (32, (.iaload, 1)), (33, (.iload 4, 2)), (35, (.invokestatic 149, 3)), (38, (.ifCond .eq 31, 3)), (41, (.aload_n 0, 1)), (42, (.getfield 83, 3)), (45, (.aload_n 0, 1)), (46, (.getfield 101, 3)), (49, (.iload 4, 2)), (51, (.iaload, 1)), (52, (.iaload, 1)), (53, (.aload_n 0, 1)), (54, (.getfield 86, 3)), (57, (.aload_n 0, 1)), (58, (.getfield 101, 3)), (61, (.iload 4, 2)), (63, (.iaload, 1)), (64, (.iaload, 1)), (65, (.iadd, 1)), (66, (.goto 4, 3)), (69, (.iconst 0, 1)), (70, (.iadd, 1)), (71, (.istore_n 3, 1)), (72, (.iinc 4 1, 3)), (75, (.goto (-58), 3)), (78, (.aload_n 0, 1)), (79, (.aload_n 0, 1)), (80, (.getfield 362, 3)), (83, (.iload_n 2, 1)), (84, (.bipush 8, 2)), (86, (.invokevirtual 288, 3)), (89, (.aload_n 0, 1)), (90, (.getfield 68, 3)), (93, (.bipush 9, 2)), (95, (.aload_n 0, 1)), (96, (.getfield 68, 3)), (99, (.bipush 9, 2)), (101, (.iaload, 1)), (102, (.aload_n 0, 1)), (103, (.getfield 83, 3)), (106, (.aload_n 0, 1)), (107, (.getfield 101, 3)), (110, (.iload_n 1, 1)), (111, (.iaload, 1)), (112, (.iaload, 1)), (113, (.iadd, 1)), (114, (.aload_n 0, 1)), (115, (.getfield 86, 3)), (118, (.aload_n 0, 1)), (119, (.getfield 101, 3)), (122, (.iload_n 1, 1)), (123, (.iaload, 1)), (124, (.iaload, 1)), (125, (.iadd, 1)), (126, (.iastore, 1)), (127, (.aload_n 0, 1)), (128, (.getfield 68, 3)), (131, (.bipush 10, 2)), (133, (.aload_n 0, 1)), (134, (.getfield 68, 3)), (137, (.bipush 10, 2)), (139, (.iaload, 1)), (140, (.aload_n 0, 1)), (141, (.getfield 83, 3)), (144, (.aload_n 0, 1)), (145, (.getfield 101, 3)), (148, (.iload_n 1, 1)), (149, (.iaload, 1)), (150, (.iaload, 1)), (151, (.iadd, 1)), (152, (.aload_n 0, 1)), (153, (.getfield 86, 3)), (156, (.aload_n 0, 1)), (157, (.getfield 101, 3)), (160, (.iload_n 1, 1)), (161, (.iaload, 1)), (162, (.iaload, 1)), (163, (.iadd, 1)), (164, (.iastore, 1)), (165, (.aload_n 0, 1)), (166, (.getfield 68, 3)), (169, (.bipush 11, 2)), (171, (.aload_n 0, 1)), (172, (.getfield 68, 3)), (175, (.bipush 11, 2)), (177, (.iaload, 1)), (178, (.aload_n 0, 1)), (179, (.getfield 89, 3)), (182, (.aload_n 0, 1)), (183, (.getfield 101, 3)), (186, (.iload_n 1, 1)), (187, (.iaload, 1)), (188, (.iaload, 1)), (189, (.iadd, 1)), (190, (.iastore, 1)), (191, (.iload_n 3, 1)), (192, (.aload_n 0, 1)), (193, (.bipush 118, 2)), (195, (.bipush 99, 2)), (197, (.iconst 1, 1)), (198, (.invokevirtual 292, 3)), (201, (.if_icmp .lt 15, 3)), (204, (.aload_n 0, 1)), (205, (.iload_n 2, 1)), (206, (.invokevirtual 368, 3)), (209, (.ifCond .eq 7, 3)), (212, (.iconst 1, 1)), (213, (.goto 4, 3)), (216, (.iconst 0, 1)), (217, (.ireturn, 1))]
theorem dm_X12_wouldCount : ∀ q ∈ tb_X12_wouldCount, decode zX12_wouldCount.2.1 q.1 = .ok q.2 := by decide +kernel
def f_X12_wouldCount_70 (n : Nat) (K17 : Int32 → Int32 → Int32 → Int32 → qM → qR) (a1 a2 a4 s0 s1 : Int32) (M : qM) : qR :=
  ql (s0 + s1) (fun x1 => ql (a4 + (1 : Int32)) (fun x2 => K17 a1 a2 x1 x2 M))
set_option maxRecDepth 4000 in
theorem w_X12_wouldCount_70 {g : qG} {k : qK} (n : Nat) (j r : Nat) (hj : q_isLaw j) (hr : q_isLaw r) (o : qOk g 3 zX12_wouldCount k) (K17 : Int32 → Int32 → Int32 → Int32 → qM → qR) (hK17 : ∀ (a1 a2 a3 a4 : Int32) (M : qM), qAE g k zX12_wouldCount (qL j r) 17 [some (.inr (some 77)), some (.inl a1), some (.inl a2), some (.inl a3), some (.inl a4)] [] (qL j r, M) (K17 a1 a2 a3 a4 M)) (a1 a2 a4 s0 s1 : Int32) (M : qM) : qAE g k zX12_wouldCount (qL j r) 70 [some (.inr (some 77)), some (.inl a1), some (.inl a2), none, some (.inl a4)] [.inl s1, .inl s0] (qL j r, M) (f_X12_wouldCount_70 n K17 a1 a2 a4 s0 s1 M) := by
  unfold f_X12_wouldCount_70
  refine qr_iadd o (q_dm dm_X12_wouldCount 41 rfl) ?_
  refine qr_lt (fun x1 => ?_)
  refine qs_istore_n (L' := [some (.inr (some 77)), some (.inl a1), some (.inl a2), some (.inl x1), some (.inl a4)]) o (q_dm dm_X12_wouldCount 42 rfl) (Nat.le_of_ble_eq_true rfl) rfl ?_
  refine qs_iincl2 (L' := fun x2 => [some (.inr (some 77)), some (.inl a1), some (.inl a2), some (.inl x1), some (.inl x2)]) o (q_dm dm_X12_wouldCount 43 rfl) rfl ic_1 (Nat.le_of_ble_eq_true rfl) (fun _ => rfl) (fun x2 => ?_)
  refine qr_goto (tgt := 17) o (q_dm dm_X12_wouldCount 44 rfl) (by decide) ?_
  exact qr_loc (q_leS (q_leS (q_leS (q_leS (q_leS q_le0))))) (hK17 a1 a2 x1 x2 M)

def b_X12_wouldCount_17 (n : Nat) (K17 : Int32 → Int32 → Int32 → Int32 → qM → qR) (a1 a2 a3 a4 : Int32) (M : qM) : qR :=
  (if (M 77 43) ≤ a4 then qc (f_X12_feels n (M 77 44) a2 (8 : Int32) M) (fun _ m1 => qg a1 4 (qg (m1 108 a1.toNatClampNeg) 20 (qg a1 4 (qg (m1 108 a1.toNatClampNeg) 20 (qlm (mu m1 97 9 (((m1 97 9) + (m1 102 (m1 108 a1.toNatClampNeg).toNatClampNeg)) + (m1 103 (m1 108 a1.toNatClampNeg).toNatClampNeg))) (fun m2 => qg a1 4 (qg (m2 108 a1.toNatClampNeg) 20 (qg a1 4 (qg (m2 108 a1.toNatClampNeg) 20 (qlm (mu m2 97 10 (((m2 97 10) + (m2 102 (m2 108 a1.toNatClampNeg).toNatClampNeg)) + (m2 103 (m2 108 a1.toNatClampNeg).toNatClampNeg))) (fun m3 => qg a1 4 (qg (m3 108 a1.toNatClampNeg) 20 (qlm (mu m3 97 11 ((m3 97 11) + (m3 104 (m3 108 a1.toNatClampNeg).toNatClampNeg))) (fun m4 => qc (f_X12_byLaw n (118 : Int32) (99 : Int32) (1 : Int32) m4) (fun r5 m6 => (if a3 < r5 then some ((0 : Int32), m6) else qc (f_X12_areCounted n a2 m6) (fun r7 m8 => (if r7 = (0 : Int32) then some ((0 : Int32), m8) else some ((1 : Int32), m8))))))))))))))))))) else qg a1 4 (qc (f_X12_has0 n (M 107 a1.toNatClampNeg) a4 M) (fun r9 m10 => (if r9 = (0 : Int32) then f_X12_wouldCount_70 n K17 a1 a2 a4 a3 (0 : Int32) m10 else qg a4 4 (qg (m10 108 a4.toNatClampNeg) 20 (qg a4 4 (qg (m10 108 a4.toNatClampNeg) 20 (f_X12_wouldCount_70 n K17 a1 a2 a4 a3 ((m10 102 (m10 108 a4.toNatClampNeg).toNatClampNeg) + (m10 103 (m10 108 a4.toNatClampNeg).toNatClampNeg)) m10))))))))
set_option maxRecDepth 4000 in
theorem wb_X12_wouldCount_17 {g : qG} {k : qK} (n : Nat) (j r : Nat) (hj : q_isLaw j) (hr : q_isLaw r) (o : qOk g 3 zX12_wouldCount k) (K17 : Int32 → Int32 → Int32 → Int32 → qM → qR) (hK17 : ∀ (a1 a2 a3 a4 : Int32) (M : qM), qAE g k zX12_wouldCount (qL j r) 17 [some (.inr (some 77)), some (.inl a1), some (.inl a2), some (.inl a3), some (.inl a4)] [] (qL j r, M) (K17 a1 a2 a3 a4 M)) (a1 a2 a3 a4 : Int32) (M : qM) : qAE g k zX12_wouldCount (qL j r) 17 [some (.inr (some 77)), some (.inl a1), some (.inl a2), some (.inl a3), some (.inl a4)] [] (qL j r, M) (b_X12_wouldCount_17 n K17 a1 a2 a3 a4 M) := by
  unfold b_X12_wouldCount_17
  refine qr_iload o (q_dm dm_X12_wouldCount 12 rfl) rfl ?_
  refine qr_aload_n o (q_dm dm_X12_wouldCount 13 rfl) rfl ?_
  refine qr_getf (kf := 43) o cf_X12 (sh77 j r) rfl (Nat.le_of_ble_eq_true rfl) fl_X12_365 (q_dm dm_X12_wouldCount 14 rfl) ?_
  refine qr_icmp_ge (tgt := 78) o (q_dm dm_X12_wouldCount 15 rfl) (by decide) ?_ ?_
  · refine qr_aload_n o (q_dm dm_X12_wouldCount 45 rfl) rfl ?_
    refine qr_aload_n o (q_dm dm_X12_wouldCount 46 rfl) rfl ?_
    refine qr_getf (kf := 44) o cf_X12 (sh77 j r) rfl (Nat.le_of_ble_eq_true rfl) fl_X12_362 (q_dm dm_X12_wouldCount 47 rfl) ?_
    refine qr_iload_n o (q_dm dm_X12_wouldCount 48 rfl) rfl ?_
    refine qr_bipush o (q_dm dm_X12_wouldCount 49 rfl) bi_8 ?_
    refine qr_callv_v (As := [.inl (M 77 44), .inl a2, .inl (8 : Int32)]) (S := []) o (a_X12_feels g k.2.1 n j r hj hr (M 77 44) a2 (8 : Int32) M) (Nat.le_of_ble_eq_true rfl) zv_X12_feels rfl cf_X12 (sh77 j r) ml_X12_288 (Nat.le_of_ble_eq_true rfl) (q_dm dm_X12_wouldCount 50 rfl) (fun _ m1 => ?_)
    refine qr_aload_n o (q_dm dm_X12_wouldCount 51 rfl) rfl ?_
    refine qr_getr (kf := 30) o cf_X12 (sh77 j r) rfl (Nat.le_of_ble_eq_true rfl) fl_X12_68 (q_dm dm_X12_wouldCount 52 rfl) ?_
    refine qr_bipush o (q_dm dm_X12_wouldCount 53 rfl) bi_9 ?_
    refine qr_aload_n o (q_dm dm_X12_wouldCount 54 rfl) rfl ?_
    refine qr_getr (kf := 30) o cf_X12 (sh77 j r) rfl (Nat.le_of_ble_eq_true rfl) fl_X12_68 (q_dm dm_X12_wouldCount 55 rfl) ?_
    refine qr_bipush o (q_dm dm_X12_wouldCount 56 rfl) bi_9 ?_
    refine qr_iald0 (c := 9) o (sh97 j r) (by decide) (by decide) (q_dm dm_X12_wouldCount 57 rfl) ?_
    refine qr_aload_n o (q_dm dm_X12_wouldCount 58 rfl) rfl ?_
    refine qr_getr (kf := 45) o cf_X12 (sh77 j r) rfl (Nat.le_of_ble_eq_true rfl) fl_X12_83 (q_dm dm_X12_wouldCount 59 rfl) ?_
    refine qr_aload_n o (q_dm dm_X12_wouldCount 60 rfl) rfl ?_
    refine qr_getr (kf := 51) o cf_X12 (sh77 j r) rfl (Nat.le_of_ble_eq_true rfl) fl_X12_101 (q_dm dm_X12_wouldCount 61 rfl) ?_
    refine qr_iload_n o (q_dm dm_X12_wouldCount 62 rfl) rfl ?_
    refine qr_iald o (sh108 j r) (q_dm dm_X12_wouldCount 63 rfl) ?_
    refine qr_iald o (sh102 j r) (q_dm dm_X12_wouldCount 64 rfl) ?_
    refine qr_iadd o (q_dm dm_X12_wouldCount 65 rfl) ?_
    refine qr_aload_n o (q_dm dm_X12_wouldCount 66 rfl) rfl ?_
    refine qr_getr (kf := 46) o cf_X12 (sh77 j r) rfl (Nat.le_of_ble_eq_true rfl) fl_X12_86 (q_dm dm_X12_wouldCount 67 rfl) ?_
    refine qr_aload_n o (q_dm dm_X12_wouldCount 68 rfl) rfl ?_
    refine qr_getr (kf := 51) o cf_X12 (sh77 j r) rfl (Nat.le_of_ble_eq_true rfl) fl_X12_101 (q_dm dm_X12_wouldCount 69 rfl) ?_
    refine qr_iload_n o (q_dm dm_X12_wouldCount 70 rfl) rfl ?_
    refine qr_iald o (sh108 j r) (q_dm dm_X12_wouldCount 71 rfl) ?_
    refine qr_iald o (sh103 j r) (q_dm dm_X12_wouldCount 72 rfl) ?_
    refine qr_iadd o (q_dm dm_X12_wouldCount 73 rfl) ?_
    refine qr_iast0 (c := 9) o (sh97 j r) (by decide) (by decide) (q_dm dm_X12_wouldCount 74 rfl) ?_
    refine qr_letm (fun m2 => ?_)
    refine qr_aload_n o (q_dm dm_X12_wouldCount 75 rfl) rfl ?_
    refine qr_getr (kf := 30) o cf_X12 (sh77 j r) rfl (Nat.le_of_ble_eq_true rfl) fl_X12_68 (q_dm dm_X12_wouldCount 76 rfl) ?_
    refine qr_bipush o (q_dm dm_X12_wouldCount 77 rfl) bi_10 ?_
    refine qr_aload_n o (q_dm dm_X12_wouldCount 78 rfl) rfl ?_
    refine qr_getr (kf := 30) o cf_X12 (sh77 j r) rfl (Nat.le_of_ble_eq_true rfl) fl_X12_68 (q_dm dm_X12_wouldCount 79 rfl) ?_
    refine qr_bipush o (q_dm dm_X12_wouldCount 80 rfl) bi_10 ?_
    refine qr_iald0 (c := 10) o (sh97 j r) (by decide) (by decide) (q_dm dm_X12_wouldCount 81 rfl) ?_
    refine qr_aload_n o (q_dm dm_X12_wouldCount 82 rfl) rfl ?_
    refine qr_getr (kf := 45) o cf_X12 (sh77 j r) rfl (Nat.le_of_ble_eq_true rfl) fl_X12_83 (q_dm dm_X12_wouldCount 83 rfl) ?_
    refine qr_aload_n o (q_dm dm_X12_wouldCount 84 rfl) rfl ?_
    refine qr_getr (kf := 51) o cf_X12 (sh77 j r) rfl (Nat.le_of_ble_eq_true rfl) fl_X12_101 (q_dm dm_X12_wouldCount 85 rfl) ?_
    refine qr_iload_n o (q_dm dm_X12_wouldCount 86 rfl) rfl ?_
    refine qr_iald o (sh108 j r) (q_dm dm_X12_wouldCount 87 rfl) ?_
    refine qr_iald o (sh102 j r) (q_dm dm_X12_wouldCount 88 rfl) ?_
    refine qr_iadd o (q_dm dm_X12_wouldCount 89 rfl) ?_
    refine qr_aload_n o (q_dm dm_X12_wouldCount 90 rfl) rfl ?_
    refine qr_getr (kf := 46) o cf_X12 (sh77 j r) rfl (Nat.le_of_ble_eq_true rfl) fl_X12_86 (q_dm dm_X12_wouldCount 91 rfl) ?_
    refine qr_aload_n o (q_dm dm_X12_wouldCount 92 rfl) rfl ?_
    refine qr_getr (kf := 51) o cf_X12 (sh77 j r) rfl (Nat.le_of_ble_eq_true rfl) fl_X12_101 (q_dm dm_X12_wouldCount 93 rfl) ?_
    refine qr_iload_n o (q_dm dm_X12_wouldCount 94 rfl) rfl ?_
    refine qr_iald o (sh108 j r) (q_dm dm_X12_wouldCount 95 rfl) ?_
    refine qr_iald o (sh103 j r) (q_dm dm_X12_wouldCount 96 rfl) ?_
    refine qr_iadd o (q_dm dm_X12_wouldCount 97 rfl) ?_
    refine qr_iast0 (c := 10) o (sh97 j r) (by decide) (by decide) (q_dm dm_X12_wouldCount 98 rfl) ?_
    refine qr_letm (fun m3 => ?_)
    refine qr_aload_n o (q_dm dm_X12_wouldCount 99 rfl) rfl ?_
    refine qr_getr (kf := 30) o cf_X12 (sh77 j r) rfl (Nat.le_of_ble_eq_true rfl) fl_X12_68 (q_dm dm_X12_wouldCount 100 rfl) ?_
    refine qr_bipush o (q_dm dm_X12_wouldCount 101 rfl) bi_11 ?_
    refine qr_aload_n o (q_dm dm_X12_wouldCount 102 rfl) rfl ?_
    refine qr_getr (kf := 30) o cf_X12 (sh77 j r) rfl (Nat.le_of_ble_eq_true rfl) fl_X12_68 (q_dm dm_X12_wouldCount 103 rfl) ?_
    refine qr_bipush o (q_dm dm_X12_wouldCount 104 rfl) bi_11 ?_
    refine qr_iald0 (c := 11) o (sh97 j r) (by decide) (by decide) (q_dm dm_X12_wouldCount 105 rfl) ?_
    refine qr_aload_n o (q_dm dm_X12_wouldCount 106 rfl) rfl ?_
    refine qr_getr (kf := 47) o cf_X12 (sh77 j r) rfl (Nat.le_of_ble_eq_true rfl) fl_X12_89 (q_dm dm_X12_wouldCount 107 rfl) ?_
    refine qr_aload_n o (q_dm dm_X12_wouldCount 108 rfl) rfl ?_
    refine qr_getr (kf := 51) o cf_X12 (sh77 j r) rfl (Nat.le_of_ble_eq_true rfl) fl_X12_101 (q_dm dm_X12_wouldCount 109 rfl) ?_
    refine qr_iload_n o (q_dm dm_X12_wouldCount 110 rfl) rfl ?_
    refine qr_iald o (sh108 j r) (q_dm dm_X12_wouldCount 111 rfl) ?_
    refine qr_iald o (sh104 j r) (q_dm dm_X12_wouldCount 112 rfl) ?_
    refine qr_iadd o (q_dm dm_X12_wouldCount 113 rfl) ?_
    refine qr_iast0 (c := 11) o (sh97 j r) (by decide) (by decide) (q_dm dm_X12_wouldCount 114 rfl) ?_
    refine qr_letm (fun m4 => ?_)
    refine qr_iload_n o (q_dm dm_X12_wouldCount 115 rfl) rfl ?_
    refine qr_aload_n o (q_dm dm_X12_wouldCount 116 rfl) rfl ?_
    refine qr_bipush o (q_dm dm_X12_wouldCount 117 rfl) bi_118 ?_
    refine qr_bipush o (q_dm dm_X12_wouldCount 118 rfl) bi_99 ?_
    refine qr_iconst o (q_dm dm_X12_wouldCount 119 rfl) ic_1 ?_
    refine qr_callv_i (As := [.inl (118 : Int32), .inl (99 : Int32), .inl (1 : Int32)]) (S := [.inl a3]) o (a_X12_byLaw g k.2.1 n j r hj hr (118 : Int32) (99 : Int32) (1 : Int32) m4) (Nat.le_of_ble_eq_true rfl) zv_X12_byLaw rfl cf_X12 (sh77 j r) ml_X12_292 (Nat.le_of_ble_eq_true rfl) (q_dm dm_X12_wouldCount 120 rfl) (fun r5 m6 => ?_)
    refine qr_icmp_lt (tgt := 216) o (q_dm dm_X12_wouldCount 121 rfl) (by decide) ?_ ?_
    · refine qr_iconst o (q_dm dm_X12_wouldCount 128 rfl) ic_0 ?_
      exact qr_iret o rfl (by decide) (q_dm dm_X12_wouldCount 129 rfl)
    · refine qr_aload_n o (q_dm dm_X12_wouldCount 122 rfl) rfl ?_
      refine qr_iload_n o (q_dm dm_X12_wouldCount 123 rfl) rfl ?_
      refine qr_callv_i (As := [.inl a2]) (S := []) o (a_X12_areCounted g k.2.1 n j r hj hr a2 m6) (Nat.le_of_ble_eq_true rfl) zv_X12_areCounted rfl cf_X12 (sh77 j r) ml_X12_368 (Nat.le_of_ble_eq_true rfl) (q_dm dm_X12_wouldCount 124 rfl) (fun r7 m8 => ?_)
      refine qr_if_eq (tgt := 216) o (q_dm dm_X12_wouldCount 125 rfl) (by decide) ?_ ?_
      · refine qr_iconst o (q_dm dm_X12_wouldCount 128 rfl) ic_0 ?_
        exact qr_iret o rfl (by decide) (q_dm dm_X12_wouldCount 129 rfl)
      · refine qr_iconst o (q_dm dm_X12_wouldCount 126 rfl) ic_1 ?_
        refine qr_goto (tgt := 217) o (q_dm dm_X12_wouldCount 127 rfl) (by decide) ?_
        exact qr_iret o rfl (by decide) (q_dm dm_X12_wouldCount 129 rfl)
  · refine qr_iload_n o (q_dm dm_X12_wouldCount 16 rfl) rfl ?_
    refine qr_aload_n o (q_dm dm_X12_wouldCount 17 rfl) rfl ?_
    refine qr_getr (kf := 50) o cf_X12 (sh77 j r) rfl (Nat.le_of_ble_eq_true rfl) fl_X12_98 (q_dm dm_X12_wouldCount 18 rfl) ?_
    refine qr_iload_n o (q_dm dm_X12_wouldCount 19 rfl) rfl ?_
    refine qr_iald o (sh107 j r) (q_dm dm_X12_wouldCount 20 rfl) ?_
    refine qr_iload o (q_dm dm_X12_wouldCount 21 rfl) rfl ?_
    refine qr_calls_i (As := [.inl (M 107 a1.toNatClampNeg), .inl a4]) (S := [.inl a3]) o (a_X12_has0 g k.2.1 n j r hj hr (M 107 a1.toNatClampNeg) a4 M) (Nat.le_of_ble_eq_true rfl) zs_X12_has0 rfl ml_X12_149 (Nat.le_of_ble_eq_true rfl) (q_dm dm_X12_wouldCount 22 rfl) (fun r9 m10 => ?_)
    refine qr_if_eq (tgt := 69) o (q_dm dm_X12_wouldCount 23 rfl) (by decide) ?_ ?_
    · refine qr_iconst o (q_dm dm_X12_wouldCount 40 rfl) ic_0 ?_
      exact qr_loc (q_leS (q_leS (q_leS (q_leN (q_leS q_le0))))) (w_X12_wouldCount_70 n j r hj hr o K17 hK17 a1 a2 a4 a3 (0 : Int32) m10)
    · refine qr_aload_n o (q_dm dm_X12_wouldCount 24 rfl) rfl ?_
      refine qr_getr (kf := 45) o cf_X12 (sh77 j r) rfl (Nat.le_of_ble_eq_true rfl) fl_X12_83 (q_dm dm_X12_wouldCount 25 rfl) ?_
      refine qr_aload_n o (q_dm dm_X12_wouldCount 26 rfl) rfl ?_
      refine qr_getr (kf := 51) o cf_X12 (sh77 j r) rfl (Nat.le_of_ble_eq_true rfl) fl_X12_101 (q_dm dm_X12_wouldCount 27 rfl) ?_
      refine qr_iload o (q_dm dm_X12_wouldCount 28 rfl) rfl ?_
      refine qr_iald o (sh108 j r) (q_dm dm_X12_wouldCount 29 rfl) ?_
      refine qr_iald o (sh102 j r) (q_dm dm_X12_wouldCount 30 rfl) ?_
      refine qr_aload_n o (q_dm dm_X12_wouldCount 31 rfl) rfl ?_
      refine qr_getr (kf := 46) o cf_X12 (sh77 j r) rfl (Nat.le_of_ble_eq_true rfl) fl_X12_86 (q_dm dm_X12_wouldCount 32 rfl) ?_
      refine qr_aload_n o (q_dm dm_X12_wouldCount 33 rfl) rfl ?_
      refine qr_getr (kf := 51) o cf_X12 (sh77 j r) rfl (Nat.le_of_ble_eq_true rfl) fl_X12_101 (q_dm dm_X12_wouldCount 34 rfl) ?_
      refine qr_iload o (q_dm dm_X12_wouldCount 35 rfl) rfl ?_
      refine qr_iald o (sh108 j r) (q_dm dm_X12_wouldCount 36 rfl) ?_
      refine qr_iald o (sh103 j r) (q_dm dm_X12_wouldCount 37 rfl) ?_
      refine qr_iadd o (q_dm dm_X12_wouldCount 38 rfl) ?_
      refine qr_goto (tgt := 70) o (q_dm dm_X12_wouldCount 39 rfl) (by decide) ?_
      exact qr_loc (q_leS (q_leS (q_leS (q_leN (q_leS q_le0))))) (w_X12_wouldCount_70 n j r hj hr o K17 hK17 a1 a2 a4 a3 ((m10 102 (m10 108 a4.toNatClampNeg).toNatClampNeg) + (m10 103 (m10 108 a4.toNatClampNeg).toNatClampNeg)) m10)

def f_X12_wouldCount_17 (n : Nat) : Nat → Int32 → Int32 → Int32 → Int32 → qM → qR
  | 0, _, _, _, _, _ => none
  | m + 1, a1, a2, a3, a4, M => b_X12_wouldCount_17 n (f_X12_wouldCount_17 n m) a1 a2 a3 a4 M
theorem w_X12_wouldCount_17 {g : qG} {k : qK} (n : Nat) (j r : Nat) (hj : q_isLaw j) (hr : q_isLaw r) (o : qOk g 3 zX12_wouldCount k) : ∀ (m : Nat) (a1 a2 a3 a4 : Int32) (M : qM), qAE g k zX12_wouldCount (qL j r) 17 [some (.inr (some 77)), some (.inl a1), some (.inl a2), some (.inl a3), some (.inl a4)] [] (qL j r, M) (f_X12_wouldCount_17 n m a1 a2 a3 a4 M) := by
  intro m
  induction m with
  | zero =>
    intro a1 a2 a3 a4 M
    exact qr_none
  | succ m ih =>
    intro a1 a2 a3 a4 M
    exact wb_X12_wouldCount_17 n j r hj hr o (f_X12_wouldCount_17 n m) ih a1 a2 a3 a4 M
def f_X12_wouldCount (n : Nat) (a1 : Int32) (M : qM) : qR :=
  qg a1 4 (ql (M 105 a1.toNatClampNeg) (fun x1 => qg a1 4 (ql (M 106 a1.toNatClampNeg) (fun x2 => f_X12_wouldCount_17 n n a1 x1 x2 (0 : Int32) M))))
set_option maxRecDepth 4000 in
theorem w_X12_wouldCount {g : qG} {k : qK} (n : Nat) (j r : Nat) (hj : q_isLaw j) (hr : q_isLaw r) (o : qOk g 3 zX12_wouldCount k) (a1 : Int32) (M : qM) : qAE g k zX12_wouldCount (qL j r) 0 [some (.inr (some 77)), some (.inl a1), none, none, none] [] (qL j r, M) (f_X12_wouldCount n a1 M) := by
  unfold f_X12_wouldCount
  refine qr_aload_n o (q_dm dm_X12_wouldCount 0 rfl) rfl ?_
  refine qr_getr (kf := 48) o cf_X12 (sh77 j r) rfl (Nat.le_of_ble_eq_true rfl) fl_X12_92 (q_dm dm_X12_wouldCount 1 rfl) ?_
  refine qr_iload_n o (q_dm dm_X12_wouldCount 2 rfl) rfl ?_
  refine qr_iald o (sh105 j r) (q_dm dm_X12_wouldCount 3 rfl) ?_
  refine qr_lt (fun x1 => ?_)
  refine qs_istore_n (L' := [some (.inr (some 77)), some (.inl a1), some (.inl x1), none, none]) o (q_dm dm_X12_wouldCount 4 rfl) (Nat.le_of_ble_eq_true rfl) rfl ?_
  refine qr_aload_n o (q_dm dm_X12_wouldCount 5 rfl) rfl ?_
  refine qr_getr (kf := 49) o cf_X12 (sh77 j r) rfl (Nat.le_of_ble_eq_true rfl) fl_X12_95 (q_dm dm_X12_wouldCount 6 rfl) ?_
  refine qr_iload_n o (q_dm dm_X12_wouldCount 7 rfl) rfl ?_
  refine qr_iald o (sh106 j r) (q_dm dm_X12_wouldCount 8 rfl) ?_
  refine qr_lt (fun x2 => ?_)
  refine qs_istore_n (L' := [some (.inr (some 77)), some (.inl a1), some (.inl x1), some (.inl x2), none]) o (q_dm dm_X12_wouldCount 9 rfl) (Nat.le_of_ble_eq_true rfl) rfl ?_
  refine qr_iconst o (q_dm dm_X12_wouldCount 10 rfl) ic_0 ?_
  refine qs_istore (L' := [some (.inr (some 77)), some (.inl a1), some (.inl x1), some (.inl x2), some (.inl (0 : Int32))]) o (q_dm dm_X12_wouldCount 11 rfl) (Nat.le_of_ble_eq_true rfl) rfl ?_
  exact qr_loc (q_leS (q_leS (q_leS (q_leS (q_leS q_le0))))) (w_X12_wouldCount_17 n j r hj hr o n a1 x1 x2 (0 : Int32) M)

theorem a_X12_wouldCount (g : qG) (l : Launch) (n : Nat) (j r : Nat) (hj : q_isLaw j) (hr : q_isLaw r) (a1 : Int32) (M : qM) : qAM g l 3 zX12_wouldCount (qL j r) [.inr (some 77), .inl a1] (qL j r, M) (f_X12_wouldCount n a1 M) :=
  qAM.of zv_X12_wouldCount.1 (by show 2 ≤ 5; decide) (fun k hk o => w_X12_wouldCount n j r hj hr o a1 M)
def tb_X12_spreads : List (Nat × Instr × Nat) := [(0, (.aload_n 0, 1)), (1, (.invokevirtual 374, 3)), (4, (.istore_n 2, 1)), (5, (.iconst 0, 1)), (6, (.istore_n 3, 1)), (7, (.iload_n 3, 1)), (8, (.aload_n 0, 1)), (9, (.getfield 365, 3)), (12, (.if_icmp .ge 118, 3)), (15, (.aload_n 0, 1)), (16, (.getfield 83, 3)), (19, (.aload_n 0, 1)), (20, (.getfield 101, 3)), (23, (.iload_n 3, 1)), (24, (.iaload, 1)), (25, (.iaload, 1)), (26, (.istore 4, 2)), (28, (.aload_n 0, 1)), (29, (.getfield 86, 3)), (32, (.aload_n 0, 1)), (33, (.getfield 101, 3)), (36, (.iload_n 3, 1)), (37, (.iaload, 1)), (38, (.iaload, 1)), (39, (.istore 5, 2)), (41, (.iload 4, 2)), (43, (.iload 5, 2)), (45, (.iadd, 1)), (46, (.iconst 3, 1)), (47, (.if_icmp .ne 6, 3)), (50, (.goto 74, 3)), (53, (.aload_n 0, 1)), (54, (.iload_n 3, 1)), (55, (.aload_n 0, 1)), (56, (.iload 4, 2)), (58, (.iconst 1, 1)), (59, (.iadd, 1)), (60, (.iload 5, 2)), (62, (.aload_n 0, 1)), (63, (.getfield 89, 3)), (66, (.aload_n 0, 1)), (67, (.getfield 101, 3)), (70, (.iload_n 3, 1)), (71, (.iaload, 1)), (72, (.iaload, 1)), (73, (.aload_n 0, 1)), (74, (.iload_n 3, 1)), (75, (.invokevirtual 377, 3)), (78, (.ifCond .eq 7, 3)), (81, (.iconst 1, 1)), (82, (.goto 4, 3)), (85, (.iconst 0, 1)), (86, (.iadd, 1)), (87, (.invokevirtual 380, 3)), (90, (.invokevirtual 383, 3)), (93, (.iload_n 2, 1)), (94, (.iload_n 1, 1)), (95, (.if_icmp .ge 29, 3)), (98, (.aload_n 0, 1)), (99, (.iload_n 3, 1)), (100, (.aload_n 0, 1)), (101, (.iload 4, 2)), (103, (.iload 5, 2)), (105, (.iconst 1, 1)), (106, (.iadd, 1)), (107, (.aload_n 0, 1)), (108, (.getfield 89, 3)), (111, (.aload_n 0, 1)), (112, (.getfield 101, 3)), (115, (.iload_n 3, 1)), (116, (.iaload, 1)), (117, (.iaload, 1)), (118, (.invokevirtual 380, 3)), (121, (.invokevirtual 383, 3)), (124, (.iinc 3 1, 3)), (127, (.goto (-120), 3)), (130, (.return_, 1))]
theorem dm_X12_spreads : ∀ q ∈ tb_X12_spreads, decode zX12_spreads.2.1 q.1 = .ok q.2 := by decide +kernel
def f_X12_spreads_86 (n : Nat) (K7 : Int32 → Int32 → Int32 → qM → qR) (a1 a2 a3 a4 a5 s1 s3 s4 s5 s6 : Int32) (M : qM) : qR :=
  qc (f_X12_wayWith n s3 s4 (s5 + s6) M) (fun r1 m2 => qc (f_X12_marks n s1 r1 m2) (fun _ m3 => (if a1 ≤ a2 then ql (a3 + (1 : Int32)) (fun x4 => K7 a1 a2 x4 m3) else qg a3 4 (qg (m3 108 a3.toNatClampNeg) 20 (qc (f_X12_wayWith n a4 (a5 + (1 : Int32)) (m3 104 (m3 108 a3.toNatClampNeg).toNatClampNeg) m3) (fun r5 m6 => qc (f_X12_marks n a3 r5 m6) (fun _ m7 => ql (a3 + (1 : Int32)) (fun x8 => K7 a1 a2 x8 m7))))))))
set_option maxRecDepth 4000 in
theorem w_X12_spreads_86 {g : qG} {k : qK} (n : Nat) (j r : Nat) (hj : q_isLaw j) (hr : q_isLaw r) (o : qOk g 4 zX12_spreads k) (K7 : Int32 → Int32 → Int32 → qM → qR) (hK7 : ∀ (a1 a2 a3 : Int32) (M : qM), qAE g k zX12_spreads (qL j r) 7 [some (.inr (some 77)), some (.inl a1), some (.inl a2), some (.inl a3), none, none] [] (qL j r, M) (K7 a1 a2 a3 M)) (a1 a2 a3 a4 a5 s1 s3 s4 s5 s6 : Int32) (M : qM) : qAE g k zX12_spreads (qL j r) 86 [some (.inr (some 77)), some (.inl a1), some (.inl a2), some (.inl a3), some (.inl a4), some (.inl a5)] [.inl s6, .inl s5, .inl s4, .inl s3, .inr (some 77), .inl s1, .inr (some 77)] (qL j r, M) (f_X12_spreads_86 n K7 a1 a2 a3 a4 a5 s1 s3 s4 s5 s6 M) := by
  unfold f_X12_spreads_86
  refine qr_iadd o (q_dm dm_X12_spreads 52 rfl) ?_
  refine qr_callv_i (As := [.inl s3, .inl s4, .inl (s5 + s6)]) (S := [.inl s1, .inr (some 77)]) o (a_X12_wayWith g k.2.1 n j r hj hr s3 s4 (s5 + s6) M) (Nat.le_of_ble_eq_true rfl) zv_X12_wayWith rfl cf_X12 (sh77 j r) ml_X12_380 (Nat.le_of_ble_eq_true rfl) (q_dm dm_X12_spreads 53 rfl) (fun r1 m2 => ?_)
  refine qr_callv_v (As := [.inl s1, .inl r1]) (S := []) o (a_X12_marks g k.2.1 n j r hj hr s1 r1 m2) (Nat.le_of_ble_eq_true rfl) zv_X12_marks rfl cf_X12 (sh77 j r) ml_X12_383 (Nat.le_of_ble_eq_true rfl) (q_dm dm_X12_spreads 54 rfl) (fun _ m3 => ?_)
  refine qr_iload_n o (q_dm dm_X12_spreads 55 rfl) rfl ?_
  refine qr_iload_n o (q_dm dm_X12_spreads 56 rfl) rfl ?_
  refine qr_icmp_ge (tgt := 124) o (q_dm dm_X12_spreads 57 rfl) (by decide) ?_ ?_
  · refine qs_iincl2 (L' := fun x4 => [some (.inr (some 77)), some (.inl a1), some (.inl a2), some (.inl x4), some (.inl a4), some (.inl a5)]) o (q_dm dm_X12_spreads 74 rfl) rfl ic_1 (Nat.le_of_ble_eq_true rfl) (fun _ => rfl) (fun x4 => ?_)
    refine qr_goto (tgt := 7) o (q_dm dm_X12_spreads 75 rfl) (by decide) ?_
    exact qr_loc (q_leS (q_leS (q_leS (q_leS (q_leN (q_leN q_le0)))))) (hK7 a1 a2 x4 m3)
  · refine qr_aload_n o (q_dm dm_X12_spreads 58 rfl) rfl ?_
    refine qr_iload_n o (q_dm dm_X12_spreads 59 rfl) rfl ?_
    refine qr_aload_n o (q_dm dm_X12_spreads 60 rfl) rfl ?_
    refine qr_iload o (q_dm dm_X12_spreads 61 rfl) rfl ?_
    refine qr_iload o (q_dm dm_X12_spreads 62 rfl) rfl ?_
    refine qr_iconst o (q_dm dm_X12_spreads 63 rfl) ic_1 ?_
    refine qr_iadd o (q_dm dm_X12_spreads 64 rfl) ?_
    refine qr_aload_n o (q_dm dm_X12_spreads 65 rfl) rfl ?_
    refine qr_getr (kf := 47) o cf_X12 (sh77 j r) rfl (Nat.le_of_ble_eq_true rfl) fl_X12_89 (q_dm dm_X12_spreads 66 rfl) ?_
    refine qr_aload_n o (q_dm dm_X12_spreads 67 rfl) rfl ?_
    refine qr_getr (kf := 51) o cf_X12 (sh77 j r) rfl (Nat.le_of_ble_eq_true rfl) fl_X12_101 (q_dm dm_X12_spreads 68 rfl) ?_
    refine qr_iload_n o (q_dm dm_X12_spreads 69 rfl) rfl ?_
    refine qr_iald o (sh108 j r) (q_dm dm_X12_spreads 70 rfl) ?_
    refine qr_iald o (sh104 j r) (q_dm dm_X12_spreads 71 rfl) ?_
    refine qr_callv_i (As := [.inl a4, .inl (a5 + (1 : Int32)), .inl (m3 104 (m3 108 a3.toNatClampNeg).toNatClampNeg)]) (S := [.inl a3, .inr (some 77)]) o (a_X12_wayWith g k.2.1 n j r hj hr a4 (a5 + (1 : Int32)) (m3 104 (m3 108 a3.toNatClampNeg).toNatClampNeg) m3) (Nat.le_of_ble_eq_true rfl) zv_X12_wayWith rfl cf_X12 (sh77 j r) ml_X12_380 (Nat.le_of_ble_eq_true rfl) (q_dm dm_X12_spreads 72 rfl) (fun r5 m6 => ?_)
    refine qr_callv_v (As := [.inl a3, .inl r5]) (S := []) o (a_X12_marks g k.2.1 n j r hj hr a3 r5 m6) (Nat.le_of_ble_eq_true rfl) zv_X12_marks rfl cf_X12 (sh77 j r) ml_X12_383 (Nat.le_of_ble_eq_true rfl) (q_dm dm_X12_spreads 73 rfl) (fun _ m7 => ?_)
    refine qs_iincl2 (L' := fun x8 => [some (.inr (some 77)), some (.inl a1), some (.inl a2), some (.inl x8), some (.inl a4), some (.inl a5)]) o (q_dm dm_X12_spreads 74 rfl) rfl ic_1 (Nat.le_of_ble_eq_true rfl) (fun _ => rfl) (fun x8 => ?_)
    refine qr_goto (tgt := 7) o (q_dm dm_X12_spreads 75 rfl) (by decide) ?_
    exact qr_loc (q_leS (q_leS (q_leS (q_leS (q_leN (q_leN q_le0)))))) (hK7 a1 a2 x8 m7)

def b_X12_spreads_7 (n : Nat) (K7 : Int32 → Int32 → Int32 → qM → qR) (a1 a2 a3 : Int32) (M : qM) : qR :=
  (if (M 77 43) ≤ a3 then some (0, M) else qg a3 4 (qg (M 108 a3.toNatClampNeg) 20 (ql (M 102 (M 108 a3.toNatClampNeg).toNatClampNeg) (fun x1 => qg a3 4 (qg (M 108 a3.toNatClampNeg) 20 (ql (M 103 (M 108 a3.toNatClampNeg).toNatClampNeg) (fun x2 => (if (x1 + x2) = (3 : Int32) then ql (a3 + (1 : Int32)) (fun x5 => K7 a1 a2 x5 M) else qg a3 4 (qg (M 108 a3.toNatClampNeg) 20 (qc (f_X12_wouldCount n a3 M) (fun r3 m4 => (if r3 = (0 : Int32) then f_X12_spreads_86 n K7 a1 a2 a3 x1 x2 a3 (x1 + (1 : Int32)) x2 (M 104 (M 108 a3.toNatClampNeg).toNatClampNeg) (0 : Int32) m4 else f_X12_spreads_86 n K7 a1 a2 a3 x1 x2 a3 (x1 + (1 : Int32)) x2 (M 104 (M 108 a3.toNatClampNeg).toNatClampNeg) (1 : Int32) m4))))))))))))
set_option maxRecDepth 4000 in
theorem wb_X12_spreads_7 {g : qG} {k : qK} (n : Nat) (j r : Nat) (hj : q_isLaw j) (hr : q_isLaw r) (o : qOk g 4 zX12_spreads k) (K7 : Int32 → Int32 → Int32 → qM → qR) (hK7 : ∀ (a1 a2 a3 : Int32) (M : qM), qAE g k zX12_spreads (qL j r) 7 [some (.inr (some 77)), some (.inl a1), some (.inl a2), some (.inl a3), none, none] [] (qL j r, M) (K7 a1 a2 a3 M)) (a1 a2 a3 : Int32) (M : qM) : qAE g k zX12_spreads (qL j r) 7 [some (.inr (some 77)), some (.inl a1), some (.inl a2), some (.inl a3), none, none] [] (qL j r, M) (b_X12_spreads_7 n K7 a1 a2 a3 M) := by
  unfold b_X12_spreads_7
  refine qr_iload_n o (q_dm dm_X12_spreads 5 rfl) rfl ?_
  refine qr_aload_n o (q_dm dm_X12_spreads 6 rfl) rfl ?_
  refine qr_getf (kf := 43) o cf_X12 (sh77 j r) rfl (Nat.le_of_ble_eq_true rfl) fl_X12_365 (q_dm dm_X12_spreads 7 rfl) ?_
  refine qr_icmp_ge (tgt := 130) o (q_dm dm_X12_spreads 8 rfl) (by decide) ?_ ?_
  · exact qr_vret o rfl (q_dm dm_X12_spreads 76 rfl)
  · refine qr_aload_n o (q_dm dm_X12_spreads 9 rfl) rfl ?_
    refine qr_getr (kf := 45) o cf_X12 (sh77 j r) rfl (Nat.le_of_ble_eq_true rfl) fl_X12_83 (q_dm dm_X12_spreads 10 rfl) ?_
    refine qr_aload_n o (q_dm dm_X12_spreads 11 rfl) rfl ?_
    refine qr_getr (kf := 51) o cf_X12 (sh77 j r) rfl (Nat.le_of_ble_eq_true rfl) fl_X12_101 (q_dm dm_X12_spreads 12 rfl) ?_
    refine qr_iload_n o (q_dm dm_X12_spreads 13 rfl) rfl ?_
    refine qr_iald o (sh108 j r) (q_dm dm_X12_spreads 14 rfl) ?_
    refine qr_iald o (sh102 j r) (q_dm dm_X12_spreads 15 rfl) ?_
    refine qr_lt (fun x1 => ?_)
    refine qs_istore (L' := [some (.inr (some 77)), some (.inl a1), some (.inl a2), some (.inl a3), some (.inl x1), none]) o (q_dm dm_X12_spreads 16 rfl) (Nat.le_of_ble_eq_true rfl) rfl ?_
    refine qr_aload_n o (q_dm dm_X12_spreads 17 rfl) rfl ?_
    refine qr_getr (kf := 46) o cf_X12 (sh77 j r) rfl (Nat.le_of_ble_eq_true rfl) fl_X12_86 (q_dm dm_X12_spreads 18 rfl) ?_
    refine qr_aload_n o (q_dm dm_X12_spreads 19 rfl) rfl ?_
    refine qr_getr (kf := 51) o cf_X12 (sh77 j r) rfl (Nat.le_of_ble_eq_true rfl) fl_X12_101 (q_dm dm_X12_spreads 20 rfl) ?_
    refine qr_iload_n o (q_dm dm_X12_spreads 21 rfl) rfl ?_
    refine qr_iald o (sh108 j r) (q_dm dm_X12_spreads 22 rfl) ?_
    refine qr_iald o (sh103 j r) (q_dm dm_X12_spreads 23 rfl) ?_
    refine qr_lt (fun x2 => ?_)
    refine qs_istore (L' := [some (.inr (some 77)), some (.inl a1), some (.inl a2), some (.inl a3), some (.inl x1), some (.inl x2)]) o (q_dm dm_X12_spreads 24 rfl) (Nat.le_of_ble_eq_true rfl) rfl ?_
    refine qr_iload o (q_dm dm_X12_spreads 25 rfl) rfl ?_
    refine qr_iload o (q_dm dm_X12_spreads 26 rfl) rfl ?_
    refine qr_iadd o (q_dm dm_X12_spreads 27 rfl) ?_
    refine qr_iconst o (q_dm dm_X12_spreads 28 rfl) ic_3 ?_
    refine qr_icmp_ne (tgt := 53) o (q_dm dm_X12_spreads 29 rfl) (by decide) ?_ ?_
    · refine qr_aload_n o (q_dm dm_X12_spreads 31 rfl) rfl ?_
      refine qr_iload_n o (q_dm dm_X12_spreads 32 rfl) rfl ?_
      refine qr_aload_n o (q_dm dm_X12_spreads 33 rfl) rfl ?_
      refine qr_iload o (q_dm dm_X12_spreads 34 rfl) rfl ?_
      refine qr_iconst o (q_dm dm_X12_spreads 35 rfl) ic_1 ?_
      refine qr_iadd o (q_dm dm_X12_spreads 36 rfl) ?_
      refine qr_iload o (q_dm dm_X12_spreads 37 rfl) rfl ?_
      refine qr_aload_n o (q_dm dm_X12_spreads 38 rfl) rfl ?_
      refine qr_getr (kf := 47) o cf_X12 (sh77 j r) rfl (Nat.le_of_ble_eq_true rfl) fl_X12_89 (q_dm dm_X12_spreads 39 rfl) ?_
      refine qr_aload_n o (q_dm dm_X12_spreads 40 rfl) rfl ?_
      refine qr_getr (kf := 51) o cf_X12 (sh77 j r) rfl (Nat.le_of_ble_eq_true rfl) fl_X12_101 (q_dm dm_X12_spreads 41 rfl) ?_
      refine qr_iload_n o (q_dm dm_X12_spreads 42 rfl) rfl ?_
      refine qr_iald o (sh108 j r) (q_dm dm_X12_spreads 43 rfl) ?_
      refine qr_iald o (sh104 j r) (q_dm dm_X12_spreads 44 rfl) ?_
      refine qr_aload_n o (q_dm dm_X12_spreads 45 rfl) rfl ?_
      refine qr_iload_n o (q_dm dm_X12_spreads 46 rfl) rfl ?_
      refine qr_callv_i (As := [.inl a3]) (S := [.inl (M 104 (M 108 a3.toNatClampNeg).toNatClampNeg), .inl x2, .inl (x1 + (1 : Int32)), .inr (some 77), .inl a3, .inr (some 77)]) o (a_X12_wouldCount g k.2.1 n j r hj hr a3 M) (Nat.le_of_ble_eq_true rfl) zv_X12_wouldCount rfl cf_X12 (sh77 j r) ml_X12_377 (Nat.le_of_ble_eq_true rfl) (q_dm dm_X12_spreads 47 rfl) (fun r3 m4 => ?_)
      refine qr_if_eq (tgt := 85) o (q_dm dm_X12_spreads 48 rfl) (by decide) ?_ ?_
      · refine qr_iconst o (q_dm dm_X12_spreads 51 rfl) ic_0 ?_
        exact qr_loc (q_leS (q_leS (q_leS (q_leS (q_leS (q_leS q_le0)))))) (w_X12_spreads_86 n j r hj hr o K7 hK7 a1 a2 a3 x1 x2 a3 (x1 + (1 : Int32)) x2 (M 104 (M 108 a3.toNatClampNeg).toNatClampNeg) (0 : Int32) m4)
      · refine qr_iconst o (q_dm dm_X12_spreads 49 rfl) ic_1 ?_
        refine qr_goto (tgt := 86) o (q_dm dm_X12_spreads 50 rfl) (by decide) ?_
        exact qr_loc (q_leS (q_leS (q_leS (q_leS (q_leS (q_leS q_le0)))))) (w_X12_spreads_86 n j r hj hr o K7 hK7 a1 a2 a3 x1 x2 a3 (x1 + (1 : Int32)) x2 (M 104 (M 108 a3.toNatClampNeg).toNatClampNeg) (1 : Int32) m4)
    · refine qr_goto (tgt := 124) o (q_dm dm_X12_spreads 30 rfl) (by decide) ?_
      refine qs_iincl2 (L' := fun x5 => [some (.inr (some 77)), some (.inl a1), some (.inl a2), some (.inl x5), some (.inl x1), some (.inl x2)]) o (q_dm dm_X12_spreads 74 rfl) rfl ic_1 (Nat.le_of_ble_eq_true rfl) (fun _ => rfl) (fun x5 => ?_)
      refine qr_goto (tgt := 7) o (q_dm dm_X12_spreads 75 rfl) (by decide) ?_
      exact qr_loc (q_leS (q_leS (q_leS (q_leS (q_leN (q_leN q_le0)))))) (hK7 a1 a2 x5 M)

def f_X12_spreads_7 (n : Nat) : Nat → Int32 → Int32 → Int32 → qM → qR
  | 0, _, _, _, _ => none
  | m + 1, a1, a2, a3, M => b_X12_spreads_7 n (f_X12_spreads_7 n m) a1 a2 a3 M
theorem w_X12_spreads_7 {g : qG} {k : qK} (n : Nat) (j r : Nat) (hj : q_isLaw j) (hr : q_isLaw r) (o : qOk g 4 zX12_spreads k) : ∀ (m : Nat) (a1 a2 a3 : Int32) (M : qM), qAE g k zX12_spreads (qL j r) 7 [some (.inr (some 77)), some (.inl a1), some (.inl a2), some (.inl a3), none, none] [] (qL j r, M) (f_X12_spreads_7 n m a1 a2 a3 M) := by
  intro m
  induction m with
  | zero =>
    intro a1 a2 a3 M
    exact qr_none
  | succ m ih =>
    intro a1 a2 a3 M
    exact wb_X12_spreads_7 n j r hj hr o (f_X12_spreads_7 n m) ih a1 a2 a3 M
def f_X12_spreads (n : Nat) (a1 : Int32) (M : qM) : qR :=
  qc (f_X12_goesNow n  M) (fun r1 m2 => f_X12_spreads_7 n n a1 r1 (0 : Int32) m2)
set_option maxRecDepth 4000 in
theorem w_X12_spreads {g : qG} {k : qK} (n : Nat) (j r : Nat) (hj : q_isLaw j) (hr : q_isLaw r) (o : qOk g 4 zX12_spreads k) (a1 : Int32) (M : qM) : qAE g k zX12_spreads (qL j r) 0 [some (.inr (some 77)), some (.inl a1), none, none, none, none] [] (qL j r, M) (f_X12_spreads n a1 M) := by
  unfold f_X12_spreads
  refine qr_aload_n o (q_dm dm_X12_spreads 0 rfl) rfl ?_
  refine qr_callv_i (As := []) (S := []) o (a_X12_goesNow g k.2.1 n j r hj hr  M) (Nat.le_of_ble_eq_true rfl) zv_X12_goesNow rfl cf_X12 (sh77 j r) ml_X12_374 (Nat.le_of_ble_eq_true rfl) (q_dm dm_X12_spreads 1 rfl) (fun r1 m2 => ?_)
  refine qs_istore_n (L' := [some (.inr (some 77)), some (.inl a1), some (.inl r1), none, none, none]) o (q_dm dm_X12_spreads 2 rfl) (Nat.le_of_ble_eq_true rfl) rfl ?_
  refine qr_iconst o (q_dm dm_X12_spreads 3 rfl) ic_0 ?_
  refine qs_istore_n (L' := [some (.inr (some 77)), some (.inl a1), some (.inl r1), some (.inl (0 : Int32)), none, none]) o (q_dm dm_X12_spreads 4 rfl) (Nat.le_of_ble_eq_true rfl) rfl ?_
  exact qr_loc (q_leS (q_leS (q_leS (q_leS (q_leN (q_leN q_le0)))))) (w_X12_spreads_7 n j r hj hr o n a1 r1 (0 : Int32) m2)

theorem a_X12_spreads (g : qG) (l : Launch) (n : Nat) (j r : Nat) (hj : q_isLaw j) (hr : q_isLaw r) (a1 : Int32) (M : qM) : qAM g l 4 zX12_spreads (qL j r) [.inr (some 77), .inl a1] (qL j r, M) (f_X12_spreads n a1 M) :=
  qAM.of zv_X12_spreads.1 (by show 2 ≤ 6; decide) (fun k hk o => w_X12_spreads n j r hj hr o a1 M)
def tb_X12_statesAll : List (Nat × Instr × Nat) := [(0, (.iconst 1, 1)), (1, (.istore_n 1, 1)), (2, (.iconst 0, 1)), (3, (.istore_n 2, 1)), (4, (.iload_n 2, 1)), (5, (.aload_n 0, 1)), (6, (.getfield 365, 3)), (9, (.if_icmp .ge 14, 3)), (12, (.iload_n 1, 1)), (13, (.bipush 20, 2)), (15, (.imul, 1)), (16, (.istore_n 1, 1)), (17, (.iinc 2 1, 3)), (20, (.goto (-16), 3)), (23, (.iload_n 1, 1)), (24, (.ireturn, 1))]
theorem dm_X12_statesAll : ∀ q ∈ tb_X12_statesAll, decode zX12_statesAll.2.1 q.1 = .ok q.2 := by decide +kernel
def b_X12_statesAll_4 (n : Nat) (K4 : Int32 → Int32 → qM → qR) (a1 a2 : Int32) (M : qM) : qR :=
  (if (M 77 43) ≤ a2 then some (a1, M) else ql (a1 * (20 : Int32)) (fun x1 => ql (a2 + (1 : Int32)) (fun x2 => K4 x1 x2 M)))
set_option maxRecDepth 4000 in
theorem wb_X12_statesAll_4 {g : qG} {k : qK} (n : Nat) (j r : Nat) (hj : q_isLaw j) (hr : q_isLaw r) (o : qOk g 0 zX12_statesAll k) (K4 : Int32 → Int32 → qM → qR) (hK4 : ∀ (a1 a2 : Int32) (M : qM), qAE g k zX12_statesAll (qL j r) 4 [some (.inr (some 77)), some (.inl a1), some (.inl a2)] [] (qL j r, M) (K4 a1 a2 M)) (a1 a2 : Int32) (M : qM) : qAE g k zX12_statesAll (qL j r) 4 [some (.inr (some 77)), some (.inl a1), some (.inl a2)] [] (qL j r, M) (b_X12_statesAll_4 n K4 a1 a2 M) := by
  unfold b_X12_statesAll_4
  refine qr_iload_n o (q_dm dm_X12_statesAll 4 rfl) rfl ?_
  refine qr_aload_n o (q_dm dm_X12_statesAll 5 rfl) rfl ?_
  refine qr_getf (kf := 43) o cf_X12 (sh77 j r) rfl (Nat.le_of_ble_eq_true rfl) fl_X12_365 (q_dm dm_X12_statesAll 6 rfl) ?_
  refine qr_icmp_ge (tgt := 23) o (q_dm dm_X12_statesAll 7 rfl) (by decide) ?_ ?_
  · refine qr_iload_n o (q_dm dm_X12_statesAll 14 rfl) rfl ?_
    exact qr_iret o rfl rfl (q_dm dm_X12_statesAll 15 rfl)
  · refine qr_iload_n o (q_dm dm_X12_statesAll 8 rfl) rfl ?_
    refine qr_bipush o (q_dm dm_X12_statesAll 9 rfl) bi_20 ?_
    refine qr_imul o (q_dm dm_X12_statesAll 10 rfl) ?_
    refine qr_lt (fun x1 => ?_)
    refine qs_istore_n (L' := [some (.inr (some 77)), some (.inl x1), some (.inl a2)]) o (q_dm dm_X12_statesAll 11 rfl) (Nat.le_of_ble_eq_true rfl) rfl ?_
    refine qs_iincl2 (L' := fun x2 => [some (.inr (some 77)), some (.inl x1), some (.inl x2)]) o (q_dm dm_X12_statesAll 12 rfl) rfl ic_1 (Nat.le_of_ble_eq_true rfl) (fun _ => rfl) (fun x2 => ?_)
    refine qr_goto (tgt := 4) o (q_dm dm_X12_statesAll 13 rfl) (by decide) ?_
    exact qr_loc (q_leS (q_leS (q_leS q_le0))) (hK4 x1 x2 M)

def f_X12_statesAll_4 (n : Nat) : Nat → Int32 → Int32 → qM → qR
  | 0, _, _, _ => none
  | m + 1, a1, a2, M => b_X12_statesAll_4 n (f_X12_statesAll_4 n m) a1 a2 M
theorem w_X12_statesAll_4 {g : qG} {k : qK} (n : Nat) (j r : Nat) (hj : q_isLaw j) (hr : q_isLaw r) (o : qOk g 0 zX12_statesAll k) : ∀ (m : Nat) (a1 a2 : Int32) (M : qM), qAE g k zX12_statesAll (qL j r) 4 [some (.inr (some 77)), some (.inl a1), some (.inl a2)] [] (qL j r, M) (f_X12_statesAll_4 n m a1 a2 M) := by
  intro m
  induction m with
  | zero =>
    intro a1 a2 M
    exact qr_none
  | succ m ih =>
    intro a1 a2 M
    exact wb_X12_statesAll_4 n j r hj hr o (f_X12_statesAll_4 n m) ih a1 a2 M
def f_X12_statesAll (n : Nat) (M : qM) : qR :=
  f_X12_statesAll_4 n n (1 : Int32) (0 : Int32) M
set_option maxRecDepth 4000 in
theorem w_X12_statesAll {g : qG} {k : qK} (n : Nat) (j r : Nat) (hj : q_isLaw j) (hr : q_isLaw r) (o : qOk g 0 zX12_statesAll k) (M : qM) : qAE g k zX12_statesAll (qL j r) 0 [some (.inr (some 77)), none, none] [] (qL j r, M) (f_X12_statesAll n  M) := by
  unfold f_X12_statesAll
  refine qr_iconst o (q_dm dm_X12_statesAll 0 rfl) ic_1 ?_
  refine qs_istore_n (L' := [some (.inr (some 77)), some (.inl (1 : Int32)), none]) o (q_dm dm_X12_statesAll 1 rfl) (Nat.le_of_ble_eq_true rfl) rfl ?_
  refine qr_iconst o (q_dm dm_X12_statesAll 2 rfl) ic_0 ?_
  refine qs_istore_n (L' := [some (.inr (some 77)), some (.inl (1 : Int32)), some (.inl (0 : Int32))]) o (q_dm dm_X12_statesAll 3 rfl) (Nat.le_of_ble_eq_true rfl) rfl ?_
  exact qr_loc (q_leS (q_leS (q_leS q_le0))) (w_X12_statesAll_4 n j r hj hr o n (1 : Int32) (0 : Int32) M)

theorem a_X12_statesAll (g : qG) (l : Launch) (n : Nat) (j r : Nat) (hj : q_isLaw j) (hr : q_isLaw r) (M : qM) : qAM g l 0 zX12_statesAll (qL j r) [.inr (some 77)] (qL j r, M) (f_X12_statesAll n  M) :=
  qAM.of zv_X12_statesAll.1 (by show 1 ≤ 3; decide) (fun k hk o => w_X12_statesAll n j r hj hr o  M)

def tb_X12_cheapest : List (Nat × Instr × Nat) := [(0, (.aload_n 0, 1)), (1, (.iload_n 1, 1)), (2, (.iload_n 2, 1)), (3, (.iload_n 3, 1)), (4, (.invokevirtual 386, 3)), (7, (.ifCond .eq 25, 3)), (10, (.iload 4, 2)), (12, (.iconst 0, 1)), (13, (.sipush 200, 3)), (16, (.invokestatic 153, 3)), (19, (.ifCond .eq 13, 3)), (22, (.iload 5, 2)), (24, (.iconst 0, 1)), (25, (.iconst 1, 1)), (26, (.invokestatic 153, 3)), (29, (.ifCond .ne 5, 3)), (32, (.iconst (-1), 1)), (33, (.ireturn, 1)), (34, (.aload_n 0, 1)), (35, (.iload_n 1, 1)), (36, (.iload_n 2, 1)), (37, (.invokevirtual 389, 3)), (40, (.iconst 0, 1)), (41, (.istore 6, 2)), (43, (.iload 6, 2)), (45, (.aload_n 0, 1)), (46, (.getfield 365, 3)), (49, (.if_icmp .ge 28, 3)), (52, (.aload_n 0, 1)), (53, (.getfield 104, 3)), (56, (.iload 6, 2)), (58, (.aload_n 0, 1)), (59, (.iload_n 1, 1)), (60, (.aload_n 0, 1)), (61, (.getfield 92, 3)), (64, (.iload 6, 2)), (66, (.iaload, 1)), (67, (.invokevirtual 411, 3)), (70, (.iastore, 1)), (71, (.iinc 6 1, 3)), (74, (.goto (-31), 3)), (77, (.aload_n 0, 1)), (78, (.invokevirtual 392, 3)), (81, (.istore 6, 2)), (83, (.aload_n 0, 1)), (84, (.iload_n 3, 1)), (85, (.invokevirtual 395, 3)), (88, (.istore 7, 2)), (90, (.ldc_w 398, 3)), (93, (.istore 8, 2)), (95, (.aload_n 0, 1)), (96, (.iload 6, 2)), (98, (.invokevirtual 414, 3)), (101, (.iconst 0, 1)), (102, (.istore 9, 2)), (104, (.iload 9, 2)), (106, (.iload 6, 2)), (108, (.if_icmp .ge 83, 3)), (111, (.aload_n 0, 1)), (112, (.getfield 108, 3)), (115, (.iload 9, 2)), (117, (.baload, 1)), (118, (.ifCond .ne 6, 3)), (121, (.goto 64, 3)), (124, (.aload_n 0, 1)), (125, (.iload 9, 2)), (127, (.invokevirtual 399, 3)), (130, (.aload_n 0, 1)), (131, (.invokevirtual 402, 3)), (134, (.iload 4, 2)), (136, (.if_icmp .le 6, 3)), (139, (.goto 46, 3)), (142, (.aload_n 0, 1)), (143, (.getfield 89, 3)), (146, (.aload_n 0, 1)), (147, (.getfield 101, 3)), (150, (.iload 7, 2)), (152, (.iaload, 1)), (153, (.iaload, 1)), (154, (.ifCond .le 26, 3)), (157, (.iload 8, 2)), (159, (.sipush 256, 3)), (162, (.aload_n 0, 1)), (163, (.invokevirtual 417, 3)), (166, (.imul, 1)), (167, (.aload_n 0, 1)), (168, (.invokevirtual 402, 3)), (171, (.iadd, 1)), (172, (.invokestatic 307, 3)), (175, (.istore 8, 2)), (177, (.goto 8, 3)), (180, (.aload_n 0, 1)), (181, (.iconst 0, 1)), (182, (.invokevirtual 408, 3)), (185, (.iinc 9 1, 3)), (188, (.goto (-84), 3)), (191, (.iload 8, 2)), (193, (.ldc_w 398, 3)), (196, (.if_icmp .ne 8, 3)), (199, (.bipush (-2), 2)), (201, (.goto 23, 3)), (204, (.iload 5, 2)), (206, (.ifCond .ne 12, 3)), (209, (.iload 8, 2)), (211, (.sipush 256, 3)), (214, (.idiv, 1)), (215, (.goto 9, 3)), (218, (.iload 8, 2)), (220, (.sipush 256, 3)), (223, (.irem, 1)), (224, (.ireturn, 1))]
theorem dm_X12_cheapest : ∀ q ∈ tb_X12_cheapest, decode zX12_cheapest.2.1 q.1 = .ok q.2 := by decide +kernel
def b_X12_cheapest_104 (n : Nat) (K104 : Int32 → Int32 → Int32 → Int32 → Int32 → Int32 → qM → qR) (a4 a5 a6 a7 a8 a9 : Int32) (M : qM) : qR :=
  (if a6 ≤ a9 then (if a8 = (1000000000 : Int32) then some ((-2 : Int32), M) else (if a5 = (0 : Int32) then some ((a8 / (256 : Int32)), M) else some ((a8 - a8 / (256 : Int32) * (256 : Int32)), M))) else qg a9 160000 ((if (M 110 a9.toNatClampNeg) = (0 : Int32) then ql (a9 + (1 : Int32)) (fun x14 => K104 a4 a5 a6 a7 a8 x14 M) else qc (f_X12_takesState n a9 M) (fun _ m1 => qc (f_X12_hoursNow n  m1) (fun r2 m3 => (if r2 ≤ a4 then qg a7 4 (qg (m3 108 a7.toNatClampNeg) 20 ((if (m3 104 (m3 108 a7.toNatClampNeg).toNatClampNeg) ≤ (0 : Int32) then qc (f_X12_spreads n (0 : Int32) m3) (fun _ m4 => ql (a9 + (1 : Int32)) (fun x5 => K104 a4 a5 a6 a7 a8 x5 m4)) else qc (f_X12_coinsNow n  m3) (fun r6 m7 => qc (f_X12_hoursNow n  m7) (fun r8 m9 => qc (f_X12_min n a8 (((256 : Int32) * r6) + r8) m9) (fun r10 m11 => ql (a9 + (1 : Int32)) (fun x12 => K104 a4 a5 a6 a7 r10 x12 m11))))))) else ql (a9 + (1 : Int32)) (fun x13 => K104 a4 a5 a6 a7 a8 x13 m3)))))))
set_option maxRecDepth 4000 in
theorem wb_X12_cheapest_104 {g : qG} {k : qK} (n : Nat) (j r : Nat) (hj : q_isLaw j) (hr : q_isLaw r) (o : qOk g 5 zX12_cheapest k) (K104 : Int32 → Int32 → Int32 → Int32 → Int32 → Int32 → qM → qR) (hK104 : ∀ (a4 a5 a6 a7 a8 a9 : Int32) (M : qM), qAE g k zX12_cheapest (qL j r) 104 [some (.inr (some 77)), none, none, none, some (.inl a4), some (.inl a5), some (.inl a6), some (.inl a7), some (.inl a8), some (.inl a9)] [] (qL j r, M) (K104 a4 a5 a6 a7 a8 a9 M)) (a4 a5 a6 a7 a8 a9 : Int32) (M : qM) : qAE g k zX12_cheapest (qL j r) 104 [some (.inr (some 77)), none, none, none, some (.inl a4), some (.inl a5), some (.inl a6), some (.inl a7), some (.inl a8), some (.inl a9)] [] (qL j r, M) (b_X12_cheapest_104 n K104 a4 a5 a6 a7 a8 a9 M) := by
  unfold b_X12_cheapest_104
  refine qr_iload o (q_dm dm_X12_cheapest 55 rfl) rfl ?_
  refine qr_iload o (q_dm dm_X12_cheapest 56 rfl) rfl ?_
  refine qr_icmp_ge (tgt := 191) o (q_dm dm_X12_cheapest 57 rfl) (by decide) ?_ ?_
  · refine qr_iload o (q_dm dm_X12_cheapest 96 rfl) rfl ?_
    refine qr_ldc_w o (q_dm dm_X12_cheapest 97 rfl) kc_X12_398 ?_
    refine qr_icmp_ne (tgt := 204) o (q_dm dm_X12_cheapest 98 rfl) (by decide) ?_ ?_
    · refine qr_iload o (q_dm dm_X12_cheapest 101 rfl) rfl ?_
      refine qr_if_ne (tgt := 218) o (q_dm dm_X12_cheapest 102 rfl) (by decide) ?_ ?_
      · refine qr_iload o (q_dm dm_X12_cheapest 107 rfl) rfl ?_
        refine qr_sipush o (q_dm dm_X12_cheapest 108 rfl) si_256 ?_
        refine qr_iremc o (q_dm dm_X12_cheapest 109 rfl) (by decide) ?_
        exact qr_iret o rfl rfl (q_dm dm_X12_cheapest 110 rfl)
      · refine qr_iload o (q_dm dm_X12_cheapest 103 rfl) rfl ?_
        refine qr_sipush o (q_dm dm_X12_cheapest 104 rfl) si_256 ?_
        refine qr_idivc o (q_dm dm_X12_cheapest 105 rfl) (by decide) ?_
        refine qr_goto (tgt := 224) o (q_dm dm_X12_cheapest 106 rfl) (by decide) ?_
        exact qr_iret o rfl rfl (q_dm dm_X12_cheapest 110 rfl)
    · refine qr_bipush o (q_dm dm_X12_cheapest 99 rfl) bi_m2 ?_
      refine qr_goto (tgt := 224) o (q_dm dm_X12_cheapest 100 rfl) (by decide) ?_
      exact qr_iret o rfl rfl (q_dm dm_X12_cheapest 110 rfl)
  · refine qr_aload_n o (q_dm dm_X12_cheapest 58 rfl) rfl ?_
    refine qr_getr (kf := 53) o cf_X12 (sh77 j r) rfl (Nat.le_of_ble_eq_true rfl) fl_X12_108 (q_dm dm_X12_cheapest 59 rfl) ?_
    refine qr_iload o (q_dm dm_X12_cheapest 60 rfl) rfl ?_
    refine qr_zald o (sh110 j r) (q_dm dm_X12_cheapest 61 rfl) ?_
    refine qr_if_ne (tgt := 124) o (q_dm dm_X12_cheapest 62 rfl) (by decide) ?_ ?_
    · refine qr_aload_n o (q_dm dm_X12_cheapest 64 rfl) rfl ?_
      refine qr_iload o (q_dm dm_X12_cheapest 65 rfl) rfl ?_
      refine qr_callv_v (As := [.inl a9]) (S := []) o (a_X12_takesState g k.2.1 n j r hj hr a9 M) (Nat.le_of_ble_eq_true rfl) zv_X12_takesState rfl cf_X12 (sh77 j r) ml_X12_399 (Nat.le_of_ble_eq_true rfl) (q_dm dm_X12_cheapest 66 rfl) (fun _ m1 => ?_)
      refine qr_aload_n o (q_dm dm_X12_cheapest 67 rfl) rfl ?_
      refine qr_callv_i (As := []) (S := []) o (a_X12_hoursNow g k.2.1 n j r hj hr  m1) (Nat.le_of_ble_eq_true rfl) zv_X12_hoursNow rfl cf_X12 (sh77 j r) ml_X12_402 (Nat.le_of_ble_eq_true rfl) (q_dm dm_X12_cheapest 68 rfl) (fun r2 m3 => ?_)
      refine qr_iload o (q_dm dm_X12_cheapest 69 rfl) rfl ?_
      refine qr_icmp_le (tgt := 142) o (q_dm dm_X12_cheapest 70 rfl) (by decide) ?_ ?_
      · refine qr_aload_n o (q_dm dm_X12_cheapest 72 rfl) rfl ?_
        refine qr_getr (kf := 47) o cf_X12 (sh77 j r) rfl (Nat.le_of_ble_eq_true rfl) fl_X12_89 (q_dm dm_X12_cheapest 73 rfl) ?_
        refine qr_aload_n o (q_dm dm_X12_cheapest 74 rfl) rfl ?_
        refine qr_getr (kf := 51) o cf_X12 (sh77 j r) rfl (Nat.le_of_ble_eq_true rfl) fl_X12_101 (q_dm dm_X12_cheapest 75 rfl) ?_
        refine qr_iload o (q_dm dm_X12_cheapest 76 rfl) rfl ?_
        refine qr_iald o (sh108 j r) (q_dm dm_X12_cheapest 77 rfl) ?_
        refine qr_iald o (sh104 j r) (q_dm dm_X12_cheapest 78 rfl) ?_
        refine qr_if_le (tgt := 180) o (q_dm dm_X12_cheapest 79 rfl) (by decide) ?_ ?_
        · refine qr_aload_n o (q_dm dm_X12_cheapest 91 rfl) rfl ?_
          refine qr_iconst o (q_dm dm_X12_cheapest 92 rfl) ic_0 ?_
          refine qr_callv_v (As := [.inl (0 : Int32)]) (S := []) o (a_X12_spreads g k.2.1 n j r hj hr (0 : Int32) m3) (Nat.le_of_ble_eq_true rfl) zv_X12_spreads rfl cf_X12 (sh77 j r) ml_X12_408 (Nat.le_of_ble_eq_true rfl) (q_dm dm_X12_cheapest 93 rfl) (fun _ m4 => ?_)
          refine qs_iincl2 (L' := fun x5 => [some (.inr (some 77)), none, none, none, some (.inl a4), some (.inl a5), some (.inl a6), some (.inl a7), some (.inl a8), some (.inl x5)]) o (q_dm dm_X12_cheapest 94 rfl) rfl ic_1 (Nat.le_of_ble_eq_true rfl) (fun _ => rfl) (fun x5 => ?_)
          refine qr_goto (tgt := 104) o (q_dm dm_X12_cheapest 95 rfl) (by decide) ?_
          exact qr_loc (q_leS (q_leN (q_leN (q_leN (q_leS (q_leS (q_leS (q_leS (q_leS (q_leS q_le0)))))))))) (hK104 a4 a5 a6 a7 a8 x5 m4)
        · refine qr_iload o (q_dm dm_X12_cheapest 80 rfl) rfl ?_
          refine qr_sipush o (q_dm dm_X12_cheapest 81 rfl) si_256 ?_
          refine qr_aload_n o (q_dm dm_X12_cheapest 82 rfl) rfl ?_
          refine qr_callv_i (As := []) (S := [.inl (256 : Int32), .inl a8]) o (a_X12_coinsNow g k.2.1 n j r hj hr  m3) (Nat.le_of_ble_eq_true rfl) zv_X12_coinsNow rfl cf_X12 (sh77 j r) ml_X12_417 (Nat.le_of_ble_eq_true rfl) (q_dm dm_X12_cheapest 83 rfl) (fun r6 m7 => ?_)
          refine qr_imul o (q_dm dm_X12_cheapest 84 rfl) ?_
          refine qr_aload_n o (q_dm dm_X12_cheapest 85 rfl) rfl ?_
          refine qr_callv_i (As := []) (S := [.inl ((256 : Int32) * r6), .inl a8]) o (a_X12_hoursNow g k.2.1 n j r hj hr  m7) (Nat.le_of_ble_eq_true rfl) zv_X12_hoursNow rfl cf_X12 (sh77 j r) ml_X12_402 (Nat.le_of_ble_eq_true rfl) (q_dm dm_X12_cheapest 86 rfl) (fun r8 m9 => ?_)
          refine qr_iadd o (q_dm dm_X12_cheapest 87 rfl) ?_
          refine qr_calls_i (As := [.inl a8, .inl (((256 : Int32) * r6) + r8)]) (S := []) o (a_X12_min g k.2.1 n j r hj hr a8 (((256 : Int32) * r6) + r8) m9) (Nat.le_of_ble_eq_true rfl) zs_X12_min rfl ml_X12_307 (Nat.le_of_ble_eq_true rfl) (q_dm dm_X12_cheapest 88 rfl) (fun r10 m11 => ?_)
          refine qs_istore (L' := [some (.inr (some 77)), none, none, none, some (.inl a4), some (.inl a5), some (.inl a6), some (.inl a7), some (.inl r10), some (.inl a9)]) o (q_dm dm_X12_cheapest 89 rfl) (Nat.le_of_ble_eq_true rfl) rfl ?_
          refine qr_goto (tgt := 185) o (q_dm dm_X12_cheapest 90 rfl) (by decide) ?_
          refine qs_iincl2 (L' := fun x12 => [some (.inr (some 77)), none, none, none, some (.inl a4), some (.inl a5), some (.inl a6), some (.inl a7), some (.inl r10), some (.inl x12)]) o (q_dm dm_X12_cheapest 94 rfl) rfl ic_1 (Nat.le_of_ble_eq_true rfl) (fun _ => rfl) (fun x12 => ?_)
          refine qr_goto (tgt := 104) o (q_dm dm_X12_cheapest 95 rfl) (by decide) ?_
          exact qr_loc (q_leS (q_leN (q_leN (q_leN (q_leS (q_leS (q_leS (q_leS (q_leS (q_leS q_le0)))))))))) (hK104 a4 a5 a6 a7 r10 x12 m11)
      · refine qr_goto (tgt := 185) o (q_dm dm_X12_cheapest 71 rfl) (by decide) ?_
        refine qs_iincl2 (L' := fun x13 => [some (.inr (some 77)), none, none, none, some (.inl a4), some (.inl a5), some (.inl a6), some (.inl a7), some (.inl a8), some (.inl x13)]) o (q_dm dm_X12_cheapest 94 rfl) rfl ic_1 (Nat.le_of_ble_eq_true rfl) (fun _ => rfl) (fun x13 => ?_)
        refine qr_goto (tgt := 104) o (q_dm dm_X12_cheapest 95 rfl) (by decide) ?_
        exact qr_loc (q_leS (q_leN (q_leN (q_leN (q_leS (q_leS (q_leS (q_leS (q_leS (q_leS q_le0)))))))))) (hK104 a4 a5 a6 a7 a8 x13 m3)
    · refine qr_goto (tgt := 185) o (q_dm dm_X12_cheapest 63 rfl) (by decide) ?_
      refine qs_iincl2 (L' := fun x14 => [some (.inr (some 77)), none, none, none, some (.inl a4), some (.inl a5), some (.inl a6), some (.inl a7), some (.inl a8), some (.inl x14)]) o (q_dm dm_X12_cheapest 94 rfl) rfl ic_1 (Nat.le_of_ble_eq_true rfl) (fun _ => rfl) (fun x14 => ?_)
      refine qr_goto (tgt := 104) o (q_dm dm_X12_cheapest 95 rfl) (by decide) ?_
      exact qr_loc (q_leS (q_leN (q_leN (q_leN (q_leS (q_leS (q_leS (q_leS (q_leS (q_leS q_le0)))))))))) (hK104 a4 a5 a6 a7 a8 x14 M)

def f_X12_cheapest_104 (n : Nat) : Nat → Int32 → Int32 → Int32 → Int32 → Int32 → Int32 → qM → qR
  | 0, _, _, _, _, _, _, _ => none
  | m + 1, a4, a5, a6, a7, a8, a9, M => b_X12_cheapest_104 n (f_X12_cheapest_104 n m) a4 a5 a6 a7 a8 a9 M
theorem w_X12_cheapest_104 {g : qG} {k : qK} (n : Nat) (j r : Nat) (hj : q_isLaw j) (hr : q_isLaw r) (o : qOk g 5 zX12_cheapest k) : ∀ (m : Nat) (a4 a5 a6 a7 a8 a9 : Int32) (M : qM), qAE g k zX12_cheapest (qL j r) 104 [some (.inr (some 77)), none, none, none, some (.inl a4), some (.inl a5), some (.inl a6), some (.inl a7), some (.inl a8), some (.inl a9)] [] (qL j r, M) (f_X12_cheapest_104 n m a4 a5 a6 a7 a8 a9 M) := by
  intro m
  induction m with
  | zero =>
    intro a4 a5 a6 a7 a8 a9 M
    exact qr_none
  | succ m ih =>
    intro a4 a5 a6 a7 a8 a9 M
    exact wb_X12_cheapest_104 n j r hj hr o (f_X12_cheapest_104 n m) ih a4 a5 a6 a7 a8 a9 M
def b_X12_cheapest_43 (n : Nat) (K43 : Int32 → Int32 → Int32 → Int32 → Int32 → qM → qR) (a1 a3 a4 a5 a6 : Int32) (M : qM) : qR :=
  (if (M 77 43) ≤ a6 then qc (f_X12_statesAll n  M) (fun r1 m2 => qc (f_X12_placeOf n a3 m2) (fun r3 m4 => qc (f_X12_marksBought n r1 m4) (fun _ m5 => f_X12_cheapest_104 n n a4 a5 r1 r3 (1000000000 : Int32) (0 : Int32) m5))) else qg a6 4 (qc (f_X12_leastPrice n a1 (M 105 a6.toNatClampNeg) M) (fun r6 m7 => qg a6 4 (qlm (mu m7 109 a6.toNatClampNeg r6) (fun m8 => ql (a6 + (1 : Int32)) (fun x9 => K43 a1 a3 a4 a5 x9 m8))))))
set_option maxRecDepth 4000 in
theorem wb_X12_cheapest_43 {g : qG} {k : qK} (n : Nat) (j r : Nat) (hj : q_isLaw j) (hr : q_isLaw r) (o : qOk g 5 zX12_cheapest k) (K43 : Int32 → Int32 → Int32 → Int32 → Int32 → qM → qR) (hK43 : ∀ (a1 a3 a4 a5 a6 : Int32) (M : qM), qAE g k zX12_cheapest (qL j r) 43 [some (.inr (some 77)), some (.inl a1), none, some (.inl a3), some (.inl a4), some (.inl a5), some (.inl a6), none, none, none] [] (qL j r, M) (K43 a1 a3 a4 a5 a6 M)) (a1 a3 a4 a5 a6 : Int32) (M : qM) : qAE g k zX12_cheapest (qL j r) 43 [some (.inr (some 77)), some (.inl a1), none, some (.inl a3), some (.inl a4), some (.inl a5), some (.inl a6), none, none, none] [] (qL j r, M) (b_X12_cheapest_43 n K43 a1 a3 a4 a5 a6 M) := by
  unfold b_X12_cheapest_43
  refine qr_iload o (q_dm dm_X12_cheapest 24 rfl) rfl ?_
  refine qr_aload_n o (q_dm dm_X12_cheapest 25 rfl) rfl ?_
  refine qr_getf (kf := 43) o cf_X12 (sh77 j r) rfl (Nat.le_of_ble_eq_true rfl) fl_X12_365 (q_dm dm_X12_cheapest 26 rfl) ?_
  refine qr_icmp_ge (tgt := 77) o (q_dm dm_X12_cheapest 27 rfl) (by decide) ?_ ?_
  · refine qr_aload_n o (q_dm dm_X12_cheapest 41 rfl) rfl ?_
    refine qr_callv_i (As := []) (S := []) o (a_X12_statesAll g k.2.1 n j r hj hr  M) (Nat.le_of_ble_eq_true rfl) zv_X12_statesAll rfl cf_X12 (sh77 j r) ml_X12_392 (Nat.le_of_ble_eq_true rfl) (q_dm dm_X12_cheapest 42 rfl) (fun r1 m2 => ?_)
    refine qs_istore (L' := [some (.inr (some 77)), some (.inl a1), none, some (.inl a3), some (.inl a4), some (.inl a5), some (.inl r1), none, none, none]) o (q_dm dm_X12_cheapest 43 rfl) (Nat.le_of_ble_eq_true rfl) rfl ?_
    refine qr_aload_n o (q_dm dm_X12_cheapest 44 rfl) rfl ?_
    refine qr_iload_n o (q_dm dm_X12_cheapest 45 rfl) rfl ?_
    refine qr_callv_i (As := [.inl a3]) (S := []) o (a_X12_placeOf g k.2.1 n j r hj hr a3 m2) (Nat.le_of_ble_eq_true rfl) zv_X12_placeOf rfl cf_X12 (sh77 j r) ml_X12_395 (Nat.le_of_ble_eq_true rfl) (q_dm dm_X12_cheapest 46 rfl) (fun r3 m4 => ?_)
    refine qs_istore (L' := [some (.inr (some 77)), some (.inl a1), none, some (.inl a3), some (.inl a4), some (.inl a5), some (.inl r1), some (.inl r3), none, none]) o (q_dm dm_X12_cheapest 47 rfl) (Nat.le_of_ble_eq_true rfl) rfl ?_
    refine qr_ldc_w o (q_dm dm_X12_cheapest 48 rfl) kc_X12_398 ?_
    refine qs_istore (L' := [some (.inr (some 77)), some (.inl a1), none, some (.inl a3), some (.inl a4), some (.inl a5), some (.inl r1), some (.inl r3), some (.inl (1000000000 : Int32)), none]) o (q_dm dm_X12_cheapest 49 rfl) (Nat.le_of_ble_eq_true rfl) rfl ?_
    refine qr_aload_n o (q_dm dm_X12_cheapest 50 rfl) rfl ?_
    refine qr_iload o (q_dm dm_X12_cheapest 51 rfl) rfl ?_
    refine qr_callv_v (As := [.inl r1]) (S := []) o (a_X12_marksBought g k.2.1 n j r hj hr r1 m4) (Nat.le_of_ble_eq_true rfl) zv_X12_marksBought rfl cf_X12 (sh77 j r) ml_X12_414 (Nat.le_of_ble_eq_true rfl) (q_dm dm_X12_cheapest 52 rfl) (fun _ m5 => ?_)
    refine qr_iconst o (q_dm dm_X12_cheapest 53 rfl) ic_0 ?_
    refine qs_istore (L' := [some (.inr (some 77)), some (.inl a1), none, some (.inl a3), some (.inl a4), some (.inl a5), some (.inl r1), some (.inl r3), some (.inl (1000000000 : Int32)), some (.inl (0 : Int32))]) o (q_dm dm_X12_cheapest 54 rfl) (Nat.le_of_ble_eq_true rfl) rfl ?_
    exact qr_loc (q_leS (q_leN (q_leN (q_leN (q_leS (q_leS (q_leS (q_leS (q_leS (q_leS q_le0)))))))))) (w_X12_cheapest_104 n j r hj hr o n a4 a5 r1 r3 (1000000000 : Int32) (0 : Int32) m5)
  · refine qr_aload_n o (q_dm dm_X12_cheapest 28 rfl) rfl ?_
    refine qr_getr (kf := 52) o cf_X12 (sh77 j r) rfl (Nat.le_of_ble_eq_true rfl) fl_X12_104 (q_dm dm_X12_cheapest 29 rfl) ?_
    refine qr_iload o (q_dm dm_X12_cheapest 30 rfl) rfl ?_
    refine qr_aload_n o (q_dm dm_X12_cheapest 31 rfl) rfl ?_
    refine qr_iload_n o (q_dm dm_X12_cheapest 32 rfl) rfl ?_
    refine qr_aload_n o (q_dm dm_X12_cheapest 33 rfl) rfl ?_
    refine qr_getr (kf := 48) o cf_X12 (sh77 j r) rfl (Nat.le_of_ble_eq_true rfl) fl_X12_92 (q_dm dm_X12_cheapest 34 rfl) ?_
    refine qr_iload o (q_dm dm_X12_cheapest 35 rfl) rfl ?_
    refine qr_iald o (sh105 j r) (q_dm dm_X12_cheapest 36 rfl) ?_
    refine qr_callv_i (As := [.inl a1, .inl (M 105 a6.toNatClampNeg)]) (S := [.inl a6, .inr (some 109)]) o (a_X12_leastPrice g k.2.1 n j r hj hr a1 (M 105 a6.toNatClampNeg) M) (Nat.le_of_ble_eq_true rfl) zv_X12_leastPrice rfl cf_X12 (sh77 j r) ml_X12_411 (Nat.le_of_ble_eq_true rfl) (q_dm dm_X12_cheapest 37 rfl) (fun r6 m7 => ?_)
    refine qr_iast o (sh109 j r) (q_dm dm_X12_cheapest 38 rfl) ?_
    refine qr_letm (fun m8 => ?_)
    refine qs_iincl2 (L' := fun x9 => [some (.inr (some 77)), some (.inl a1), none, some (.inl a3), some (.inl a4), some (.inl a5), some (.inl x9), none, none, none]) o (q_dm dm_X12_cheapest 39 rfl) rfl ic_1 (Nat.le_of_ble_eq_true rfl) (fun _ => rfl) (fun x9 => ?_)
    refine qr_goto (tgt := 43) o (q_dm dm_X12_cheapest 40 rfl) (by decide) ?_
    exact qr_loc (q_leS (q_leS (q_leN (q_leS (q_leS (q_leS (q_leS (q_leN (q_leN (q_leN q_le0)))))))))) (hK43 a1 a3 a4 a5 x9 m8)

def f_X12_cheapest_43 (n : Nat) : Nat → Int32 → Int32 → Int32 → Int32 → Int32 → qM → qR
  | 0, _, _, _, _, _, _ => none
  | m + 1, a1, a3, a4, a5, a6, M => b_X12_cheapest_43 n (f_X12_cheapest_43 n m) a1 a3 a4 a5 a6 M
theorem w_X12_cheapest_43 {g : qG} {k : qK} (n : Nat) (j r : Nat) (hj : q_isLaw j) (hr : q_isLaw r) (o : qOk g 5 zX12_cheapest k) : ∀ (m : Nat) (a1 a3 a4 a5 a6 : Int32) (M : qM), qAE g k zX12_cheapest (qL j r) 43 [some (.inr (some 77)), some (.inl a1), none, some (.inl a3), some (.inl a4), some (.inl a5), some (.inl a6), none, none, none] [] (qL j r, M) (f_X12_cheapest_43 n m a1 a3 a4 a5 a6 M) := by
  intro m
  induction m with
  | zero =>
    intro a1 a3 a4 a5 a6 M
    exact qr_none
  | succ m ih =>
    intro a1 a3 a4 a5 a6 M
    exact wb_X12_cheapest_43 n j r hj hr o (f_X12_cheapest_43 n m) ih a1 a3 a4 a5 a6 M
def f_X12_cheapest (n : Nat) (a1 a2 a3 a4 a5 : Int32) (M : qM) : qR :=
  qc (f_X12_areSome n a1 a2 a3 M) (fun r1 m2 => (if r1 = (0 : Int32) then some ((-1 : Int32), m2) else qc (f_X12_in n a4 (0 : Int32) (200 : Int32) m2) (fun r3 m4 => (if r3 = (0 : Int32) then some ((-1 : Int32), m4) else qc (f_X12_in n a5 (0 : Int32) (1 : Int32) m4) (fun r5 m6 => (if r5 = (0 : Int32) then some ((-1 : Int32), m6) else qc (f_X12_laysOwn n a1 a2 m6) (fun _ m7 => f_X12_cheapest_43 n n a1 a3 a4 a5 (0 : Int32) m7)))))))
set_option maxRecDepth 4000 in
theorem w_X12_cheapest {g : qG} {k : qK} (n : Nat) (j r : Nat) (hj : q_isLaw j) (hr : q_isLaw r) (o : qOk g 5 zX12_cheapest k) (a1 a2 a3 a4 a5 : Int32) (M : qM) : qAE g k zX12_cheapest (qL j r) 0 [some (.inr (some 77)), some (.inl a1), some (.inl a2), some (.inl a3), some (.inl a4), some (.inl a5), none, none, none, none] [] (qL j r, M) (f_X12_cheapest n a1 a2 a3 a4 a5 M) := by
  unfold f_X12_cheapest
  refine qr_aload_n o (q_dm dm_X12_cheapest 0 rfl) rfl ?_
  refine qr_iload_n o (q_dm dm_X12_cheapest 1 rfl) rfl ?_
  refine qr_iload_n o (q_dm dm_X12_cheapest 2 rfl) rfl ?_
  refine qr_iload_n o (q_dm dm_X12_cheapest 3 rfl) rfl ?_
  refine qr_callv_i (As := [.inl a1, .inl a2, .inl a3]) (S := []) o (a_X12_areSome g k.2.1 n j r hj hr a1 a2 a3 M) (Nat.le_of_ble_eq_true rfl) zv_X12_areSome rfl cf_X12 (sh77 j r) ml_X12_386 (Nat.le_of_ble_eq_true rfl) (q_dm dm_X12_cheapest 4 rfl) (fun r1 m2 => ?_)
  refine qr_if_eq (tgt := 32) o (q_dm dm_X12_cheapest 5 rfl) (by decide) ?_ ?_
  · refine qr_iconst o (q_dm dm_X12_cheapest 16 rfl) ic_m1 ?_
    exact qr_iret o rfl rfl (q_dm dm_X12_cheapest 17 rfl)
  · refine qr_iload o (q_dm dm_X12_cheapest 6 rfl) rfl ?_
    refine qr_iconst o (q_dm dm_X12_cheapest 7 rfl) ic_0 ?_
    refine qr_sipush o (q_dm dm_X12_cheapest 8 rfl) si_200 ?_
    refine qr_calls_i (As := [.inl a4, .inl (0 : Int32), .inl (200 : Int32)]) (S := []) o (a_X12_in g k.2.1 n j r hj hr a4 (0 : Int32) (200 : Int32) m2) (Nat.le_of_ble_eq_true rfl) zs_X12_in rfl ml_X12_153 (Nat.le_of_ble_eq_true rfl) (q_dm dm_X12_cheapest 9 rfl) (fun r3 m4 => ?_)
    refine qr_if_eq (tgt := 32) o (q_dm dm_X12_cheapest 10 rfl) (by decide) ?_ ?_
    · refine qr_iconst o (q_dm dm_X12_cheapest 16 rfl) ic_m1 ?_
      exact qr_iret o rfl rfl (q_dm dm_X12_cheapest 17 rfl)
    · refine qr_iload o (q_dm dm_X12_cheapest 11 rfl) rfl ?_
      refine qr_iconst o (q_dm dm_X12_cheapest 12 rfl) ic_0 ?_
      refine qr_iconst o (q_dm dm_X12_cheapest 13 rfl) ic_1 ?_
      refine qr_calls_i (As := [.inl a5, .inl (0 : Int32), .inl (1 : Int32)]) (S := []) o (a_X12_in g k.2.1 n j r hj hr a5 (0 : Int32) (1 : Int32) m4) (Nat.le_of_ble_eq_true rfl) zs_X12_in rfl ml_X12_153 (Nat.le_of_ble_eq_true rfl) (q_dm dm_X12_cheapest 14 rfl) (fun r5 m6 => ?_)
      refine qr_if_ne (tgt := 34) o (q_dm dm_X12_cheapest 15 rfl) (by decide) ?_ ?_
      · refine qr_aload_n o (q_dm dm_X12_cheapest 18 rfl) rfl ?_
        refine qr_iload_n o (q_dm dm_X12_cheapest 19 rfl) rfl ?_
        refine qr_iload_n o (q_dm dm_X12_cheapest 20 rfl) rfl ?_
        refine qr_callv_v (As := [.inl a1, .inl a2]) (S := []) o (a_X12_laysOwn g k.2.1 n j r hj hr a1 a2 m6) (Nat.le_of_ble_eq_true rfl) zv_X12_laysOwn rfl cf_X12 (sh77 j r) ml_X12_389 (Nat.le_of_ble_eq_true rfl) (q_dm dm_X12_cheapest 21 rfl) (fun _ m7 => ?_)
        refine qr_iconst o (q_dm dm_X12_cheapest 22 rfl) ic_0 ?_
        refine qs_istore (L' := [some (.inr (some 77)), some (.inl a1), some (.inl a2), some (.inl a3), some (.inl a4), some (.inl a5), some (.inl (0 : Int32)), none, none, none]) o (q_dm dm_X12_cheapest 23 rfl) (Nat.le_of_ble_eq_true rfl) rfl ?_
        exact qr_loc (q_leS (q_leS (q_leN (q_leS (q_leS (q_leS (q_leS (q_leN (q_leN (q_leN q_le0)))))))))) (w_X12_cheapest_43 n j r hj hr o n a1 a3 a4 a5 (0 : Int32) m7)
      · refine qr_iconst o (q_dm dm_X12_cheapest 16 rfl) ic_m1 ?_
        exact qr_iret o rfl rfl (q_dm dm_X12_cheapest 17 rfl)

theorem a_X12_cheapest (g : qG) (l : Launch) (n : Nat) (j r : Nat) (hj : q_isLaw j) (hr : q_isLaw r) (a1 a2 a3 a4 a5 : Int32) (M : qM) : qAM g l 5 zX12_cheapest (qL j r) [.inr (some 77), .inl a1, .inl a2, .inl a3, .inl a4, .inl a5] (qL j r, M) (f_X12_cheapest n a1 a2 a3 a4 a5 M) :=
  qAM.of zv_X12_cheapest.1 (by show 6 ≤ 10; decide) (fun k hk o => w_X12_cheapest n j r hj hr o a1 a2 a3 a4 a5 M)
def tb_X12_tapeNumber : List (Nat × Instr × Nat) := [(0, (.iconst 0, 1)), (1, (.istore_n 2, 1)), (2, (.iconst 4, 1)), (3, (.iload_n 1, 1)), (4, (.imul, 1)), (5, (.istore_n 3, 1)), (6, (.iload_n 3, 1)), (7, (.iconst 4, 1)), (8, (.iload_n 1, 1)), (9, (.imul, 1)), (10, (.iconst 4, 1)), (11, (.iadd, 1)), (12, (.if_icmp .ge 25, 3)), (15, (.iload_n 2, 1)), (16, (.bipush 8, 2)), (18, (.ishl, 1)), (19, (.aload_n 0, 1)), (20, (.getfield 28, 3)), (23, (.iload_n 3, 1)), (24, (.baload, 1)), (25, (.sipush 255, 3)), (28, (.iand, 1)), (29, (.ior, 1)), (30, (.istore_n 2, 1)), (31, (.iinc 3 1, 3)), (34, (.goto (-28), 3)), (37, (.iload_n 2, 1)), (38, (.ireturn, 1))]
theorem dm_X12_tapeNumber : ∀ q ∈ tb_X12_tapeNumber, decode zX12_tapeNumber.2.1 q.1 = .ok q.2 := by decide +kernel
def b_X12_tapeNumber_6 (n : Nat) (K6 : Int32 → Int32 → Int32 → qM → qR) (a1 a2 a3 : Int32) (M : qM) : qR :=
  (if (((4 : Int32) * a1) + (4 : Int32)) ≤ a3 then some (a2, M) else qg a3 260 (ql ((a2 <<< ((8 : Int32) &&& 31)) ||| ((M 84 a3.toNatClampNeg) &&& (255 : Int32))) (fun x1 => ql (a3 + (1 : Int32)) (fun x2 => K6 a1 x1 x2 M))))
set_option maxRecDepth 4000 in
theorem wb_X12_tapeNumber_6 {g : qG} {k : qK} (n : Nat) (j r : Nat) (hj : q_isLaw j) (hr : q_isLaw r) (o : qOk g 0 zX12_tapeNumber k) (K6 : Int32 → Int32 → Int32 → qM → qR) (hK6 : ∀ (a1 a2 a3 : Int32) (M : qM), qAE g k zX12_tapeNumber (qL j r) 6 [some (.inr (some 77)), some (.inl a1), some (.inl a2), some (.inl a3)] [] (qL j r, M) (K6 a1 a2 a3 M)) (a1 a2 a3 : Int32) (M : qM) : qAE g k zX12_tapeNumber (qL j r) 6 [some (.inr (some 77)), some (.inl a1), some (.inl a2), some (.inl a3)] [] (qL j r, M) (b_X12_tapeNumber_6 n K6 a1 a2 a3 M) := by
  unfold b_X12_tapeNumber_6
  refine qr_iload_n o (q_dm dm_X12_tapeNumber 6 rfl) rfl ?_
  refine qr_iconst o (q_dm dm_X12_tapeNumber 7 rfl) ic_4 ?_
  refine qr_iload_n o (q_dm dm_X12_tapeNumber 8 rfl) rfl ?_
  refine qr_imul o (q_dm dm_X12_tapeNumber 9 rfl) ?_
  refine qr_iconst o (q_dm dm_X12_tapeNumber 10 rfl) ic_4 ?_
  refine qr_iadd o (q_dm dm_X12_tapeNumber 11 rfl) ?_
  refine qr_icmp_ge (tgt := 37) o (q_dm dm_X12_tapeNumber 12 rfl) (by decide) ?_ ?_
  · refine qr_iload_n o (q_dm dm_X12_tapeNumber 26 rfl) rfl ?_
    exact qr_iret o rfl rfl (q_dm dm_X12_tapeNumber 27 rfl)
  · refine qr_iload_n o (q_dm dm_X12_tapeNumber 13 rfl) rfl ?_
    refine qr_bipush o (q_dm dm_X12_tapeNumber 14 rfl) bi_8 ?_
    refine qr_ishl o (q_dm dm_X12_tapeNumber 15 rfl) ?_
    refine qr_aload_n o (q_dm dm_X12_tapeNumber 16 rfl) rfl ?_
    refine qr_getr (kf := 7) o cf_X12 (sh77 j r) rfl (Nat.le_of_ble_eq_true rfl) fl_X12_28 (q_dm dm_X12_tapeNumber 17 rfl) ?_
    refine qr_iload_n o (q_dm dm_X12_tapeNumber 18 rfl) rfl ?_
    refine qr_bald o (sh84 j r) (q_dm dm_X12_tapeNumber 19 rfl) ?_
    refine qr_sipush o (q_dm dm_X12_tapeNumber 20 rfl) si_255 ?_
    refine qr_iand o (q_dm dm_X12_tapeNumber 21 rfl) ?_
    refine qr_ior o (q_dm dm_X12_tapeNumber 22 rfl) ?_
    refine qr_lt (fun x1 => ?_)
    refine qs_istore_n (L' := [some (.inr (some 77)), some (.inl a1), some (.inl x1), some (.inl a3)]) o (q_dm dm_X12_tapeNumber 23 rfl) (Nat.le_of_ble_eq_true rfl) rfl ?_
    refine qs_iincl2 (L' := fun x2 => [some (.inr (some 77)), some (.inl a1), some (.inl x1), some (.inl x2)]) o (q_dm dm_X12_tapeNumber 24 rfl) rfl ic_1 (Nat.le_of_ble_eq_true rfl) (fun _ => rfl) (fun x2 => ?_)
    refine qr_goto (tgt := 6) o (q_dm dm_X12_tapeNumber 25 rfl) (by decide) ?_
    exact qr_loc (q_leS (q_leS (q_leS (q_leS q_le0)))) (hK6 a1 x1 x2 M)

def f_X12_tapeNumber_6 (n : Nat) : Nat → Int32 → Int32 → Int32 → qM → qR
  | 0, _, _, _, _ => none
  | m + 1, a1, a2, a3, M => b_X12_tapeNumber_6 n (f_X12_tapeNumber_6 n m) a1 a2 a3 M
theorem w_X12_tapeNumber_6 {g : qG} {k : qK} (n : Nat) (j r : Nat) (hj : q_isLaw j) (hr : q_isLaw r) (o : qOk g 0 zX12_tapeNumber k) : ∀ (m : Nat) (a1 a2 a3 : Int32) (M : qM), qAE g k zX12_tapeNumber (qL j r) 6 [some (.inr (some 77)), some (.inl a1), some (.inl a2), some (.inl a3)] [] (qL j r, M) (f_X12_tapeNumber_6 n m a1 a2 a3 M) := by
  intro m
  induction m with
  | zero =>
    intro a1 a2 a3 M
    exact qr_none
  | succ m ih =>
    intro a1 a2 a3 M
    exact wb_X12_tapeNumber_6 n j r hj hr o (f_X12_tapeNumber_6 n m) ih a1 a2 a3 M
def f_X12_tapeNumber (n : Nat) (a1 : Int32) (M : qM) : qR :=
  ql ((4 : Int32) * a1) (fun x1 => f_X12_tapeNumber_6 n n a1 (0 : Int32) x1 M)
set_option maxRecDepth 4000 in
theorem w_X12_tapeNumber {g : qG} {k : qK} (n : Nat) (j r : Nat) (hj : q_isLaw j) (hr : q_isLaw r) (o : qOk g 0 zX12_tapeNumber k) (a1 : Int32) (M : qM) : qAE g k zX12_tapeNumber (qL j r) 0 [some (.inr (some 77)), some (.inl a1), none, none] [] (qL j r, M) (f_X12_tapeNumber n a1 M) := by
  unfold f_X12_tapeNumber
  refine qr_iconst o (q_dm dm_X12_tapeNumber 0 rfl) ic_0 ?_
  refine qs_istore_n (L' := [some (.inr (some 77)), some (.inl a1), some (.inl (0 : Int32)), none]) o (q_dm dm_X12_tapeNumber 1 rfl) (Nat.le_of_ble_eq_true rfl) rfl ?_
  refine qr_iconst o (q_dm dm_X12_tapeNumber 2 rfl) ic_4 ?_
  refine qr_iload_n o (q_dm dm_X12_tapeNumber 3 rfl) rfl ?_
  refine qr_imul o (q_dm dm_X12_tapeNumber 4 rfl) ?_
  refine qr_lt (fun x1 => ?_)
  refine qs_istore_n (L' := [some (.inr (some 77)), some (.inl a1), some (.inl (0 : Int32)), some (.inl x1)]) o (q_dm dm_X12_tapeNumber 5 rfl) (Nat.le_of_ble_eq_true rfl) rfl ?_
  exact qr_loc (q_leS (q_leS (q_leS (q_leS q_le0)))) (w_X12_tapeNumber_6 n j r hj hr o n a1 (0 : Int32) x1 M)

theorem a_X12_tapeNumber (g : qG) (l : Launch) (n : Nat) (j r : Nat) (hj : q_isLaw j) (hr : q_isLaw r) (a1 : Int32) (M : qM) : qAM g l 0 zX12_tapeNumber (qL j r) [.inr (some 77), .inl a1] (qL j r, M) (f_X12_tapeNumber n a1 M) :=
  qAM.of zv_X12_tapeNumber.1 (by show 2 ≤ 4; decide) (fun k hk o => w_X12_tapeNumber n j r hj hr o a1 M)
def tb_X12_check : List (Nat × Instr × Nat) := [(0, (.aload_n 0, 1)), (1, (.iload_n 1, 1)), (2, (.invokevirtual 310, 3)), (5, (.ifCond .eq 23, 3)), (8, (.iload_n 2, 1)), (9, (.iconst 0, 1)), (10, (.bipush 12, 2)), (12, (.invokestatic 153, 3)), (15, (.ifCond .eq 13, 3)), (18, (.iload_n 2, 1)), (19, (.aload_n 0, 1)), (20, (.getfield 162, 3)), (23, (.iconst 4, 1)), (24, (.idiv, 1)), (25, (.if_icmp .le 6, 3)), (28, (.bipush (-2), 2)), (30, (.ireturn, 1)), (31, (.aload_n 0, 1)), (32, (.iconst 0, 1)), (33, (.putfield 162, 3)), (36, (.iconst 0, 1)), (37, (.istore_n 3, 1)), (38, (.iload_n 3, 1)), (39, (.iload_n 2, 1)), (40, (.if_icmp .ge 31, 3)), (43, (.aload_n 0, 1)), (44, (.iload_n 3, 1)), (45, (.invokevirtual 493, 3)), (48, (.aload_n 0, 1)), (49, (.getfield 7, 3)), (52, (.iconst 0, 1)), (53, (.iload_n 1, 1)), (54, (.iload_n 3, 1)), (55, (.invokestatic 282, 3)), (58, (.iadd, 1)), (59, (.iaload, 1)), (60, (.if_icmp .eq 5, 3)), (63, (.iload_n 3, 1)), (64, (.ireturn, 1)), (65, (.iinc 3 1, 3)), (68, (.goto (-30), 3)), (71, (.iconst (-1), 1)), (72, (.ireturn, 1))]
theorem dm_X12_check : ∀ q ∈ tb_X12_check, decode zX12_check.2.1 q.1 = .ok q.2 := by decide +kernel
def b_X12_check_38 (n : Nat) (K38 : Int32 → Int32 → Int32 → qM → qR) (a1 a2 a3 : Int32) (M : qM) : qR :=
  (if a2 ≤ a3 then some ((-1 : Int32), M) else qc (f_X12_tapeNumber n a3 M) (fun r1 m2 => qc (f_X12_at n a1 a3 m2) (fun r3 m4 => qg ((0 : Int32) + r3) 954 ((if r1 = (m4 78 ((0 : Int32) + r3).toNatClampNeg) then ql (a3 + (1 : Int32)) (fun x5 => K38 a1 a2 x5 m4) else some (a3, m4))))))
set_option maxRecDepth 4000 in
theorem wb_X12_check_38 {g : qG} {k : qK} (n : Nat) (j r : Nat) (hj : q_isLaw j) (hr : q_isLaw r) (o : qOk g 2 zX12_check k) (K38 : Int32 → Int32 → Int32 → qM → qR) (hK38 : ∀ (a1 a2 a3 : Int32) (M : qM), qAE g k zX12_check (qL j r) 38 [some (.inr (some 77)), some (.inl a1), some (.inl a2), some (.inl a3)] [] (qL j r, M) (K38 a1 a2 a3 M)) (a1 a2 a3 : Int32) (M : qM) : qAE g k zX12_check (qL j r) 38 [some (.inr (some 77)), some (.inl a1), some (.inl a2), some (.inl a3)] [] (qL j r, M) (b_X12_check_38 n K38 a1 a2 a3 M) := by
  unfold b_X12_check_38
  refine qr_iload_n o (q_dm dm_X12_check 22 rfl) rfl ?_
  refine qr_iload_n o (q_dm dm_X12_check 23 rfl) rfl ?_
  refine qr_icmp_ge (tgt := 71) o (q_dm dm_X12_check 24 rfl) (by decide) ?_ ?_
  · refine qr_iconst o (q_dm dm_X12_check 41 rfl) ic_m1 ?_
    exact qr_iret o rfl rfl (q_dm dm_X12_check 42 rfl)
  · refine qr_aload_n o (q_dm dm_X12_check 25 rfl) rfl ?_
    refine qr_iload_n o (q_dm dm_X12_check 26 rfl) rfl ?_
    refine qr_callv_i (As := [.inl a3]) (S := []) o (a_X12_tapeNumber g k.2.1 n j r hj hr a3 M) (Nat.le_of_ble_eq_true rfl) zv_X12_tapeNumber rfl cf_X12 (sh77 j r) ml_X12_493 (Nat.le_of_ble_eq_true rfl) (q_dm dm_X12_check 27 rfl) (fun r1 m2 => ?_)
    refine qr_aload_n o (q_dm dm_X12_check 28 rfl) rfl ?_
    refine qr_getr (kf := 0) o cf_X12 (sh77 j r) rfl (Nat.le_of_ble_eq_true rfl) fl_X12_7 (q_dm dm_X12_check 29 rfl) ?_
    refine qr_iconst o (q_dm dm_X12_check 30 rfl) ic_0 ?_
    refine qr_iload_n o (q_dm dm_X12_check 31 rfl) rfl ?_
    refine qr_iload_n o (q_dm dm_X12_check 32 rfl) rfl ?_
    refine qr_calls_i (As := [.inl a1, .inl a3]) (S := [.inl (0 : Int32), .inr (some 78), .inl r1]) o (a_X12_at g k.2.1 n j r hj hr a1 a3 m2) (Nat.le_of_ble_eq_true rfl) zs_X12_at rfl ml_X12_282 (Nat.le_of_ble_eq_true rfl) (q_dm dm_X12_check 33 rfl) (fun r3 m4 => ?_)
    refine qr_iadd o (q_dm dm_X12_check 34 rfl) ?_
    refine qr_iald o (sh78 j r) (q_dm dm_X12_check 35 rfl) ?_
    refine qr_icmp_eq (tgt := 65) o (q_dm dm_X12_check 36 rfl) (by decide) ?_ ?_
    · refine qs_iincl2 (L' := fun x5 => [some (.inr (some 77)), some (.inl a1), some (.inl a2), some (.inl x5)]) o (q_dm dm_X12_check 39 rfl) rfl ic_1 (Nat.le_of_ble_eq_true rfl) (fun _ => rfl) (fun x5 => ?_)
      refine qr_goto (tgt := 38) o (q_dm dm_X12_check 40 rfl) (by decide) ?_
      exact qr_loc (q_leS (q_leS (q_leS (q_leS q_le0)))) (hK38 a1 a2 x5 m4)
    · refine qr_iload_n o (q_dm dm_X12_check 37 rfl) rfl ?_
      exact qr_iret o rfl rfl (q_dm dm_X12_check 38 rfl)

def f_X12_check_38 (n : Nat) : Nat → Int32 → Int32 → Int32 → qM → qR
  | 0, _, _, _, _ => none
  | m + 1, a1, a2, a3, M => b_X12_check_38 n (f_X12_check_38 n m) a1 a2 a3 M
theorem w_X12_check_38 {g : qG} {k : qK} (n : Nat) (j r : Nat) (hj : q_isLaw j) (hr : q_isLaw r) (o : qOk g 2 zX12_check k) : ∀ (m : Nat) (a1 a2 a3 : Int32) (M : qM), qAE g k zX12_check (qL j r) 38 [some (.inr (some 77)), some (.inl a1), some (.inl a2), some (.inl a3)] [] (qL j r, M) (f_X12_check_38 n m a1 a2 a3 M) := by
  intro m
  induction m with
  | zero =>
    intro a1 a2 a3 M
    exact qr_none
  | succ m ih =>
    intro a1 a2 a3 M
    exact wb_X12_check_38 n j r hj hr o (f_X12_check_38 n m) ih a1 a2 a3 M
def f_X12_check (n : Nat) (a1 a2 : Int32) (M : qM) : qR :=
  qc (f_X12_isPerson n a1 M) (fun r1 m2 => (if r1 = (0 : Int32) then some ((-2 : Int32), m2) else qc (f_X12_in n a2 (0 : Int32) (12 : Int32) m2) (fun r3 m4 => (if r3 = (0 : Int32) then some ((-2 : Int32), m4) else (if a2 ≤ ((m4 77 8) / (4 : Int32)) then qlm (mu m4 77 8 (0 : Int32)) (fun m5 => f_X12_check_38 n n a1 a2 (0 : Int32) m5) else some ((-2 : Int32), m4))))))
set_option maxRecDepth 4000 in
theorem w_X12_check {g : qG} {k : qK} (n : Nat) (j r : Nat) (hj : q_isLaw j) (hr : q_isLaw r) (o : qOk g 2 zX12_check k) (a1 a2 : Int32) (M : qM) : qAE g k zX12_check (qL j r) 0 [some (.inr (some 77)), some (.inl a1), some (.inl a2), none] [] (qL j r, M) (f_X12_check n a1 a2 M) := by
  unfold f_X12_check
  refine qr_aload_n o (q_dm dm_X12_check 0 rfl) rfl ?_
  refine qr_iload_n o (q_dm dm_X12_check 1 rfl) rfl ?_
  refine qr_callv_i (As := [.inl a1]) (S := []) o (a_X12_isPerson g k.2.1 n j r hj hr a1 M) (Nat.le_of_ble_eq_true rfl) zv_X12_isPerson rfl cf_X12 (sh77 j r) ml_X12_310 (Nat.le_of_ble_eq_true rfl) (q_dm dm_X12_check 2 rfl) (fun r1 m2 => ?_)
  refine qr_if_eq (tgt := 28) o (q_dm dm_X12_check 3 rfl) (by decide) ?_ ?_
  · refine qr_bipush o (q_dm dm_X12_check 15 rfl) bi_m2 ?_
    exact qr_iret o rfl rfl (q_dm dm_X12_check 16 rfl)
  · refine qr_iload_n o (q_dm dm_X12_check 4 rfl) rfl ?_
    refine qr_iconst o (q_dm dm_X12_check 5 rfl) ic_0 ?_
    refine qr_bipush o (q_dm dm_X12_check 6 rfl) bi_12 ?_
    refine qr_calls_i (As := [.inl a2, .inl (0 : Int32), .inl (12 : Int32)]) (S := []) o (a_X12_in g k.2.1 n j r hj hr a2 (0 : Int32) (12 : Int32) m2) (Nat.le_of_ble_eq_true rfl) zs_X12_in rfl ml_X12_153 (Nat.le_of_ble_eq_true rfl) (q_dm dm_X12_check 7 rfl) (fun r3 m4 => ?_)
    refine qr_if_eq (tgt := 28) o (q_dm dm_X12_check 8 rfl) (by decide) ?_ ?_
    · refine qr_bipush o (q_dm dm_X12_check 15 rfl) bi_m2 ?_
      exact qr_iret o rfl rfl (q_dm dm_X12_check 16 rfl)
    · refine qr_iload_n o (q_dm dm_X12_check 9 rfl) rfl ?_
      refine qr_aload_n o (q_dm dm_X12_check 10 rfl) rfl ?_
      refine qr_getf (kf := 8) o cf_X12 (sh77 j r) rfl (Nat.le_of_ble_eq_true rfl) fl_X12_162 (q_dm dm_X12_check 11 rfl) ?_
      refine qr_iconst o (q_dm dm_X12_check 12 rfl) ic_4 ?_
      refine qr_idivc o (q_dm dm_X12_check 13 rfl) (by decide) ?_
      refine qr_icmp_le (tgt := 31) o (q_dm dm_X12_check 14 rfl) (by decide) ?_ ?_
      · refine qr_aload_n o (q_dm dm_X12_check 17 rfl) rfl ?_
        refine qr_iconst o (q_dm dm_X12_check 18 rfl) ic_0 ?_
        refine qr_putf (kf := 8) o cf_X12 (sh77 j r) rfl (Nat.le_of_ble_eq_true rfl) fl_X12_162 rfl (by decide +kernel) (q_dm dm_X12_check 19 rfl) ?_
        refine qr_letm (fun m5 => ?_)
        refine qr_iconst o (q_dm dm_X12_check 20 rfl) ic_0 ?_
        refine qs_istore_n (L' := [some (.inr (some 77)), some (.inl a1), some (.inl a2), some (.inl (0 : Int32))]) o (q_dm dm_X12_check 21 rfl) (Nat.le_of_ble_eq_true rfl) rfl ?_
        exact qr_loc (q_leS (q_leS (q_leS (q_leS q_le0)))) (w_X12_check_38 n j r hj hr o n a1 a2 (0 : Int32) m5)
      · refine qr_bipush o (q_dm dm_X12_check 15 rfl) bi_m2 ?_
        exact qr_iret o rfl rfl (q_dm dm_X12_check 16 rfl)

theorem a_X12_check (g : qG) (l : Launch) (n : Nat) (j r : Nat) (hj : q_isLaw j) (hr : q_isLaw r) (a1 a2 : Int32) (M : qM) : qAM g l 2 zX12_check (qL j r) [.inr (some 77), .inl a1, .inl a2] (qL j r, M) (f_X12_check n a1 a2 M) :=
  qAM.of zv_X12_check.1 (by show 3 ≤ 4; decide) (fun k hk o => w_X12_check n j r hj hr o a1 a2 M)
def tb_X12_notes : List (Nat × Instr × Nat) := [(0, (.aload_n 0, 1)), (1, (.getfield 32, 3)), (4, (.aload_n 0, 1)), (5, (.getfield 192, 3)), (8, (.ldc 195, 2)), (10, (.iload_n 1, 1)), (11, (.imul, 1)), (12, (.iload_n 2, 1)), (13, (.iadd, 1)), (14, (.iastore, 1)), (15, (.aload_n 0, 1)), (16, (.aload_n 0, 1)), (17, (.getfield 192, 3)), (20, (.iconst 1, 1)), (21, (.iadd, 1)), (22, (.putfield 192, 3)), (25, (.return_, 1))]
theorem dm_X12_notes : ∀ q ∈ tb_X12_notes, decode zX12_notes.2.1 q.1 = .ok q.2 := by decide +kernel
def f_X12_notes (n : Nat) (a1 a2 : Int32) (M : qM) : qR :=
  qg (M 77 14) 260 (qlm (mu M 85 (M 77 14).toNatClampNeg (((1048576 : Int32) * a1) + a2)) (fun m1 => qlm (mu m1 77 14 ((m1 77 14) + (1 : Int32))) (fun m2 => some (0, m2))))
set_option maxRecDepth 4000 in
theorem w_X12_notes {g : qG} {k : qK} (n : Nat) (j r : Nat) (hj : q_isLaw j) (hr : q_isLaw r) (o : qOk g 0 zX12_notes k) (a1 a2 : Int32) (M : qM) : qAE g k zX12_notes (qL j r) 0 [some (.inr (some 77)), some (.inl a1), some (.inl a2)] [] (qL j r, M) (f_X12_notes n a1 a2 M) := by
  unfold f_X12_notes
  refine qr_aload_n o (q_dm dm_X12_notes 0 rfl) rfl ?_
  refine qr_getr (kf := 18) o cf_X12 (sh77 j r) rfl (Nat.le_of_ble_eq_true rfl) fl_X12_32 (q_dm dm_X12_notes 1 rfl) ?_
  refine qr_aload_n o (q_dm dm_X12_notes 2 rfl) rfl ?_
  refine qr_getf (kf := 14) o cf_X12 (sh77 j r) rfl (Nat.le_of_ble_eq_true rfl) fl_X12_192 (q_dm dm_X12_notes 3 rfl) ?_
  refine qr_ldc o (q_dm dm_X12_notes 4 rfl) kc_X12_195 ?_
  refine qr_iload_n o (q_dm dm_X12_notes 5 rfl) rfl ?_
  refine qr_imul o (q_dm dm_X12_notes 6 rfl) ?_
  refine qr_iload_n o (q_dm dm_X12_notes 7 rfl) rfl ?_
  refine qr_iadd o (q_dm dm_X12_notes 8 rfl) ?_
  refine qr_iast o (sh85 j r) (q_dm dm_X12_notes 9 rfl) ?_
  refine qr_letm (fun m1 => ?_)
  refine qr_aload_n o (q_dm dm_X12_notes 10 rfl) rfl ?_
  refine qr_aload_n o (q_dm dm_X12_notes 11 rfl) rfl ?_
  refine qr_getf (kf := 14) o cf_X12 (sh77 j r) rfl (Nat.le_of_ble_eq_true rfl) fl_X12_192 (q_dm dm_X12_notes 12 rfl) ?_
  refine qr_iconst o (q_dm dm_X12_notes 13 rfl) ic_1 ?_
  refine qr_iadd o (q_dm dm_X12_notes 14 rfl) ?_
  refine qr_putf (kf := 14) o cf_X12 (sh77 j r) rfl (Nat.le_of_ble_eq_true rfl) fl_X12_192 rfl (by decide +kernel) (q_dm dm_X12_notes 15 rfl) ?_
  refine qr_letm (fun m2 => ?_)
  exact qr_vret o rfl (q_dm dm_X12_notes 16 rfl)

theorem a_X12_notes (g : qG) (l : Launch) (n : Nat) (j r : Nat) (hj : q_isLaw j) (hr : q_isLaw r) (a1 a2 : Int32) (M : qM) : qAM g l 0 zX12_notes (qL j r) [.inr (some 77), .inl a1, .inl a2] (qL j r, M) (f_X12_notes n a1 a2 M) :=
  qAM.of zv_X12_notes.1 (by show 3 ≤ 3; decide) (fun k hk o => w_X12_notes n j r hj hr o a1 a2 M)
def tb_X12_waitTop : List (Nat × Instr × Nat) := [(0, (.aload_n 0, 1)), (1, (.getfield 199, 3)), (4, (.ifCond .ne 7, 3)), (7, (.iconst (-1), 1)), (8, (.goto 17, 3)), (11, (.aload_n 0, 1)), (12, (.getfield 35, 3)), (15, (.aload_n 0, 1)), (16, (.getfield 199, 3)), (19, (.iconst 1, 1)), (20, (.isub, 1)), (21, (.iaload, 1)), (22, (.ldc 195, 2)), (24, (.idiv, 1)), (25, (.ireturn, 1))]
theorem dm_X12_waitTop : ∀ q ∈ tb_X12_waitTop, decode zX12_waitTop.2.1 q.1 = .ok q.2 := by decide +kernel
def f_X12_waitTop (n : Nat) (M : qM) : qR :=
  (if (M 77 15) = (0 : Int32) then some ((-1 : Int32), M) else qg ((M 77 15) - (1 : Int32)) 260 (some (((M 86 ((M 77 15) - (1 : Int32)).toNatClampNeg) / (1048576 : Int32)), M)))
set_option maxRecDepth 4000 in
theorem w_X12_waitTop {g : qG} {k : qK} (n : Nat) (j r : Nat) (hj : q_isLaw j) (hr : q_isLaw r) (o : qOk g 0 zX12_waitTop k) (M : qM) : qAE g k zX12_waitTop (qL j r) 0 [some (.inr (some 77))] [] (qL j r, M) (f_X12_waitTop n  M) := by
  unfold f_X12_waitTop
  refine qr_aload_n o (q_dm dm_X12_waitTop 0 rfl) rfl ?_
  refine qr_getf (kf := 15) o cf_X12 (sh77 j r) rfl (Nat.le_of_ble_eq_true rfl) fl_X12_199 (q_dm dm_X12_waitTop 1 rfl) ?_
  refine qr_if_ne (tgt := 11) o (q_dm dm_X12_waitTop 2 rfl) (by decide) ?_ ?_
  · refine qr_aload_n o (q_dm dm_X12_waitTop 5 rfl) rfl ?_
    refine qr_getr (kf := 19) o cf_X12 (sh77 j r) rfl (Nat.le_of_ble_eq_true rfl) fl_X12_35 (q_dm dm_X12_waitTop 6 rfl) ?_
    refine qr_aload_n o (q_dm dm_X12_waitTop 7 rfl) rfl ?_
    refine qr_getf (kf := 15) o cf_X12 (sh77 j r) rfl (Nat.le_of_ble_eq_true rfl) fl_X12_199 (q_dm dm_X12_waitTop 8 rfl) ?_
    refine qr_iconst o (q_dm dm_X12_waitTop 9 rfl) ic_1 ?_
    refine qr_isub o (q_dm dm_X12_waitTop 10 rfl) ?_
    refine qr_iald o (sh86 j r) (q_dm dm_X12_waitTop 11 rfl) ?_
    refine qr_ldc o (q_dm dm_X12_waitTop 12 rfl) kc_X12_195 ?_
    refine qr_idivc o (q_dm dm_X12_waitTop 13 rfl) (by decide) ?_
    exact qr_iret o rfl rfl (q_dm dm_X12_waitTop 14 rfl)
  · refine qr_iconst o (q_dm dm_X12_waitTop 3 rfl) ic_m1 ?_
    refine qr_goto (tgt := 25) o (q_dm dm_X12_waitTop 4 rfl) (by decide) ?_
    exact qr_iret o rfl rfl (q_dm dm_X12_waitTop 14 rfl)

theorem a_X12_waitTop (g : qG) (l : Launch) (n : Nat) (j r : Nat) (hj : q_isLaw j) (hr : q_isLaw r) (M : qM) : qAM g l 0 zX12_waitTop (qL j r) [.inr (some 77)] (qL j r, M) (f_X12_waitTop n  M) :=
  qAM.of zv_X12_waitTop.1 (by show 1 ≤ 1; decide) (fun k hk o => w_X12_waitTop n j r hj hr o  M)
def tb_X12_closesSums : List (Nat × Instr × Nat) := [(0, (.aload_n 0, 1)), (1, (.invokevirtual 202, 3)), (4, (.iconst 4, 1)), (5, (.if_icmp .lt 12, 3)), (8, (.aload_n 0, 1)), (9, (.invokevirtual 202, 3)), (12, (.bipush 6, 2)), (14, (.if_icmp .le 23, 3)), (17, (.iload_n 1, 1)), (18, (.ifCond .eq 41, 3)), (21, (.aload_n 0, 1)), (22, (.invokevirtual 202, 3)), (25, (.iconst 2, 1)), (26, (.if_icmp .eq 11, 3)), (29, (.aload_n 0, 1)), (30, (.invokevirtual 202, 3)), (33, (.iconst 3, 1)), (34, (.if_icmp .ne 25, 3)), (37, (.aload_n 0, 1)), (38, (.aload_n 0, 1)), (39, (.invokevirtual 202, 3)), (42, (.iconst 0, 1)), (43, (.invokevirtual 205, 3)), (46, (.aload_n 0, 1)), (47, (.aload_n 0, 1)), (48, (.getfield 199, 3)), (51, (.iconst 1, 1)), (52, (.isub, 1)), (53, (.putfield 199, 3)), (56, (.goto (-56), 3)), (59, (.return_, 1))]
theorem dm_X12_closesSums : ∀ q ∈ tb_X12_closesSums, decode zX12_closesSums.2.1 q.1 = .ok q.2 := by decide +kernel
def f_X12_closesSums_37 (n : Nat) (K0 : Int32 → qM → qR) (a1 : Int32) (M : qM) : qR :=
  qc (f_X12_waitTop n  M) (fun r1 m2 => qc (f_X12_notes n r1 (0 : Int32) m2) (fun _ m3 => qlm (mu m3 77 15 ((m3 77 15) - (1 : Int32))) (fun m4 => K0 a1 m4)))
set_option maxRecDepth 4000 in
theorem w_X12_closesSums_37 {g : qG} {k : qK} (n : Nat) (j r : Nat) (hj : q_isLaw j) (hr : q_isLaw r) (o : qOk g 1 zX12_closesSums k) (K0 : Int32 → qM → qR) (hK0 : ∀ (a1 : Int32) (M : qM), qAE g k zX12_closesSums (qL j r) 0 [some (.inr (some 77)), some (.inl a1)] [] (qL j r, M) (K0 a1 M)) (a1 : Int32) (M : qM) : qAE g k zX12_closesSums (qL j r) 37 [some (.inr (some 77)), some (.inl a1)] [] (qL j r, M) (f_X12_closesSums_37 n K0 a1 M) := by
  unfold f_X12_closesSums_37
  refine qr_aload_n o (q_dm dm_X12_closesSums 18 rfl) rfl ?_
  refine qr_aload_n o (q_dm dm_X12_closesSums 19 rfl) rfl ?_
  refine qr_callv_i (As := []) (S := [.inr (some 77)]) o (a_X12_waitTop g k.2.1 n j r hj hr  M) (Nat.le_of_ble_eq_true rfl) zv_X12_waitTop rfl cf_X12 (sh77 j r) ml_X12_202 (Nat.le_of_ble_eq_true rfl) (q_dm dm_X12_closesSums 20 rfl) (fun r1 m2 => ?_)
  refine qr_iconst o (q_dm dm_X12_closesSums 21 rfl) ic_0 ?_
  refine qr_callv_v (As := [.inl r1, .inl (0 : Int32)]) (S := []) o (a_X12_notes g k.2.1 n j r hj hr r1 (0 : Int32) m2) (Nat.le_of_ble_eq_true rfl) zv_X12_notes rfl cf_X12 (sh77 j r) ml_X12_205 (Nat.le_of_ble_eq_true rfl) (q_dm dm_X12_closesSums 22 rfl) (fun _ m3 => ?_)
  refine qr_aload_n o (q_dm dm_X12_closesSums 23 rfl) rfl ?_
  refine qr_aload_n o (q_dm dm_X12_closesSums 24 rfl) rfl ?_
  refine qr_getf (kf := 15) o cf_X12 (sh77 j r) rfl (Nat.le_of_ble_eq_true rfl) fl_X12_199 (q_dm dm_X12_closesSums 25 rfl) ?_
  refine qr_iconst o (q_dm dm_X12_closesSums 26 rfl) ic_1 ?_
  refine qr_isub o (q_dm dm_X12_closesSums 27 rfl) ?_
  refine qr_putf (kf := 15) o cf_X12 (sh77 j r) rfl (Nat.le_of_ble_eq_true rfl) fl_X12_199 rfl (by decide +kernel) (q_dm dm_X12_closesSums 28 rfl) ?_
  refine qr_letm (fun m4 => ?_)
  refine qr_goto (tgt := 0) o (q_dm dm_X12_closesSums 29 rfl) (by decide) ?_
  exact qr_loc (q_leS (q_leS q_le0)) (hK0 a1 m4)

def f_X12_closesSums_17 (n : Nat) (K0 : Int32 → qM → qR) (a1 : Int32) (M : qM) : qR :=
  (if a1 = (0 : Int32) then some (0, M) else qc (f_X12_waitTop n  M) (fun r1 m2 => (if r1 = (2 : Int32) then f_X12_closesSums_37 n K0 a1 m2 else qc (f_X12_waitTop n  m2) (fun r3 m4 => (if r3 = (3 : Int32) then f_X12_closesSums_37 n K0 a1 m4 else some (0, m4))))))
set_option maxRecDepth 4000 in
theorem w_X12_closesSums_17 {g : qG} {k : qK} (n : Nat) (j r : Nat) (hj : q_isLaw j) (hr : q_isLaw r) (o : qOk g 1 zX12_closesSums k) (K0 : Int32 → qM → qR) (hK0 : ∀ (a1 : Int32) (M : qM), qAE g k zX12_closesSums (qL j r) 0 [some (.inr (some 77)), some (.inl a1)] [] (qL j r, M) (K0 a1 M)) (a1 : Int32) (M : qM) : qAE g k zX12_closesSums (qL j r) 17 [some (.inr (some 77)), some (.inl a1)] [] (qL j r, M) (f_X12_closesSums_17 n K0 a1 M) := by
  unfold f_X12_closesSums_17
  refine qr_iload_n o (q_dm dm_X12_closesSums 8 rfl) rfl ?_
  refine qr_if_eq (tgt := 59) o (q_dm dm_X12_closesSums 9 rfl) (by decide) ?_ ?_
  · exact qr_vret o rfl (q_dm dm_X12_closesSums 30 rfl)
  · refine qr_aload_n o (q_dm dm_X12_closesSums 10 rfl) rfl ?_
    refine qr_callv_i (As := []) (S := []) o (a_X12_waitTop g k.2.1 n j r hj hr  M) (Nat.le_of_ble_eq_true rfl) zv_X12_waitTop rfl cf_X12 (sh77 j r) ml_X12_202 (Nat.le_of_ble_eq_true rfl) (q_dm dm_X12_closesSums 11 rfl) (fun r1 m2 => ?_)
    refine qr_iconst o (q_dm dm_X12_closesSums 12 rfl) ic_2 ?_
    refine qr_icmp_eq (tgt := 37) o (q_dm dm_X12_closesSums 13 rfl) (by decide) ?_ ?_
    · exact qr_loc (q_leS (q_leS q_le0)) (w_X12_closesSums_37 n j r hj hr o K0 hK0 a1 m2)
    · refine qr_aload_n o (q_dm dm_X12_closesSums 14 rfl) rfl ?_
      refine qr_callv_i (As := []) (S := []) o (a_X12_waitTop g k.2.1 n j r hj hr  m2) (Nat.le_of_ble_eq_true rfl) zv_X12_waitTop rfl cf_X12 (sh77 j r) ml_X12_202 (Nat.le_of_ble_eq_true rfl) (q_dm dm_X12_closesSums 15 rfl) (fun r3 m4 => ?_)
      refine qr_iconst o (q_dm dm_X12_closesSums 16 rfl) ic_3 ?_
      refine qr_icmp_ne (tgt := 59) o (q_dm dm_X12_closesSums 17 rfl) (by decide) ?_ ?_
      · exact qr_vret o rfl (q_dm dm_X12_closesSums 30 rfl)
      · exact qr_loc (q_leS (q_leS q_le0)) (w_X12_closesSums_37 n j r hj hr o K0 hK0 a1 m4)

def b_X12_closesSums_0 (n : Nat) (K0 : Int32 → qM → qR) (a1 : Int32) (M : qM) : qR :=
  qc (f_X12_waitTop n  M) (fun r1 m2 => (if r1 < (4 : Int32) then f_X12_closesSums_17 n K0 a1 m2 else qc (f_X12_waitTop n  m2) (fun r3 m4 => (if r3 ≤ (6 : Int32) then f_X12_closesSums_37 n K0 a1 m4 else f_X12_closesSums_17 n K0 a1 m4))))
set_option maxRecDepth 4000 in
theorem wb_X12_closesSums_0 {g : qG} {k : qK} (n : Nat) (j r : Nat) (hj : q_isLaw j) (hr : q_isLaw r) (o : qOk g 1 zX12_closesSums k) (K0 : Int32 → qM → qR) (hK0 : ∀ (a1 : Int32) (M : qM), qAE g k zX12_closesSums (qL j r) 0 [some (.inr (some 77)), some (.inl a1)] [] (qL j r, M) (K0 a1 M)) (a1 : Int32) (M : qM) : qAE g k zX12_closesSums (qL j r) 0 [some (.inr (some 77)), some (.inl a1)] [] (qL j r, M) (b_X12_closesSums_0 n K0 a1 M) := by
  unfold b_X12_closesSums_0
  refine qr_aload_n o (q_dm dm_X12_closesSums 0 rfl) rfl ?_
  refine qr_callv_i (As := []) (S := []) o (a_X12_waitTop g k.2.1 n j r hj hr  M) (Nat.le_of_ble_eq_true rfl) zv_X12_waitTop rfl cf_X12 (sh77 j r) ml_X12_202 (Nat.le_of_ble_eq_true rfl) (q_dm dm_X12_closesSums 1 rfl) (fun r1 m2 => ?_)
  refine qr_iconst o (q_dm dm_X12_closesSums 2 rfl) ic_4 ?_
  refine qr_icmp_lt (tgt := 17) o (q_dm dm_X12_closesSums 3 rfl) (by decide) ?_ ?_
  · exact qr_loc (q_leS (q_leS q_le0)) (w_X12_closesSums_17 n j r hj hr o K0 hK0 a1 m2)
  · refine qr_aload_n o (q_dm dm_X12_closesSums 4 rfl) rfl ?_
    refine qr_callv_i (As := []) (S := []) o (a_X12_waitTop g k.2.1 n j r hj hr  m2) (Nat.le_of_ble_eq_true rfl) zv_X12_waitTop rfl cf_X12 (sh77 j r) ml_X12_202 (Nat.le_of_ble_eq_true rfl) (q_dm dm_X12_closesSums 5 rfl) (fun r3 m4 => ?_)
    refine qr_bipush o (q_dm dm_X12_closesSums 6 rfl) bi_6 ?_
    refine qr_icmp_le (tgt := 37) o (q_dm dm_X12_closesSums 7 rfl) (by decide) ?_ ?_
    · exact qr_loc (q_leS (q_leS q_le0)) (w_X12_closesSums_37 n j r hj hr o K0 hK0 a1 m4)
    · exact qr_loc (q_leS (q_leS q_le0)) (w_X12_closesSums_17 n j r hj hr o K0 hK0 a1 m4)

def f_X12_closesSums_0 (n : Nat) : Nat → Int32 → qM → qR
  | 0, _, _ => none
  | m + 1, a1, M => b_X12_closesSums_0 n (f_X12_closesSums_0 n m) a1 M
theorem w_X12_closesSums_0 {g : qG} {k : qK} (n : Nat) (j r : Nat) (hj : q_isLaw j) (hr : q_isLaw r) (o : qOk g 1 zX12_closesSums k) : ∀ (m : Nat) (a1 : Int32) (M : qM), qAE g k zX12_closesSums (qL j r) 0 [some (.inr (some 77)), some (.inl a1)] [] (qL j r, M) (f_X12_closesSums_0 n m a1 M) := by
  intro m
  induction m with
  | zero =>
    intro a1 M
    exact qr_none
  | succ m ih =>
    intro a1 M
    exact wb_X12_closesSums_0 n j r hj hr o (f_X12_closesSums_0 n m) ih a1 M
def f_X12_closesSums (n : Nat) (a1 : Int32) (M : qM) : qR :=
  f_X12_closesSums_0 n n a1 M
set_option maxRecDepth 4000 in
theorem w_X12_closesSums {g : qG} {k : qK} (n : Nat) (j r : Nat) (hj : q_isLaw j) (hr : q_isLaw r) (o : qOk g 1 zX12_closesSums k) (a1 : Int32) (M : qM) : qAE g k zX12_closesSums (qL j r) 0 [some (.inr (some 77)), some (.inl a1)] [] (qL j r, M) (f_X12_closesSums n a1 M) := by
  unfold f_X12_closesSums
  exact qr_loc (q_leS (q_leS q_le0)) (w_X12_closesSums_0 n j r hj hr o n a1 M)

theorem a_X12_closesSums (g : qG) (l : Launch) (n : Nat) (j r : Nat) (hj : q_isLaw j) (hr : q_isLaw r) (a1 : Int32) (M : qM) : qAM g l 1 zX12_closesSums (qL j r) [.inr (some 77), .inl a1] (qL j r, M) (f_X12_closesSums n a1 M) :=
  qAM.of zv_X12_closesSums.1 (by show 2 ≤ 2; decide) (fun k hk o => w_X12_closesSums n j r hj hr o a1 M)
def tb_X12_copies : List (Nat × Instr × Nat) := [(0, (.iconst 0, 1)), (1, (.istore_n 2, 1)), (2, (.iload_n 2, 1)), (3, (.sipush 954, 3)), (6, (.if_icmp .ge 15, 3)), (9, (.aload_n 1, 1)), (10, (.iload_n 2, 1)), (11, (.aload_n 0, 1)), (12, (.iload_n 2, 1)), (13, (.iaload, 1)), (14, (.iastore, 1)), (15, (.iinc 2 1, 3)), (18, (.goto (-16), 3)), (21, (.return_, 1))]
theorem dm_X12_copies : ∀ q ∈ tb_X12_copies, decode zX12_copies.2.1 q.1 = .ok q.2 := by decide +kernel
def b_X12_copies_2 (n : Nat) (c1 c2 : Nat) (K2 : Int32 → qM → qR) (a2 : Int32) (M : qM) : qR :=
  (if (954 : Int32) ≤ a2 then some (0, M) else qg a2 954 (qg a2 954 (qlm (mu M c2 a2.toNatClampNeg (M c1 a2.toNatClampNeg)) (fun m1 => ql (a2 + (1 : Int32)) (fun x2 => K2 x2 m1)))))
set_option maxRecDepth 4000 in
theorem wb_X12_copies_2 {g : qG} {k : qK} (n : Nat) (j r : Nat) (hj : q_isLaw j) (hr : q_isLaw r) {c1 : Nat} {c2 : Nat} (hc1 : (qL j r)[c1]? = some (.inl (0, 954))) (hc2 : (qL j r)[c2]? = some (.inl (0, 954))) (o : qOk g 0 zX12_copies k) (K2 : Int32 → qM → qR) (hK2 : ∀ (a2 : Int32) (M : qM), qAE g k zX12_copies (qL j r) 2 [some (.inr (some c1)), some (.inr (some c2)), some (.inl a2)] [] (qL j r, M) (K2 a2 M)) (a2 : Int32) (M : qM) : qAE g k zX12_copies (qL j r) 2 [some (.inr (some c1)), some (.inr (some c2)), some (.inl a2)] [] (qL j r, M) (b_X12_copies_2 n c1 c2 K2 a2 M) := by
  unfold b_X12_copies_2
  refine qr_iload_n o (q_dm dm_X12_copies 2 rfl) rfl ?_
  refine qr_sipush o (q_dm dm_X12_copies 3 rfl) si_954 ?_
  refine qr_icmp_ge (tgt := 21) o (q_dm dm_X12_copies 4 rfl) (by decide) ?_ ?_
  · exact qr_vret o rfl (q_dm dm_X12_copies 13 rfl)
  · refine qr_aload_n o (q_dm dm_X12_copies 5 rfl) rfl ?_
    refine qr_iload_n o (q_dm dm_X12_copies 6 rfl) rfl ?_
    refine qr_aload_n o (q_dm dm_X12_copies 7 rfl) rfl ?_
    refine qr_iload_n o (q_dm dm_X12_copies 8 rfl) rfl ?_
    refine qr_iald o hc1 (q_dm dm_X12_copies 9 rfl) ?_
    refine qr_iast o hc2 (q_dm dm_X12_copies 10 rfl) ?_
    refine qr_letm (fun m1 => ?_)
    refine qs_iincl2 (L' := fun x2 => [some (.inr (some c1)), some (.inr (some c2)), some (.inl x2)]) o (q_dm dm_X12_copies 11 rfl) rfl ic_1 (Nat.le_of_ble_eq_true rfl) (fun _ => rfl) (fun x2 => ?_)
    refine qr_goto (tgt := 2) o (q_dm dm_X12_copies 12 rfl) (by decide) ?_
    exact qr_loc (q_leS (q_leS (q_leS q_le0))) (hK2 x2 m1)

def f_X12_copies_2 (n : Nat) (c1 c2 : Nat) : Nat → Int32 → qM → qR
  | 0, _, _ => none
  | m + 1, a2, M => b_X12_copies_2 n c1 c2 (f_X12_copies_2 n c1 c2 m) a2 M
theorem w_X12_copies_2 {g : qG} {k : qK} (n : Nat) (j r : Nat) (hj : q_isLaw j) (hr : q_isLaw r) {c1 : Nat} {c2 : Nat} (hc1 : (qL j r)[c1]? = some (.inl (0, 954))) (hc2 : (qL j r)[c2]? = some (.inl (0, 954))) (o : qOk g 0 zX12_copies k) : ∀ (m : Nat) (a2 : Int32) (M : qM), qAE g k zX12_copies (qL j r) 2 [some (.inr (some c1)), some (.inr (some c2)), some (.inl a2)] [] (qL j r, M) (f_X12_copies_2 n c1 c2 m a2 M) := by
  intro m
  induction m with
  | zero =>
    intro a2 M
    exact qr_none
  | succ m ih =>
    intro a2 M
    exact wb_X12_copies_2 n j r hj hr hc1 hc2 o (f_X12_copies_2 n c1 c2 m) ih a2 M
def f_X12_copies (n : Nat) (c1 c2 : Nat) (M : qM) : qR :=
  f_X12_copies_2 n c1 c2 n (0 : Int32) M
set_option maxRecDepth 4000 in
theorem w_X12_copies {g : qG} {k : qK} (n : Nat) (j r : Nat) (hj : q_isLaw j) (hr : q_isLaw r) {c1 : Nat} {c2 : Nat} (hc1 : (qL j r)[c1]? = some (.inl (0, 954))) (hc2 : (qL j r)[c2]? = some (.inl (0, 954))) (o : qOk g 0 zX12_copies k) (M : qM) : qAE g k zX12_copies (qL j r) 0 [some (.inr (some c1)), some (.inr (some c2)), none] [] (qL j r, M) (f_X12_copies n c1 c2  M) := by
  unfold f_X12_copies
  refine qr_iconst o (q_dm dm_X12_copies 0 rfl) ic_0 ?_
  refine qs_istore_n (L' := [some (.inr (some c1)), some (.inr (some c2)), some (.inl (0 : Int32))]) o (q_dm dm_X12_copies 1 rfl) (Nat.le_of_ble_eq_true rfl) rfl ?_
  exact qr_loc (q_leS (q_leS (q_leS q_le0))) (w_X12_copies_2 n j r hj hr hc1 hc2 o n (0 : Int32) M)

theorem a_X12_copies (g : qG) (l : Launch) (n : Nat) (j r : Nat) (hj : q_isLaw j) (hr : q_isLaw r) {c1 : Nat} {c2 : Nat} (hc1 : (qL j r)[c1]? = some (.inl (0, 954))) (hc2 : (qL j r)[c2]? = some (.inl (0, 954))) (M : qM) : qAM g l 0 zX12_copies (qL j r) [.inr (some c1), .inr (some c2)] (qL j r, M) (f_X12_copies n c1 c2  M) :=
  qAM.of zs_X12_copies.1 (by show 2 ≤ 3; decide) (fun k hk o => w_X12_copies n j r hj hr hc1 hc2 o  M)
def tb_X12_cost : List (Nat × Instr × Nat) := [(0, (.aload_n 0, 1)), (1, (.iload_n 1, 1)), (2, (.invokevirtual 310, 3)), (5, (.ifCond .eq 24, 3)), (8, (.aload_n 0, 1)), (9, (.iload_n 2, 1)), (10, (.invokevirtual 157, 3)), (13, (.ifCond .eq 16, 3)), (16, (.aload_n 0, 1)), (17, (.iload_n 3, 1)), (18, (.invokevirtual 310, 3)), (21, (.ifCond .eq 8, 3)), (24, (.iload_n 1, 1)), (25, (.iload_n 3, 1)), (26, (.if_icmp .ne 5, 3)), (29, (.iconst (-1), 1)), (30, (.ireturn, 1)), (31, (.aload_n 0, 1)), (32, (.iload_n 1, 1)), (33, (.iload_n 2, 1)), (34, (.iload_n 3, 1)), (35, (.invokevirtual 316, 3)), (38, (.ireturn, 1))]
theorem dm_X12_cost : ∀ q ∈ tb_X12_cost, decode zX12_cost.2.1 q.1 = .ok q.2 := by decide +kernel
def f_X12_cost (n : Nat) (a1 a2 a3 : Int32) (M : qM) : qR :=
  qc (f_X12_isPerson n a1 M) (fun r1 m2 => (if r1 = (0 : Int32) then some ((-1 : Int32), m2) else qc (f_X12_isKind n a2 m2) (fun r3 m4 => (if r3 = (0 : Int32) then some ((-1 : Int32), m4) else qc (f_X12_isPerson n a3 m4) (fun r5 m6 => (if r5 = (0 : Int32) then some ((-1 : Int32), m6) else (if a1 = a3 then some ((-1 : Int32), m6) else qc (f_X12_costOf n a1 a2 a3 m6) (fun r7 m8 => some (r7, m8)))))))))
set_option maxRecDepth 4000 in
theorem w_X12_cost {g : qG} {k : qK} (n : Nat) (j r : Nat) (hj : q_isLaw j) (hr : q_isLaw r) (o : qOk g 4 zX12_cost k) (a1 a2 a3 : Int32) (M : qM) : qAE g k zX12_cost (qL j r) 0 [some (.inr (some 77)), some (.inl a1), some (.inl a2), some (.inl a3)] [] (qL j r, M) (f_X12_cost n a1 a2 a3 M) := by
  unfold f_X12_cost
  refine qr_aload_n o (q_dm dm_X12_cost 0 rfl) rfl ?_
  refine qr_iload_n o (q_dm dm_X12_cost 1 rfl) rfl ?_
  refine qr_callv_i (As := [.inl a1]) (S := []) o (a_X12_isPerson g k.2.1 n j r hj hr a1 M) (Nat.le_of_ble_eq_true rfl) zv_X12_isPerson rfl cf_X12 (sh77 j r) ml_X12_310 (Nat.le_of_ble_eq_true rfl) (q_dm dm_X12_cost 2 rfl) (fun r1 m2 => ?_)
  refine qr_if_eq (tgt := 29) o (q_dm dm_X12_cost 3 rfl) (by decide) ?_ ?_
  · refine qr_iconst o (q_dm dm_X12_cost 15 rfl) ic_m1 ?_
    exact qr_iret o rfl rfl (q_dm dm_X12_cost 16 rfl)
  · refine qr_aload_n o (q_dm dm_X12_cost 4 rfl) rfl ?_
    refine qr_iload_n o (q_dm dm_X12_cost 5 rfl) rfl ?_
    refine qr_callv_i (As := [.inl a2]) (S := []) o (a_X12_isKind g k.2.1 n j r hj hr a2 m2) (Nat.le_of_ble_eq_true rfl) zv_X12_isKind rfl cf_X12 (sh77 j r) ml_X12_157 (Nat.le_of_ble_eq_true rfl) (q_dm dm_X12_cost 6 rfl) (fun r3 m4 => ?_)
    refine qr_if_eq (tgt := 29) o (q_dm dm_X12_cost 7 rfl) (by decide) ?_ ?_
    · refine qr_iconst o (q_dm dm_X12_cost 15 rfl) ic_m1 ?_
      exact qr_iret o rfl rfl (q_dm dm_X12_cost 16 rfl)
    · refine qr_aload_n o (q_dm dm_X12_cost 8 rfl) rfl ?_
      refine qr_iload_n o (q_dm dm_X12_cost 9 rfl) rfl ?_
      refine qr_callv_i (As := [.inl a3]) (S := []) o (a_X12_isPerson g k.2.1 n j r hj hr a3 m4) (Nat.le_of_ble_eq_true rfl) zv_X12_isPerson rfl cf_X12 (sh77 j r) ml_X12_310 (Nat.le_of_ble_eq_true rfl) (q_dm dm_X12_cost 10 rfl) (fun r5 m6 => ?_)
      refine qr_if_eq (tgt := 29) o (q_dm dm_X12_cost 11 rfl) (by decide) ?_ ?_
      · refine qr_iconst o (q_dm dm_X12_cost 15 rfl) ic_m1 ?_
        exact qr_iret o rfl rfl (q_dm dm_X12_cost 16 rfl)
      · refine qr_iload_n o (q_dm dm_X12_cost 12 rfl) rfl ?_
        refine qr_iload_n o (q_dm dm_X12_cost 13 rfl) rfl ?_
        refine qr_icmp_ne (tgt := 31) o (q_dm dm_X12_cost 14 rfl) (by decide) ?_ ?_
        · refine qr_aload_n o (q_dm dm_X12_cost 17 rfl) rfl ?_
          refine qr_iload_n o (q_dm dm_X12_cost 18 rfl) rfl ?_
          refine qr_iload_n o (q_dm dm_X12_cost 19 rfl) rfl ?_
          refine qr_iload_n o (q_dm dm_X12_cost 20 rfl) rfl ?_
          refine qr_callv_i (As := [.inl a1, .inl a2, .inl a3]) (S := []) o (a_X12_costOf g k.2.1 n j r hj hr a1 a2 a3 m6) (Nat.le_of_ble_eq_true rfl) zv_X12_costOf rfl cf_X12 (sh77 j r) ml_X12_316 (Nat.le_of_ble_eq_true rfl) (q_dm dm_X12_cost 21 rfl) (fun r7 m8 => ?_)
          exact qr_iret o rfl rfl (q_dm dm_X12_cost 22 rfl)
        · refine qr_iconst o (q_dm dm_X12_cost 15 rfl) ic_m1 ?_
          exact qr_iret o rfl rfl (q_dm dm_X12_cost 16 rfl)

theorem a_X12_cost (g : qG) (l : Launch) (n : Nat) (j r : Nat) (hj : q_isLaw j) (hr : q_isLaw r) (a1 a2 a3 : Int32) (M : qM) : qAM g l 4 zX12_cost (qL j r) [.inr (some 77), .inl a1, .inl a2, .inl a3] (qL j r, M) (f_X12_cost n a1 a2 a3 M) :=
  qAM.of zv_X12_cost.1 (by show 4 ≤ 4; decide) (fun k hk o => w_X12_cost n j r hj hr o a1 a2 a3 M)
def tb_X12_sumOf : List (Nat × Instr × Nat) := [(0, (.iconst 0, 1)), (1, (.istore_n 3, 1)), (2, (.iconst 0, 1)), (3, (.istore 4, 2)), (5, (.iload 4, 2)), (7, (.bipush 12, 2)), (9, (.if_icmp .ge 25, 3)), (12, (.iload_n 3, 1)), (13, (.aload_n 0, 1)), (14, (.getfield 7, 3)), (17, (.iload_n 1, 1)), (18, (.iload_n 2, 1)), (19, (.iload 4, 2)), (21, (.invokestatic 282, 3)), (24, (.iadd, 1)), (25, (.iaload, 1)), (26, (.iadd, 1)), (27, (.istore_n 3, 1)), (28, (.iinc 4 1, 3)), (31, (.goto (-26), 3)), (34, (.iload_n 3, 1)), (35, (.ireturn, 1))]
theorem dm_X12_sumOf : ∀ q ∈ tb_X12_sumOf, decode zX12_sumOf.2.1 q.1 = .ok q.2 := by decide +kernel
def b_X12_sumOf_5 (n : Nat) (K5 : Int32 → Int32 → Int32 → Int32 → qM → qR) (a1 a2 a3 a4 : Int32) (M : qM) : qR :=
  (if (12 : Int32) ≤ a4 then some (a3, M) else qc (f_X12_at n a2 a4 M) (fun r1 m2 => qg (a1 + r1) 954 (ql (a3 + (m2 78 (a1 + r1).toNatClampNeg)) (fun x3 => ql (a4 + (1 : Int32)) (fun x4 => K5 a1 a2 x3 x4 m2)))))
set_option maxRecDepth 4000 in
theorem wb_X12_sumOf_5 {g : qG} {k : qK} (n : Nat) (j r : Nat) (hj : q_isLaw j) (hr : q_isLaw r) (o : qOk g 1 zX12_sumOf k) (K5 : Int32 → Int32 → Int32 → Int32 → qM → qR) (hK5 : ∀ (a1 a2 a3 a4 : Int32) (M : qM), qAE g k zX12_sumOf (qL j r) 5 [some (.inr (some 77)), some (.inl a1), some (.inl a2), some (.inl a3), some (.inl a4)] [] (qL j r, M) (K5 a1 a2 a3 a4 M)) (a1 a2 a3 a4 : Int32) (M : qM) : qAE g k zX12_sumOf (qL j r) 5 [some (.inr (some 77)), some (.inl a1), some (.inl a2), some (.inl a3), some (.inl a4)] [] (qL j r, M) (b_X12_sumOf_5 n K5 a1 a2 a3 a4 M) := by
  unfold b_X12_sumOf_5
  refine qr_iload o (q_dm dm_X12_sumOf 4 rfl) rfl ?_
  refine qr_bipush o (q_dm dm_X12_sumOf 5 rfl) bi_12 ?_
  refine qr_icmp_ge (tgt := 34) o (q_dm dm_X12_sumOf 6 rfl) (by decide) ?_ ?_
  · refine qr_iload_n o (q_dm dm_X12_sumOf 20 rfl) rfl ?_
    exact qr_iret o rfl rfl (q_dm dm_X12_sumOf 21 rfl)
  · refine qr_iload_n o (q_dm dm_X12_sumOf 7 rfl) rfl ?_
    refine qr_aload_n o (q_dm dm_X12_sumOf 8 rfl) rfl ?_
    refine qr_getr (kf := 0) o cf_X12 (sh77 j r) rfl (Nat.le_of_ble_eq_true rfl) fl_X12_7 (q_dm dm_X12_sumOf 9 rfl) ?_
    refine qr_iload_n o (q_dm dm_X12_sumOf 10 rfl) rfl ?_
    refine qr_iload_n o (q_dm dm_X12_sumOf 11 rfl) rfl ?_
    refine qr_iload o (q_dm dm_X12_sumOf 12 rfl) rfl ?_
    refine qr_calls_i (As := [.inl a2, .inl a4]) (S := [.inl a1, .inr (some 78), .inl a3]) o (a_X12_at g k.2.1 n j r hj hr a2 a4 M) (Nat.le_of_ble_eq_true rfl) zs_X12_at rfl ml_X12_282 (Nat.le_of_ble_eq_true rfl) (q_dm dm_X12_sumOf 13 rfl) (fun r1 m2 => ?_)
    refine qr_iadd o (q_dm dm_X12_sumOf 14 rfl) ?_
    refine qr_iald o (sh78 j r) (q_dm dm_X12_sumOf 15 rfl) ?_
    refine qr_iadd o (q_dm dm_X12_sumOf 16 rfl) ?_
    refine qr_lt (fun x3 => ?_)
    refine qs_istore_n (L' := [some (.inr (some 77)), some (.inl a1), some (.inl a2), some (.inl x3), some (.inl a4)]) o (q_dm dm_X12_sumOf 17 rfl) (Nat.le_of_ble_eq_true rfl) rfl ?_
    refine qs_iincl2 (L' := fun x4 => [some (.inr (some 77)), some (.inl a1), some (.inl a2), some (.inl x3), some (.inl x4)]) o (q_dm dm_X12_sumOf 18 rfl) rfl ic_1 (Nat.le_of_ble_eq_true rfl) (fun _ => rfl) (fun x4 => ?_)
    refine qr_goto (tgt := 5) o (q_dm dm_X12_sumOf 19 rfl) (by decide) ?_
    exact qr_loc (q_leS (q_leS (q_leS (q_leS (q_leS q_le0))))) (hK5 a1 a2 x3 x4 m2)

def f_X12_sumOf_5 (n : Nat) : Nat → Int32 → Int32 → Int32 → Int32 → qM → qR
  | 0, _, _, _, _, _ => none
  | m + 1, a1, a2, a3, a4, M => b_X12_sumOf_5 n (f_X12_sumOf_5 n m) a1 a2 a3 a4 M
theorem w_X12_sumOf_5 {g : qG} {k : qK} (n : Nat) (j r : Nat) (hj : q_isLaw j) (hr : q_isLaw r) (o : qOk g 1 zX12_sumOf k) : ∀ (m : Nat) (a1 a2 a3 a4 : Int32) (M : qM), qAE g k zX12_sumOf (qL j r) 5 [some (.inr (some 77)), some (.inl a1), some (.inl a2), some (.inl a3), some (.inl a4)] [] (qL j r, M) (f_X12_sumOf_5 n m a1 a2 a3 a4 M) := by
  intro m
  induction m with
  | zero =>
    intro a1 a2 a3 a4 M
    exact qr_none
  | succ m ih =>
    intro a1 a2 a3 a4 M
    exact wb_X12_sumOf_5 n j r hj hr o (f_X12_sumOf_5 n m) ih a1 a2 a3 a4 M
def f_X12_sumOf (n : Nat) (a1 a2 : Int32) (M : qM) : qR :=
  f_X12_sumOf_5 n n a1 a2 (0 : Int32) (0 : Int32) M
set_option maxRecDepth 4000 in
theorem w_X12_sumOf {g : qG} {k : qK} (n : Nat) (j r : Nat) (hj : q_isLaw j) (hr : q_isLaw r) (o : qOk g 1 zX12_sumOf k) (a1 a2 : Int32) (M : qM) : qAE g k zX12_sumOf (qL j r) 0 [some (.inr (some 77)), some (.inl a1), some (.inl a2), none, none] [] (qL j r, M) (f_X12_sumOf n a1 a2 M) := by
  unfold f_X12_sumOf
  refine qr_iconst o (q_dm dm_X12_sumOf 0 rfl) ic_0 ?_
  refine qs_istore_n (L' := [some (.inr (some 77)), some (.inl a1), some (.inl a2), some (.inl (0 : Int32)), none]) o (q_dm dm_X12_sumOf 1 rfl) (Nat.le_of_ble_eq_true rfl) rfl ?_
  refine qr_iconst o (q_dm dm_X12_sumOf 2 rfl) ic_0 ?_
  refine qs_istore (L' := [some (.inr (some 77)), some (.inl a1), some (.inl a2), some (.inl (0 : Int32)), some (.inl (0 : Int32))]) o (q_dm dm_X12_sumOf 3 rfl) (Nat.le_of_ble_eq_true rfl) rfl ?_
  exact qr_loc (q_leS (q_leS (q_leS (q_leS (q_leS q_le0))))) (w_X12_sumOf_5 n j r hj hr o n a1 a2 (0 : Int32) (0 : Int32) M)

theorem a_X12_sumOf (g : qG) (l : Launch) (n : Nat) (j r : Nat) (hj : q_isLaw j) (hr : q_isLaw r) (a1 a2 : Int32) (M : qM) : qAM g l 1 zX12_sumOf (qL j r) [.inr (some 77), .inl a1, .inl a2] (qL j r, M) (f_X12_sumOf n a1 a2 M) :=
  qAM.of zv_X12_sumOf.1 (by show 3 ≤ 5; decide) (fun k hk o => w_X12_sumOf n j r hj hr o a1 a2 M)
def tb_X12_count : List (Nat × Instr × Nat) := [(0, (.iload_n 1, 1)), (1, (.tableswitch 68 0 4 #[35, 44, 49, 58, 63], 35)), (36, (.aload_n 0, 1)), (37, (.getfield 7, 3)), (40, (.sipush 313, 3)), (43, (.iaload, 1)), (44, (.ireturn, 1)), (45, (.aload_n 0, 1)), (46, (.getfield 145, 3)), (49, (.ireturn, 1)), (50, (.aload_n 0, 1)), (51, (.getfield 7, 3)), (54, (.sipush 312, 3)), (57, (.iaload, 1)), (58, (.ireturn, 1)), (59, (.aload_n 0, 1)), (60, (.getfield 262, 3)), (63, (.ireturn, 1)), (64, (.aload_n 0, 1)), (65, (.getfield 162, 3)), (68, (.ireturn, 1)), (69, (.iload_n 1, 1)), (70, (.bipush 10, 2)), (72, (.bipush 21, 2)), (74, (.invokestatic 153, 3)), (77, (.ifCond .eq 28, 3)), (80, (.aload_n 0, 1)), (81, (.iload_n 1, 1)), (82, (.bipush 10, 2)), (84, (.isub, 1)), (85, (.invokevirtual 157, 3)), (88, (.ifCond .eq 15, 3)), (91, (.aload_n 0, 1)), (92, (.getfield 19, 3)), (95, (.iload_n 1, 1)), (96, (.bipush 10, 2)), (98, (.isub, 1)), (99, (.iaload, 1)), (100, (.goto 4, 3)), (103, (.iconst (-1), 1)), (104, (.ireturn, 1)), (105, (.iload_n 1, 1)), (106, (.bipush 30, 2)), (108, (.bipush 41, 2)), (110, (.invokestatic 153, 3)), (113, (.ifCond .eq 28, 3)), (116, (.aload_n 0, 1)), (117, (.iload_n 1, 1)), (118, (.bipush 30, 2)), (120, (.isub, 1)), (121, (.invokevirtual 157, 3)), (124, (.ifCond .eq 15, 3)), (127, (.aload_n 0, 1)), (128, (.getfield 22, 3)), (131, (.iload_n 1, 1)), (132, (.bipush 30, 2)), (134, (.isub, 1)), (135, (.iaload, 1)), (136, (.goto 4, 3)), (139, (.iconst (-1), 1)), (140, (.ireturn, 1)), (141, (.iload_n 1, 1)), (142, (.bipush 50, 2)), (144, (.bipush 61, 2)), (146, (.invokestatic 153, 3)), (149, (.ifCond .eq 28, 3)), (152, (.aload_n 0, 1)), (153, (.iload_n 1, 1)), (154, (.bipush 50, 2)), (156, (.isub, 1)), (157, (.invokevirtual 157, 3)), (160, (.ifCond .eq 15, 3)), (163, (.aload_n 0, 1)), (164, (.getfield 25, 3)), (167, (.iload_n 1, 1)), (168, (.bipush 50, 2)), (170, (.isub, 1)), (171, (.iaload, 1)), (172, (.goto 4, 3)), (175, (.iconst (-1), 1)), (176, (.ireturn, 1)), (177, (.iload_n 1, 1)), (178, (.bipush 70, 2)), (180, (.bipush 109, 2)), (182, (.invokestatic 153, 3)), (185, (.ifCond .eq 14, 3)), (188, (.aload_n 0, 1)), (189, (.iload_n 1, 1)), (190, (.bipush 10, 2)), (192, (.irem, 1)), (193, (.invokevirtual 310, 3)), (196, (.ifCond .ne 5, 3)), (199, (.iconst (-1), 1)), (200, (.ireturn, 1)), (201, (.iload_n 1, 1)), (202, (.bipush 10, 2)), (204, (.idiv, 1)), (205, (.tableswitch 79 7 9 #[27, 41, 69], 27)), (232, (.aload_n 0, 1)), (233, (.getfield 7, 3)), (236, (.sipush 288, 3)), (239, (.iload_n 1, 1)), (240, (.iadd, 1)), (241, (.bipush 70, 2)), (243, (.isub, 1)), (244, (.iaload, 1)), (245, (.ireturn, 1)), (246, (.aload_n 0, 1)), (247, (.getfield 7, 3)), (250, (.sipush 296, 3)), (253, (.iload_n 1, 1)), (254, (.iadd, 1)), (255, (.bipush 80, 2)), (257, (.isub, 1)), (258, (.iaload, 1)), (259, (.aload_n 0, 1)), (260, (.getfield 7, 3)), (263, (.sipush 304, 3)), (266, (.iload_n 1, 1)), (267, (.iadd, 1)), (268, (.bipush 80, 2)), (270, (.isub, 1)), (271, (.iaload, 1)), (272, (.isub, 1)), (273, (.ireturn, 1)), (274, (.aload_n 0, 1)), (275, (.iconst 0, 1)), (276, (.iload_n 1, 1)), (277, (.bipush 90, 2)), (279, (.isub, 1)), (280, (.invokevirtual 496, 3)), (283, (.ireturn, 1)), (284, (.aload_n 0, 1)), (285, (.sipush 192, 3)), (288, (.iload_n 1, 1)), (289, (.bipush 100, 2)), (291, (.isub, 1)), (292, (.invokevirtual 496, 3)), (295, (.ireturn, 1))]
theorem dm_X12_count : ∀ q ∈ tb_X12_count, decode zX12_count.2.1 q.1 = .ok q.2 := by decide +kernel
def f_X12_count (n : Nat) (a1 : Int32) (M : qM) : qR :=
  qsw a1 [((0 : Int32), some ((M 78 313), M)), ((1 : Int32), some ((M 77 6), M)), ((2 : Int32), some ((M 78 312), M)), ((3 : Int32), some ((M 77 17), M)), ((4 : Int32), some ((M 77 8), M))] (qc (f_X12_in n a1 (10 : Int32) (21 : Int32) M) (fun r1 m2 => (if r1 = (0 : Int32) then qc (f_X12_in n a1 (30 : Int32) (41 : Int32) m2) (fun r3 m4 => (if r3 = (0 : Int32) then qc (f_X12_in n a1 (50 : Int32) (61 : Int32) m4) (fun r5 m6 => (if r5 = (0 : Int32) then qc (f_X12_in n a1 (70 : Int32) (109 : Int32) m6) (fun r7 m8 => (if r7 = (0 : Int32) then some ((-1 : Int32), m8) else qc (f_X12_isPerson n (a1 - a1 / (10 : Int32) * (10 : Int32)) m8) (fun r9 m10 => (if r9 = (0 : Int32) then some ((-1 : Int32), m10) else qsw (a1 / (10 : Int32)) [((7 : Int32), qg (((288 : Int32) + a1) - (70 : Int32)) 954 (some ((m10 78 (((288 : Int32) + a1) - (70 : Int32)).toNatClampNeg), m10))), ((8 : Int32), qg (((296 : Int32) + a1) - (80 : Int32)) 954 (qg (((304 : Int32) + a1) - (80 : Int32)) 954 (some (((m10 78 (((296 : Int32) + a1) - (80 : Int32)).toNatClampNeg) - (m10 78 (((304 : Int32) + a1) - (80 : Int32)).toNatClampNeg)), m10)))), ((9 : Int32), qc (f_X12_sumOf n (0 : Int32) (a1 - (90 : Int32)) m10) (fun r13 m14 => some (r13, m14)))] (qc (f_X12_sumOf n (192 : Int32) (a1 - (100 : Int32)) m10) (fun r11 m12 => some (r11, m12))))))) else qc (f_X12_isKind n (a1 - (50 : Int32)) m6) (fun r15 m16 => (if r15 = (0 : Int32) then some ((-1 : Int32), m16) else qg (a1 - (50 : Int32)) 13 (some ((m16 83 (a1 - (50 : Int32)).toNatClampNeg), m16)))))) else qc (f_X12_isKind n (a1 - (30 : Int32)) m4) (fun r17 m18 => (if r17 = (0 : Int32) then some ((-1 : Int32), m18) else qg (a1 - (30 : Int32)) 13 (some ((m18 82 (a1 - (30 : Int32)).toNatClampNeg), m18)))))) else qc (f_X12_isKind n (a1 - (10 : Int32)) m2) (fun r19 m20 => (if r19 = (0 : Int32) then some ((-1 : Int32), m20) else qg (a1 - (10 : Int32)) 13 (some ((m20 81 (a1 - (10 : Int32)).toNatClampNeg), m20)))))))
set_option maxRecDepth 4000 in
theorem w_X12_count {g : qG} {k : qK} (n : Nat) (j r : Nat) (hj : q_isLaw j) (hr : q_isLaw r) (o : qOk g 2 zX12_count k) (a1 : Int32) (M : qM) : qAE g k zX12_count (qL j r) 0 [some (.inr (some 77)), some (.inl a1)] [] (qL j r, M) (f_X12_count n a1 M) := by
  unfold f_X12_count
  refine qr_iload_n o (q_dm dm_X12_count 0 rfl) rfl ?_
  refine qr_tablep (tgt := 69) o (q_dm dm_X12_count 1 rfl) (by show (_ : Int) + (5 : Nat) = _; decide) (by decide) ?_ (q_tbc (35) 36 (by decide) rfl (by decide) ?_ (q_tbc (44) 45 (by decide) rfl (by decide) ?_ (q_tbc (49) 50 (by decide) rfl (by decide) ?_ (q_tbc (58) 59 (by decide) rfl (by decide) ?_ (q_tbc (63) 64 (by decide) rfl (by decide) ?_ q_tbn)))))
  · refine qr_iload_n o (q_dm dm_X12_count 21 rfl) rfl ?_
    refine qr_bipush o (q_dm dm_X12_count 22 rfl) bi_10 ?_
    refine qr_bipush o (q_dm dm_X12_count 23 rfl) bi_21 ?_
    refine qr_calls_i (As := [.inl a1, .inl (10 : Int32), .inl (21 : Int32)]) (S := []) o (a_X12_in g k.2.1 n j r hj hr a1 (10 : Int32) (21 : Int32) M) (Nat.le_of_ble_eq_true rfl) zs_X12_in rfl ml_X12_153 (Nat.le_of_ble_eq_true rfl) (q_dm dm_X12_count 24 rfl) (fun r1 m2 => ?_)
    refine qr_if_eq (tgt := 105) o (q_dm dm_X12_count 25 rfl) (by decide) ?_ ?_
    · refine qr_iload_n o (q_dm dm_X12_count 41 rfl) rfl ?_
      refine qr_bipush o (q_dm dm_X12_count 42 rfl) bi_30 ?_
      refine qr_bipush o (q_dm dm_X12_count 43 rfl) bi_41 ?_
      refine qr_calls_i (As := [.inl a1, .inl (30 : Int32), .inl (41 : Int32)]) (S := []) o (a_X12_in g k.2.1 n j r hj hr a1 (30 : Int32) (41 : Int32) m2) (Nat.le_of_ble_eq_true rfl) zs_X12_in rfl ml_X12_153 (Nat.le_of_ble_eq_true rfl) (q_dm dm_X12_count 44 rfl) (fun r3 m4 => ?_)
      refine qr_if_eq (tgt := 141) o (q_dm dm_X12_count 45 rfl) (by decide) ?_ ?_
      · refine qr_iload_n o (q_dm dm_X12_count 61 rfl) rfl ?_
        refine qr_bipush o (q_dm dm_X12_count 62 rfl) bi_50 ?_
        refine qr_bipush o (q_dm dm_X12_count 63 rfl) bi_61 ?_
        refine qr_calls_i (As := [.inl a1, .inl (50 : Int32), .inl (61 : Int32)]) (S := []) o (a_X12_in g k.2.1 n j r hj hr a1 (50 : Int32) (61 : Int32) m4) (Nat.le_of_ble_eq_true rfl) zs_X12_in rfl ml_X12_153 (Nat.le_of_ble_eq_true rfl) (q_dm dm_X12_count 64 rfl) (fun r5 m6 => ?_)
        refine qr_if_eq (tgt := 177) o (q_dm dm_X12_count 65 rfl) (by decide) ?_ ?_
        · refine qr_iload_n o (q_dm dm_X12_count 81 rfl) rfl ?_
          refine qr_bipush o (q_dm dm_X12_count 82 rfl) bi_70 ?_
          refine qr_bipush o (q_dm dm_X12_count 83 rfl) bi_109 ?_
          refine qr_calls_i (As := [.inl a1, .inl (70 : Int32), .inl (109 : Int32)]) (S := []) o (a_X12_in g k.2.1 n j r hj hr a1 (70 : Int32) (109 : Int32) m6) (Nat.le_of_ble_eq_true rfl) zs_X12_in rfl ml_X12_153 (Nat.le_of_ble_eq_true rfl) (q_dm dm_X12_count 84 rfl) (fun r7 m8 => ?_)
          refine qr_if_eq (tgt := 199) o (q_dm dm_X12_count 85 rfl) (by decide) ?_ ?_
          · refine qr_iconst o (q_dm dm_X12_count 92 rfl) ic_m1 ?_
            exact qr_iret o rfl rfl (q_dm dm_X12_count 93 rfl)
          · refine qr_aload_n o (q_dm dm_X12_count 86 rfl) rfl ?_
            refine qr_iload_n o (q_dm dm_X12_count 87 rfl) rfl ?_
            refine qr_bipush o (q_dm dm_X12_count 88 rfl) bi_10 ?_
            refine qr_iremc o (q_dm dm_X12_count 89 rfl) (by decide) ?_
            refine qr_callv_i (As := [.inl (a1 - a1 / (10 : Int32) * (10 : Int32))]) (S := []) o (a_X12_isPerson g k.2.1 n j r hj hr (a1 - a1 / (10 : Int32) * (10 : Int32)) m8) (Nat.le_of_ble_eq_true rfl) zv_X12_isPerson rfl cf_X12 (sh77 j r) ml_X12_310 (Nat.le_of_ble_eq_true rfl) (q_dm dm_X12_count 90 rfl) (fun r9 m10 => ?_)
            refine qr_if_ne (tgt := 201) o (q_dm dm_X12_count 91 rfl) (by decide) ?_ ?_
            · refine qr_iload_n o (q_dm dm_X12_count 94 rfl) rfl ?_
              refine qr_bipush o (q_dm dm_X12_count 95 rfl) bi_10 ?_
              refine qr_idivc o (q_dm dm_X12_count 96 rfl) (by decide) ?_
              refine qr_tablep (tgt := 284) o (q_dm dm_X12_count 97 rfl) (by show (_ : Int) + (3 : Nat) = _; decide) (by decide) ?_ (q_tbc (27) 232 (by decide) rfl (by decide) ?_ (q_tbc (41) 246 (by decide) rfl (by decide) ?_ (q_tbc (69) 274 (by decide) rfl (by decide) ?_ q_tbn)))
              · refine qr_aload_n o (q_dm dm_X12_count 132 rfl) rfl ?_
                refine qr_sipush o (q_dm dm_X12_count 133 rfl) si_192 ?_
                refine qr_iload_n o (q_dm dm_X12_count 134 rfl) rfl ?_
                refine qr_bipush o (q_dm dm_X12_count 135 rfl) bi_100 ?_
                refine qr_isub o (q_dm dm_X12_count 136 rfl) ?_
                refine qr_callv_i (As := [.inl (192 : Int32), .inl (a1 - (100 : Int32))]) (S := []) o (a_X12_sumOf g k.2.1 n j r hj hr (192 : Int32) (a1 - (100 : Int32)) m10) (Nat.le_of_ble_eq_true rfl) zv_X12_sumOf rfl cf_X12 (sh77 j r) ml_X12_496 (Nat.le_of_ble_eq_true rfl) (q_dm dm_X12_count 137 rfl) (fun r11 m12 => ?_)
                exact qr_iret o rfl rfl (q_dm dm_X12_count 138 rfl)
              · refine qr_aload_n o (q_dm dm_X12_count 98 rfl) rfl ?_
                refine qr_getr (kf := 0) o cf_X12 (sh77 j r) rfl (Nat.le_of_ble_eq_true rfl) fl_X12_7 (q_dm dm_X12_count 99 rfl) ?_
                refine qr_sipush o (q_dm dm_X12_count 100 rfl) si_288 ?_
                refine qr_iload_n o (q_dm dm_X12_count 101 rfl) rfl ?_
                refine qr_iadd o (q_dm dm_X12_count 102 rfl) ?_
                refine qr_bipush o (q_dm dm_X12_count 103 rfl) bi_70 ?_
                refine qr_isub o (q_dm dm_X12_count 104 rfl) ?_
                refine qr_iald o (sh78 j r) (q_dm dm_X12_count 105 rfl) ?_
                exact qr_iret o rfl rfl (q_dm dm_X12_count 106 rfl)
              · refine qr_aload_n o (q_dm dm_X12_count 107 rfl) rfl ?_
                refine qr_getr (kf := 0) o cf_X12 (sh77 j r) rfl (Nat.le_of_ble_eq_true rfl) fl_X12_7 (q_dm dm_X12_count 108 rfl) ?_
                refine qr_sipush o (q_dm dm_X12_count 109 rfl) si_296 ?_
                refine qr_iload_n o (q_dm dm_X12_count 110 rfl) rfl ?_
                refine qr_iadd o (q_dm dm_X12_count 111 rfl) ?_
                refine qr_bipush o (q_dm dm_X12_count 112 rfl) bi_80 ?_
                refine qr_isub o (q_dm dm_X12_count 113 rfl) ?_
                refine qr_iald o (sh78 j r) (q_dm dm_X12_count 114 rfl) ?_
                refine qr_aload_n o (q_dm dm_X12_count 115 rfl) rfl ?_
                refine qr_getr (kf := 0) o cf_X12 (sh77 j r) rfl (Nat.le_of_ble_eq_true rfl) fl_X12_7 (q_dm dm_X12_count 116 rfl) ?_
                refine qr_sipush o (q_dm dm_X12_count 117 rfl) si_304 ?_
                refine qr_iload_n o (q_dm dm_X12_count 118 rfl) rfl ?_
                refine qr_iadd o (q_dm dm_X12_count 119 rfl) ?_
                refine qr_bipush o (q_dm dm_X12_count 120 rfl) bi_80 ?_
                refine qr_isub o (q_dm dm_X12_count 121 rfl) ?_
                refine qr_iald o (sh78 j r) (q_dm dm_X12_count 122 rfl) ?_
                refine qr_isub o (q_dm dm_X12_count 123 rfl) ?_
                exact qr_iret o rfl rfl (q_dm dm_X12_count 124 rfl)
              · refine qr_aload_n o (q_dm dm_X12_count 125 rfl) rfl ?_
                refine qr_iconst o (q_dm dm_X12_count 126 rfl) ic_0 ?_
                refine qr_iload_n o (q_dm dm_X12_count 127 rfl) rfl ?_
                refine qr_bipush o (q_dm dm_X12_count 128 rfl) bi_90 ?_
                refine qr_isub o (q_dm dm_X12_count 129 rfl) ?_
                refine qr_callv_i (As := [.inl (0 : Int32), .inl (a1 - (90 : Int32))]) (S := []) o (a_X12_sumOf g k.2.1 n j r hj hr (0 : Int32) (a1 - (90 : Int32)) m10) (Nat.le_of_ble_eq_true rfl) zv_X12_sumOf rfl cf_X12 (sh77 j r) ml_X12_496 (Nat.le_of_ble_eq_true rfl) (q_dm dm_X12_count 130 rfl) (fun r13 m14 => ?_)
                exact qr_iret o rfl rfl (q_dm dm_X12_count 131 rfl)
            · refine qr_iconst o (q_dm dm_X12_count 92 rfl) ic_m1 ?_
              exact qr_iret o rfl rfl (q_dm dm_X12_count 93 rfl)
        · refine qr_aload_n o (q_dm dm_X12_count 66 rfl) rfl ?_
          refine qr_iload_n o (q_dm dm_X12_count 67 rfl) rfl ?_
          refine qr_bipush o (q_dm dm_X12_count 68 rfl) bi_50 ?_
          refine qr_isub o (q_dm dm_X12_count 69 rfl) ?_
          refine qr_callv_i (As := [.inl (a1 - (50 : Int32))]) (S := []) o (a_X12_isKind g k.2.1 n j r hj hr (a1 - (50 : Int32)) m6) (Nat.le_of_ble_eq_true rfl) zv_X12_isKind rfl cf_X12 (sh77 j r) ml_X12_157 (Nat.le_of_ble_eq_true rfl) (q_dm dm_X12_count 70 rfl) (fun r15 m16 => ?_)
          refine qr_if_eq (tgt := 175) o (q_dm dm_X12_count 71 rfl) (by decide) ?_ ?_
          · refine qr_iconst o (q_dm dm_X12_count 79 rfl) ic_m1 ?_
            exact qr_iret o rfl rfl (q_dm dm_X12_count 80 rfl)
          · refine qr_aload_n o (q_dm dm_X12_count 72 rfl) rfl ?_
            refine qr_getr (kf := 5) o cf_X12 (sh77 j r) rfl (Nat.le_of_ble_eq_true rfl) fl_X12_25 (q_dm dm_X12_count 73 rfl) ?_
            refine qr_iload_n o (q_dm dm_X12_count 74 rfl) rfl ?_
            refine qr_bipush o (q_dm dm_X12_count 75 rfl) bi_50 ?_
            refine qr_isub o (q_dm dm_X12_count 76 rfl) ?_
            refine qr_iald o (sh83 j r) (q_dm dm_X12_count 77 rfl) ?_
            refine qr_goto (tgt := 176) o (q_dm dm_X12_count 78 rfl) (by decide) ?_
            exact qr_iret o rfl rfl (q_dm dm_X12_count 80 rfl)
      · refine qr_aload_n o (q_dm dm_X12_count 46 rfl) rfl ?_
        refine qr_iload_n o (q_dm dm_X12_count 47 rfl) rfl ?_
        refine qr_bipush o (q_dm dm_X12_count 48 rfl) bi_30 ?_
        refine qr_isub o (q_dm dm_X12_count 49 rfl) ?_
        refine qr_callv_i (As := [.inl (a1 - (30 : Int32))]) (S := []) o (a_X12_isKind g k.2.1 n j r hj hr (a1 - (30 : Int32)) m4) (Nat.le_of_ble_eq_true rfl) zv_X12_isKind rfl cf_X12 (sh77 j r) ml_X12_157 (Nat.le_of_ble_eq_true rfl) (q_dm dm_X12_count 50 rfl) (fun r17 m18 => ?_)
        refine qr_if_eq (tgt := 139) o (q_dm dm_X12_count 51 rfl) (by decide) ?_ ?_
        · refine qr_iconst o (q_dm dm_X12_count 59 rfl) ic_m1 ?_
          exact qr_iret o rfl rfl (q_dm dm_X12_count 60 rfl)
        · refine qr_aload_n o (q_dm dm_X12_count 52 rfl) rfl ?_
          refine qr_getr (kf := 4) o cf_X12 (sh77 j r) rfl (Nat.le_of_ble_eq_true rfl) fl_X12_22 (q_dm dm_X12_count 53 rfl) ?_
          refine qr_iload_n o (q_dm dm_X12_count 54 rfl) rfl ?_
          refine qr_bipush o (q_dm dm_X12_count 55 rfl) bi_30 ?_
          refine qr_isub o (q_dm dm_X12_count 56 rfl) ?_
          refine qr_iald o (sh82 j r) (q_dm dm_X12_count 57 rfl) ?_
          refine qr_goto (tgt := 140) o (q_dm dm_X12_count 58 rfl) (by decide) ?_
          exact qr_iret o rfl rfl (q_dm dm_X12_count 60 rfl)
    · refine qr_aload_n o (q_dm dm_X12_count 26 rfl) rfl ?_
      refine qr_iload_n o (q_dm dm_X12_count 27 rfl) rfl ?_
      refine qr_bipush o (q_dm dm_X12_count 28 rfl) bi_10 ?_
      refine qr_isub o (q_dm dm_X12_count 29 rfl) ?_
      refine qr_callv_i (As := [.inl (a1 - (10 : Int32))]) (S := []) o (a_X12_isKind g k.2.1 n j r hj hr (a1 - (10 : Int32)) m2) (Nat.le_of_ble_eq_true rfl) zv_X12_isKind rfl cf_X12 (sh77 j r) ml_X12_157 (Nat.le_of_ble_eq_true rfl) (q_dm dm_X12_count 30 rfl) (fun r19 m20 => ?_)
      refine qr_if_eq (tgt := 103) o (q_dm dm_X12_count 31 rfl) (by decide) ?_ ?_
      · refine qr_iconst o (q_dm dm_X12_count 39 rfl) ic_m1 ?_
        exact qr_iret o rfl rfl (q_dm dm_X12_count 40 rfl)
      · refine qr_aload_n o (q_dm dm_X12_count 32 rfl) rfl ?_
        refine qr_getr (kf := 3) o cf_X12 (sh77 j r) rfl (Nat.le_of_ble_eq_true rfl) fl_X12_19 (q_dm dm_X12_count 33 rfl) ?_
        refine qr_iload_n o (q_dm dm_X12_count 34 rfl) rfl ?_
        refine qr_bipush o (q_dm dm_X12_count 35 rfl) bi_10 ?_
        refine qr_isub o (q_dm dm_X12_count 36 rfl) ?_
        refine qr_iald o (sh81 j r) (q_dm dm_X12_count 37 rfl) ?_
        refine qr_goto (tgt := 104) o (q_dm dm_X12_count 38 rfl) (by decide) ?_
        exact qr_iret o rfl rfl (q_dm dm_X12_count 40 rfl)
  · refine qr_aload_n o (q_dm dm_X12_count 2 rfl) rfl ?_
    refine qr_getr (kf := 0) o cf_X12 (sh77 j r) rfl (Nat.le_of_ble_eq_true rfl) fl_X12_7 (q_dm dm_X12_count 3 rfl) ?_
    refine qr_sipush o (q_dm dm_X12_count 4 rfl) si_313 ?_
    refine qr_iald0 (c := 313) o (sh78 j r) (by decide) (by decide) (q_dm dm_X12_count 5 rfl) ?_
    exact qr_iret o rfl rfl (q_dm dm_X12_count 6 rfl)
  · refine qr_aload_n o (q_dm dm_X12_count 7 rfl) rfl ?_
    refine qr_getf (kf := 6) o cf_X12 (sh77 j r) rfl (Nat.le_of_ble_eq_true rfl) fl_X12_145 (q_dm dm_X12_count 8 rfl) ?_
    exact qr_iret o rfl rfl (q_dm dm_X12_count 9 rfl)
  · refine qr_aload_n o (q_dm dm_X12_count 10 rfl) rfl ?_
    refine qr_getr (kf := 0) o cf_X12 (sh77 j r) rfl (Nat.le_of_ble_eq_true rfl) fl_X12_7 (q_dm dm_X12_count 11 rfl) ?_
    refine qr_sipush o (q_dm dm_X12_count 12 rfl) si_312 ?_
    refine qr_iald0 (c := 312) o (sh78 j r) (by decide) (by decide) (q_dm dm_X12_count 13 rfl) ?_
    exact qr_iret o rfl rfl (q_dm dm_X12_count 14 rfl)
  · refine qr_aload_n o (q_dm dm_X12_count 15 rfl) rfl ?_
    refine qr_getf (kf := 17) o cf_X12 (sh77 j r) rfl (Nat.le_of_ble_eq_true rfl) fl_X12_262 (q_dm dm_X12_count 16 rfl) ?_
    exact qr_iret o rfl rfl (q_dm dm_X12_count 17 rfl)
  · refine qr_aload_n o (q_dm dm_X12_count 18 rfl) rfl ?_
    refine qr_getf (kf := 8) o cf_X12 (sh77 j r) rfl (Nat.le_of_ble_eq_true rfl) fl_X12_162 (q_dm dm_X12_count 19 rfl) ?_
    exact qr_iret o rfl rfl (q_dm dm_X12_count 20 rfl)

theorem a_X12_count (g : qG) (l : Launch) (n : Nat) (j r : Nat) (hj : q_isLaw j) (hr : q_isLaw r) (a1 : Int32) (M : qM) : qAM g l 2 zX12_count (qL j r) [.inr (some 77), .inl a1] (qL j r, M) (f_X12_count n a1 M) :=
  qAM.of zv_X12_count.1 (by show 2 ≤ 2; decide) (fun k hk o => w_X12_count n j r hj hr o a1 M)

def tb_X12_court : List (Nat × Instr × Nat) := [(0, (.iload_n 1, 1)), (1, (.iconst 1, 1)), (2, (.bipush 9, 2)), (4, (.invokestatic 153, 3)), (7, (.ifCond .eq 63, 3)), (10, (.iload_n 2, 1)), (11, (.iconst 0, 1)), (12, (.iconst 1, 1)), (13, (.iload_n 1, 1)), (14, (.ishl, 1)), (15, (.iconst 1, 1)), (16, (.isub, 1)), (17, (.invokestatic 153, 3)), (20, (.ifCond .eq 50, 3)), (23, (.iload_n 3, 1)), (24, (.iconst 0, 1)), (25, (.iconst 1, 1)), (26, (.iload_n 1, 1)), (27, (.ishl, 1)), (28, (.iconst 1, 1)), (29, (.isub, 1)), (30, (.invokestatic 153, 3)), (33, (.ifCond .eq 37, 3)), (36, (.iload 4, 2)), (38, (.iconst 0, 1)), (39, (.iconst 1, 1)), (40, (.iload_n 1, 1)), (41, (.ishl, 1)), (42, (.iconst 1, 1)), (43, (.isub, 1)), (44, (.invokestatic 153, 3)), (47, (.ifCond .eq 23, 3)), (50, (.iload 5, 2)), (52, (.iconst 0, 1)), (53, (.iload_n 1, 1)), (54, (.invokestatic 153, 3)), (57, (.ifCond .eq 13, 3)), (60, (.iload 6, 2)), (62, (.iconst 0, 1)), (63, (.iconst 2, 1)), (64, (.invokestatic 153, 3)), (67, (.ifCond .ne 5, 3)), (70, (.iconst (-1), 1)), (71, (.ireturn, 1)), (72, (.iload_n 2, 1)), (73, (.invokestatic 276, 3)), (76, (.istore 7, 2)), (78, (.iconst 2, 1)), (79, (.iload 7, 2)), (81, (.imul, 1)), (82, (.iload_n 1, 1)), (83, (.if_icmp .lt 7, 3)), (86, (.iconst 1, 1)), (87, (.goto 4, 3)), (90, (.iconst 0, 1)), (91, (.istore 8, 2)), (93, (.iconst 0, 1)), (94, (.istore 9, 2)), (96, (.iconst 0, 1)), (97, (.istore 10, 2)), (99, (.iload 10, 2)), (101, (.iload_n 1, 1)), (102, (.if_icmp .ge 63, 3)), (105, (.iload_n 2, 1)), (106, (.iload 10, 2)), (108, (.invokestatic 149, 3)), (111, (.istore 11, 2)), (113, (.iload 7, 2)), (115, (.iload 5, 2)), (117, (.if_icmp .lt 23, 3)), (120, (.iload 11, 2)), (122, (.iload 8, 2)), (124, (.if_icmp .ne 7, 3)), (127, (.iload_n 3, 1)), (128, (.goto 5, 3)), (131, (.iload 4, 2)), (133, (.iload 10, 2)), (135, (.invokestatic 149, 3)), (138, (.istore 11, 2)), (140, (.iload 11, 2)), (142, (.ifCond .eq 13, 3)), (145, (.iload 9, 2)), (147, (.iconst 1, 1)), (148, (.iload 10, 2)), (150, (.ishl, 1)), (151, (.ior, 1)), (152, (.goto 5, 3)), (155, (.iload 9, 2)), (157, (.istore 9, 2)), (159, (.iinc 10 1, 3)), (162, (.goto (-63), 3)), (165, (.iload 6, 2)), (167, (.ifCond .ne 11, 3)), (170, (.iload 9, 2)), (172, (.invokestatic 276, 3)), (175, (.goto 35, 3)), (178, (.iload 6, 2)), (180, (.iconst 1, 1)), (181, (.if_icmp .ne 22, 3)), (184, (.iconst 2, 1)), (185, (.iload 9, 2)), (187, (.invokestatic 276, 3)), (190, (.imul, 1)), (191, (.iload_n 1, 1)), (192, (.if_icmp .le 7, 3)), (195, (.iconst 1, 1)), (196, (.goto 14, 3)), (199, (.iconst 0, 1)), (200, (.goto 10, 3)), (203, (.iload 9, 2)), (205, (.iload_n 2, 1)), (206, (.ixor, 1)), (207, (.invokestatic 276, 3)), (210, (.ireturn, 1))]
theorem dm_X12_court : ∀ q ∈ tb_X12_court, decode zX12_court.2.1 q.1 = .ok q.2 := by decide +kernel
def f_X12_court_140 (n : Nat) (K99 : Int32 → Int32 → Int32 → Int32 → Int32 → Int32 → Int32 → Int32 → Int32 → Int32 → qM → qR) (a1 a2 a3 a4 a5 a6 a7 a8 a9 a10 a11 : Int32) (M : qM) : qR :=
  (if a11 = (0 : Int32) then ql (a10 + (1 : Int32)) (fun x1 => K99 a1 a2 a3 a4 a5 a6 a7 a8 a9 x1 M) else ql (a9 ||| ((1 : Int32) <<< (a10 &&& 31))) (fun x2 => ql (a10 + (1 : Int32)) (fun x3 => K99 a1 a2 a3 a4 a5 a6 a7 a8 x2 x3 M)))
set_option maxRecDepth 4000 in
theorem w_X12_court_140 {g : qG} {k : qK} (n : Nat) (j r : Nat) (hj : q_isLaw j) (hr : q_isLaw r) (o : qOk g 1 zX12_court k) (K99 : Int32 → Int32 → Int32 → Int32 → Int32 → Int32 → Int32 → Int32 → Int32 → Int32 → qM → qR) (hK99 : ∀ (a1 a2 a3 a4 a5 a6 a7 a8 a9 a10 : Int32) (M : qM), qAE g k zX12_court (qL j r) 99 [none, some (.inl a1), some (.inl a2), some (.inl a3), some (.inl a4), some (.inl a5), some (.inl a6), some (.inl a7), some (.inl a8), some (.inl a9), some (.inl a10), none] [] (qL j r, M) (K99 a1 a2 a3 a4 a5 a6 a7 a8 a9 a10 M)) (a1 a2 a3 a4 a5 a6 a7 a8 a9 a10 a11 : Int32) (M : qM) : qAE g k zX12_court (qL j r) 140 [none, some (.inl a1), some (.inl a2), some (.inl a3), some (.inl a4), some (.inl a5), some (.inl a6), some (.inl a7), some (.inl a8), some (.inl a9), some (.inl a10), some (.inl a11)] [] (qL j r, M) (f_X12_court_140 n K99 a1 a2 a3 a4 a5 a6 a7 a8 a9 a10 a11 M) := by
  unfold f_X12_court_140
  refine qr_iload o (q_dm dm_X12_court 79 rfl) rfl ?_
  refine qr_if_eq (tgt := 155) o (q_dm dm_X12_court 80 rfl) (by decide) ?_ ?_
  · refine qr_iload o (q_dm dm_X12_court 87 rfl) rfl ?_
    refine qs_istore (L' := [none, some (.inl a1), some (.inl a2), some (.inl a3), some (.inl a4), some (.inl a5), some (.inl a6), some (.inl a7), some (.inl a8), some (.inl a9), some (.inl a10), some (.inl a11)]) o (q_dm dm_X12_court 88 rfl) (Nat.le_of_ble_eq_true rfl) rfl ?_
    refine qs_iincl2 (L' := fun x1 => [none, some (.inl a1), some (.inl a2), some (.inl a3), some (.inl a4), some (.inl a5), some (.inl a6), some (.inl a7), some (.inl a8), some (.inl a9), some (.inl x1), some (.inl a11)]) o (q_dm dm_X12_court 89 rfl) rfl ic_1 (Nat.le_of_ble_eq_true rfl) (fun _ => rfl) (fun x1 => ?_)
    refine qr_goto (tgt := 99) o (q_dm dm_X12_court 90 rfl) (by decide) ?_
    exact qr_loc (q_leN (q_leS (q_leS (q_leS (q_leS (q_leS (q_leS (q_leS (q_leS (q_leS (q_leS (q_leN q_le0)))))))))))) (hK99 a1 a2 a3 a4 a5 a6 a7 a8 a9 x1 M)
  · refine qr_iload o (q_dm dm_X12_court 81 rfl) rfl ?_
    refine qr_iconst o (q_dm dm_X12_court 82 rfl) ic_1 ?_
    refine qr_iload o (q_dm dm_X12_court 83 rfl) rfl ?_
    refine qr_ishl o (q_dm dm_X12_court 84 rfl) ?_
    refine qr_ior o (q_dm dm_X12_court 85 rfl) ?_
    refine qr_goto (tgt := 157) o (q_dm dm_X12_court 86 rfl) (by decide) ?_
    refine qr_lt (fun x2 => ?_)
    refine qs_istore (L' := [none, some (.inl a1), some (.inl a2), some (.inl a3), some (.inl a4), some (.inl a5), some (.inl a6), some (.inl a7), some (.inl a8), some (.inl x2), some (.inl a10), some (.inl a11)]) o (q_dm dm_X12_court 88 rfl) (Nat.le_of_ble_eq_true rfl) rfl ?_
    refine qs_iincl2 (L' := fun x3 => [none, some (.inl a1), some (.inl a2), some (.inl a3), some (.inl a4), some (.inl a5), some (.inl a6), some (.inl a7), some (.inl a8), some (.inl x2), some (.inl x3), some (.inl a11)]) o (q_dm dm_X12_court 89 rfl) rfl ic_1 (Nat.le_of_ble_eq_true rfl) (fun _ => rfl) (fun x3 => ?_)
    refine qr_goto (tgt := 99) o (q_dm dm_X12_court 90 rfl) (by decide) ?_
    exact qr_loc (q_leN (q_leS (q_leS (q_leS (q_leS (q_leS (q_leS (q_leS (q_leS (q_leS (q_leS (q_leN q_le0)))))))))))) (hK99 a1 a2 a3 a4 a5 a6 a7 a8 x2 x3 M)

def f_X12_court_133 (n : Nat) (K99 : Int32 → Int32 → Int32 → Int32 → Int32 → Int32 → Int32 → Int32 → Int32 → Int32 → qM → qR) (a1 a2 a3 a4 a5 a6 a7 a8 a9 a10 s0 : Int32) (M : qM) : qR :=
  qc (f_X12_has0 n s0 a10 M) (fun r1 m2 => f_X12_court_140 n K99 a1 a2 a3 a4 a5 a6 a7 a8 a9 a10 r1 m2)
set_option maxRecDepth 4000 in
theorem w_X12_court_133 {g : qG} {k : qK} (n : Nat) (j r : Nat) (hj : q_isLaw j) (hr : q_isLaw r) (o : qOk g 1 zX12_court k) (K99 : Int32 → Int32 → Int32 → Int32 → Int32 → Int32 → Int32 → Int32 → Int32 → Int32 → qM → qR) (hK99 : ∀ (a1 a2 a3 a4 a5 a6 a7 a8 a9 a10 : Int32) (M : qM), qAE g k zX12_court (qL j r) 99 [none, some (.inl a1), some (.inl a2), some (.inl a3), some (.inl a4), some (.inl a5), some (.inl a6), some (.inl a7), some (.inl a8), some (.inl a9), some (.inl a10), none] [] (qL j r, M) (K99 a1 a2 a3 a4 a5 a6 a7 a8 a9 a10 M)) (a1 a2 a3 a4 a5 a6 a7 a8 a9 a10 s0 : Int32) (M : qM) : qAE g k zX12_court (qL j r) 133 [none, some (.inl a1), some (.inl a2), some (.inl a3), some (.inl a4), some (.inl a5), some (.inl a6), some (.inl a7), some (.inl a8), some (.inl a9), some (.inl a10), none] [.inl s0] (qL j r, M) (f_X12_court_133 n K99 a1 a2 a3 a4 a5 a6 a7 a8 a9 a10 s0 M) := by
  unfold f_X12_court_133
  refine qr_iload o (q_dm dm_X12_court 76 rfl) rfl ?_
  refine qr_calls_i (As := [.inl s0, .inl a10]) (S := []) o (a_X12_has0 g k.2.1 n j r hj hr s0 a10 M) (Nat.le_of_ble_eq_true rfl) zs_X12_has0 rfl ml_X12_149 (Nat.le_of_ble_eq_true rfl) (q_dm dm_X12_court 77 rfl) (fun r1 m2 => ?_)
  refine qs_istore (L' := [none, some (.inl a1), some (.inl a2), some (.inl a3), some (.inl a4), some (.inl a5), some (.inl a6), some (.inl a7), some (.inl a8), some (.inl a9), some (.inl a10), some (.inl r1)]) o (q_dm dm_X12_court 78 rfl) (Nat.le_of_ble_eq_true rfl) rfl ?_
  exact qr_loc (q_leN (q_leS (q_leS (q_leS (q_leS (q_leS (q_leS (q_leS (q_leS (q_leS (q_leS (q_leS q_le0)))))))))))) (w_X12_court_140 n j r hj hr o K99 hK99 a1 a2 a3 a4 a5 a6 a7 a8 a9 a10 r1 m2)

def b_X12_court_99 (n : Nat) (K99 : Int32 → Int32 → Int32 → Int32 → Int32 → Int32 → Int32 → Int32 → Int32 → Int32 → qM → qR) (a1 a2 a3 a4 a5 a6 a7 a8 a9 a10 : Int32) (M : qM) : qR :=
  (if a1 ≤ a10 then (if a6 = (0 : Int32) then qc (f_X12_bits n a9 M) (fun r5 m6 => some (r5, m6)) else (if a6 = (1 : Int32) then qc (f_X12_bits n a9 M) (fun r3 m4 => (if ((2 : Int32) * r3) ≤ a1 then some ((0 : Int32), m4) else some ((1 : Int32), m4))) else qc (f_X12_bits n (a9 ^^^ a2) M) (fun r1 m2 => some (r1, m2)))) else qc (f_X12_has0 n a2 a10 M) (fun r7 m8 => (if a7 < a5 then f_X12_court_140 n K99 a1 a2 a3 a4 a5 a6 a7 a8 a9 a10 r7 m8 else (if r7 = a8 then f_X12_court_133 n K99 a1 a2 a3 a4 a5 a6 a7 a8 a9 a10 a3 m8 else f_X12_court_133 n K99 a1 a2 a3 a4 a5 a6 a7 a8 a9 a10 a4 m8))))
set_option maxRecDepth 4000 in
theorem wb_X12_court_99 {g : qG} {k : qK} (n : Nat) (j r : Nat) (hj : q_isLaw j) (hr : q_isLaw r) (o : qOk g 1 zX12_court k) (K99 : Int32 → Int32 → Int32 → Int32 → Int32 → Int32 → Int32 → Int32 → Int32 → Int32 → qM → qR) (hK99 : ∀ (a1 a2 a3 a4 a5 a6 a7 a8 a9 a10 : Int32) (M : qM), qAE g k zX12_court (qL j r) 99 [none, some (.inl a1), some (.inl a2), some (.inl a3), some (.inl a4), some (.inl a5), some (.inl a6), some (.inl a7), some (.inl a8), some (.inl a9), some (.inl a10), none] [] (qL j r, M) (K99 a1 a2 a3 a4 a5 a6 a7 a8 a9 a10 M)) (a1 a2 a3 a4 a5 a6 a7 a8 a9 a10 : Int32) (M : qM) : qAE g k zX12_court (qL j r) 99 [none, some (.inl a1), some (.inl a2), some (.inl a3), some (.inl a4), some (.inl a5), some (.inl a6), some (.inl a7), some (.inl a8), some (.inl a9), some (.inl a10), none] [] (qL j r, M) (b_X12_court_99 n K99 a1 a2 a3 a4 a5 a6 a7 a8 a9 a10 M) := by
  unfold b_X12_court_99
  refine qr_iload o (q_dm dm_X12_court 60 rfl) rfl ?_
  refine qr_iload_n o (q_dm dm_X12_court 61 rfl) rfl ?_
  refine qr_icmp_ge (tgt := 165) o (q_dm dm_X12_court 62 rfl) (by decide) ?_ ?_
  · refine qr_iload o (q_dm dm_X12_court 91 rfl) rfl ?_
    refine qr_if_ne (tgt := 178) o (q_dm dm_X12_court 92 rfl) (by decide) ?_ ?_
    · refine qr_iload o (q_dm dm_X12_court 96 rfl) rfl ?_
      refine qr_iconst o (q_dm dm_X12_court 97 rfl) ic_1 ?_
      refine qr_icmp_ne (tgt := 203) o (q_dm dm_X12_court 98 rfl) (by decide) ?_ ?_
      · refine qr_iload o (q_dm dm_X12_court 109 rfl) rfl ?_
        refine qr_iload_n o (q_dm dm_X12_court 110 rfl) rfl ?_
        refine qr_ixor o (q_dm dm_X12_court 111 rfl) ?_
        refine qr_calls_i (As := [.inl (a9 ^^^ a2)]) (S := []) o (a_X12_bits g k.2.1 n j r hj hr (a9 ^^^ a2) M) (Nat.le_of_ble_eq_true rfl) zs_X12_bits rfl ml_X12_276 (Nat.le_of_ble_eq_true rfl) (q_dm dm_X12_court 112 rfl) (fun r1 m2 => ?_)
        exact qr_iret o rfl rfl (q_dm dm_X12_court 113 rfl)
      · refine qr_iconst o (q_dm dm_X12_court 99 rfl) ic_2 ?_
        refine qr_iload o (q_dm dm_X12_court 100 rfl) rfl ?_
        refine qr_calls_i (As := [.inl a9]) (S := [.inl (2 : Int32)]) o (a_X12_bits g k.2.1 n j r hj hr a9 M) (Nat.le_of_ble_eq_true rfl) zs_X12_bits rfl ml_X12_276 (Nat.le_of_ble_eq_true rfl) (q_dm dm_X12_court 101 rfl) (fun r3 m4 => ?_)
        refine qr_imul o (q_dm dm_X12_court 102 rfl) ?_
        refine qr_iload_n o (q_dm dm_X12_court 103 rfl) rfl ?_
        refine qr_icmp_le (tgt := 199) o (q_dm dm_X12_court 104 rfl) (by decide) ?_ ?_
        · refine qr_iconst o (q_dm dm_X12_court 107 rfl) ic_0 ?_
          refine qr_goto (tgt := 210) o (q_dm dm_X12_court 108 rfl) (by decide) ?_
          exact qr_iret o rfl rfl (q_dm dm_X12_court 113 rfl)
        · refine qr_iconst o (q_dm dm_X12_court 105 rfl) ic_1 ?_
          refine qr_goto (tgt := 210) o (q_dm dm_X12_court 106 rfl) (by decide) ?_
          exact qr_iret o rfl rfl (q_dm dm_X12_court 113 rfl)
    · refine qr_iload o (q_dm dm_X12_court 93 rfl) rfl ?_
      refine qr_calls_i (As := [.inl a9]) (S := []) o (a_X12_bits g k.2.1 n j r hj hr a9 M) (Nat.le_of_ble_eq_true rfl) zs_X12_bits rfl ml_X12_276 (Nat.le_of_ble_eq_true rfl) (q_dm dm_X12_court 94 rfl) (fun r5 m6 => ?_)
      refine qr_goto (tgt := 210) o (q_dm dm_X12_court 95 rfl) (by decide) ?_
      exact qr_iret o rfl rfl (q_dm dm_X12_court 113 rfl)
  · refine qr_iload_n o (q_dm dm_X12_court 63 rfl) rfl ?_
    refine qr_iload o (q_dm dm_X12_court 64 rfl) rfl ?_
    refine qr_calls_i (As := [.inl a2, .inl a10]) (S := []) o (a_X12_has0 g k.2.1 n j r hj hr a2 a10 M) (Nat.le_of_ble_eq_true rfl) zs_X12_has0 rfl ml_X12_149 (Nat.le_of_ble_eq_true rfl) (q_dm dm_X12_court 65 rfl) (fun r7 m8 => ?_)
    refine qs_istore (L' := [none, some (.inl a1), some (.inl a2), some (.inl a3), some (.inl a4), some (.inl a5), some (.inl a6), some (.inl a7), some (.inl a8), some (.inl a9), some (.inl a10), some (.inl r7)]) o (q_dm dm_X12_court 66 rfl) (Nat.le_of_ble_eq_true rfl) rfl ?_
    refine qr_iload o (q_dm dm_X12_court 67 rfl) rfl ?_
    refine qr_iload o (q_dm dm_X12_court 68 rfl) rfl ?_
    refine qr_icmp_lt (tgt := 140) o (q_dm dm_X12_court 69 rfl) (by decide) ?_ ?_
    · exact qr_loc (q_leN (q_leS (q_leS (q_leS (q_leS (q_leS (q_leS (q_leS (q_leS (q_leS (q_leS (q_leS q_le0)))))))))))) (w_X12_court_140 n j r hj hr o K99 hK99 a1 a2 a3 a4 a5 a6 a7 a8 a9 a10 r7 m8)
    · refine qr_iload o (q_dm dm_X12_court 70 rfl) rfl ?_
      refine qr_iload o (q_dm dm_X12_court 71 rfl) rfl ?_
      refine qr_icmp_ne (tgt := 131) o (q_dm dm_X12_court 72 rfl) (by decide) ?_ ?_
      · refine qr_iload o (q_dm dm_X12_court 75 rfl) rfl ?_
        exact qr_loc (q_leN (q_leS (q_leS (q_leS (q_leS (q_leS (q_leS (q_leS (q_leS (q_leS (q_leS (q_leN q_le0)))))))))))) (w_X12_court_133 n j r hj hr o K99 hK99 a1 a2 a3 a4 a5 a6 a7 a8 a9 a10 a4 m8)
      · refine qr_iload_n o (q_dm dm_X12_court 73 rfl) rfl ?_
        refine qr_goto (tgt := 133) o (q_dm dm_X12_court 74 rfl) (by decide) ?_
        exact qr_loc (q_leN (q_leS (q_leS (q_leS (q_leS (q_leS (q_leS (q_leS (q_leS (q_leS (q_leS (q_leN q_le0)))))))))))) (w_X12_court_133 n j r hj hr o K99 hK99 a1 a2 a3 a4 a5 a6 a7 a8 a9 a10 a3 m8)

def f_X12_court_99 (n : Nat) : Nat → Int32 → Int32 → Int32 → Int32 → Int32 → Int32 → Int32 → Int32 → Int32 → Int32 → qM → qR
  | 0, _, _, _, _, _, _, _, _, _, _, _ => none
  | m + 1, a1, a2, a3, a4, a5, a6, a7, a8, a9, a10, M => b_X12_court_99 n (f_X12_court_99 n m) a1 a2 a3 a4 a5 a6 a7 a8 a9 a10 M
theorem w_X12_court_99 {g : qG} {k : qK} (n : Nat) (j r : Nat) (hj : q_isLaw j) (hr : q_isLaw r) (o : qOk g 1 zX12_court k) : ∀ (m : Nat) (a1 a2 a3 a4 a5 a6 a7 a8 a9 a10 : Int32) (M : qM), qAE g k zX12_court (qL j r) 99 [none, some (.inl a1), some (.inl a2), some (.inl a3), some (.inl a4), some (.inl a5), some (.inl a6), some (.inl a7), some (.inl a8), some (.inl a9), some (.inl a10), none] [] (qL j r, M) (f_X12_court_99 n m a1 a2 a3 a4 a5 a6 a7 a8 a9 a10 M) := by
  intro m
  induction m with
  | zero =>
    intro a1 a2 a3 a4 a5 a6 a7 a8 a9 a10 M
    exact qr_none
  | succ m ih =>
    intro a1 a2 a3 a4 a5 a6 a7 a8 a9 a10 M
    exact wb_X12_court_99 n j r hj hr o (f_X12_court_99 n m) ih a1 a2 a3 a4 a5 a6 a7 a8 a9 a10 M
def f_X12_court_91 (n : Nat) (a1 a2 a3 a4 a5 a6 a7 s0 : Int32) (M : qM) : qR :=
  f_X12_court_99 n n a1 a2 a3 a4 a5 a6 a7 s0 (0 : Int32) (0 : Int32) M
set_option maxRecDepth 4000 in
theorem w_X12_court_91 {g : qG} {k : qK} (n : Nat) (j r : Nat) (hj : q_isLaw j) (hr : q_isLaw r) (o : qOk g 1 zX12_court k) (a1 a2 a3 a4 a5 a6 a7 s0 : Int32) (M : qM) : qAE g k zX12_court (qL j r) 91 [none, some (.inl a1), some (.inl a2), some (.inl a3), some (.inl a4), some (.inl a5), some (.inl a6), some (.inl a7), none, none, none, none] [.inl s0] (qL j r, M) (f_X12_court_91 n a1 a2 a3 a4 a5 a6 a7 s0 M) := by
  unfold f_X12_court_91
  refine qs_istore (L' := [none, some (.inl a1), some (.inl a2), some (.inl a3), some (.inl a4), some (.inl a5), some (.inl a6), some (.inl a7), some (.inl s0), none, none, none]) o (q_dm dm_X12_court 55 rfl) (Nat.le_of_ble_eq_true rfl) rfl ?_
  refine qr_iconst o (q_dm dm_X12_court 56 rfl) ic_0 ?_
  refine qs_istore (L' := [none, some (.inl a1), some (.inl a2), some (.inl a3), some (.inl a4), some (.inl a5), some (.inl a6), some (.inl a7), some (.inl s0), some (.inl (0 : Int32)), none, none]) o (q_dm dm_X12_court 57 rfl) (Nat.le_of_ble_eq_true rfl) rfl ?_
  refine qr_iconst o (q_dm dm_X12_court 58 rfl) ic_0 ?_
  refine qs_istore (L' := [none, some (.inl a1), some (.inl a2), some (.inl a3), some (.inl a4), some (.inl a5), some (.inl a6), some (.inl a7), some (.inl s0), some (.inl (0 : Int32)), some (.inl (0 : Int32)), none]) o (q_dm dm_X12_court 59 rfl) (Nat.le_of_ble_eq_true rfl) rfl ?_
  exact qr_loc (q_leN (q_leS (q_leS (q_leS (q_leS (q_leS (q_leS (q_leS (q_leS (q_leS (q_leS (q_leN q_le0)))))))))))) (w_X12_court_99 n j r hj hr o n a1 a2 a3 a4 a5 a6 a7 s0 (0 : Int32) (0 : Int32) M)

def f_X12_court (n : Nat) (a1 a2 a3 a4 a5 a6 : Int32) (M : qM) : qR :=
  qc (f_X12_in n a1 (1 : Int32) (9 : Int32) M) (fun r1 m2 => (if r1 = (0 : Int32) then some ((-1 : Int32), m2) else qc (f_X12_in n a2 (0 : Int32) (((1 : Int32) <<< (a1 &&& 31)) - (1 : Int32)) m2) (fun r3 m4 => (if r3 = (0 : Int32) then some ((-1 : Int32), m4) else qc (f_X12_in n a3 (0 : Int32) (((1 : Int32) <<< (a1 &&& 31)) - (1 : Int32)) m4) (fun r5 m6 => (if r5 = (0 : Int32) then some ((-1 : Int32), m6) else qc (f_X12_in n a4 (0 : Int32) (((1 : Int32) <<< (a1 &&& 31)) - (1 : Int32)) m6) (fun r7 m8 => (if r7 = (0 : Int32) then some ((-1 : Int32), m8) else qc (f_X12_in n a5 (0 : Int32) a1 m8) (fun r9 m10 => (if r9 = (0 : Int32) then some ((-1 : Int32), m10) else qc (f_X12_in n a6 (0 : Int32) (2 : Int32) m10) (fun r11 m12 => (if r11 = (0 : Int32) then some ((-1 : Int32), m12) else qc (f_X12_bits n a2 m12) (fun r13 m14 => (if ((2 : Int32) * r13) < a1 then f_X12_court_91 n a1 a2 a3 a4 a5 a6 r13 (0 : Int32) m14 else f_X12_court_91 n a1 a2 a3 a4 a5 a6 r13 (1 : Int32) m14))))))))))))))
set_option maxRecDepth 4000 in
theorem w_X12_court {g : qG} {k : qK} (n : Nat) (j r : Nat) (hj : q_isLaw j) (hr : q_isLaw r) (o : qOk g 1 zX12_court k) (a1 a2 a3 a4 a5 a6 : Int32) (M : qM) : qAE g k zX12_court (qL j r) 0 [some (.inr (some 77)), some (.inl a1), some (.inl a2), some (.inl a3), some (.inl a4), some (.inl a5), some (.inl a6), none, none, none, none, none] [] (qL j r, M) (f_X12_court n a1 a2 a3 a4 a5 a6 M) := by
  unfold f_X12_court
  refine qr_iload_n o (q_dm dm_X12_court 0 rfl) rfl ?_
  refine qr_iconst o (q_dm dm_X12_court 1 rfl) ic_1 ?_
  refine qr_bipush o (q_dm dm_X12_court 2 rfl) bi_9 ?_
  refine qr_calls_i (As := [.inl a1, .inl (1 : Int32), .inl (9 : Int32)]) (S := []) o (a_X12_in g k.2.1 n j r hj hr a1 (1 : Int32) (9 : Int32) M) (Nat.le_of_ble_eq_true rfl) zs_X12_in rfl ml_X12_153 (Nat.le_of_ble_eq_true rfl) (q_dm dm_X12_court 3 rfl) (fun r1 m2 => ?_)
  refine qr_if_eq (tgt := 70) o (q_dm dm_X12_court 4 rfl) (by decide) ?_ ?_
  · refine qr_iconst o (q_dm dm_X12_court 42 rfl) ic_m1 ?_
    exact qr_iret o rfl rfl (q_dm dm_X12_court 43 rfl)
  · refine qr_iload_n o (q_dm dm_X12_court 5 rfl) rfl ?_
    refine qr_iconst o (q_dm dm_X12_court 6 rfl) ic_0 ?_
    refine qr_iconst o (q_dm dm_X12_court 7 rfl) ic_1 ?_
    refine qr_iload_n o (q_dm dm_X12_court 8 rfl) rfl ?_
    refine qr_ishl o (q_dm dm_X12_court 9 rfl) ?_
    refine qr_iconst o (q_dm dm_X12_court 10 rfl) ic_1 ?_
    refine qr_isub o (q_dm dm_X12_court 11 rfl) ?_
    refine qr_calls_i (As := [.inl a2, .inl (0 : Int32), .inl (((1 : Int32) <<< (a1 &&& 31)) - (1 : Int32))]) (S := []) o (a_X12_in g k.2.1 n j r hj hr a2 (0 : Int32) (((1 : Int32) <<< (a1 &&& 31)) - (1 : Int32)) m2) (Nat.le_of_ble_eq_true rfl) zs_X12_in rfl ml_X12_153 (Nat.le_of_ble_eq_true rfl) (q_dm dm_X12_court 12 rfl) (fun r3 m4 => ?_)
    refine qr_if_eq (tgt := 70) o (q_dm dm_X12_court 13 rfl) (by decide) ?_ ?_
    · refine qr_iconst o (q_dm dm_X12_court 42 rfl) ic_m1 ?_
      exact qr_iret o rfl rfl (q_dm dm_X12_court 43 rfl)
    · refine qr_iload_n o (q_dm dm_X12_court 14 rfl) rfl ?_
      refine qr_iconst o (q_dm dm_X12_court 15 rfl) ic_0 ?_
      refine qr_iconst o (q_dm dm_X12_court 16 rfl) ic_1 ?_
      refine qr_iload_n o (q_dm dm_X12_court 17 rfl) rfl ?_
      refine qr_ishl o (q_dm dm_X12_court 18 rfl) ?_
      refine qr_iconst o (q_dm dm_X12_court 19 rfl) ic_1 ?_
      refine qr_isub o (q_dm dm_X12_court 20 rfl) ?_
      refine qr_calls_i (As := [.inl a3, .inl (0 : Int32), .inl (((1 : Int32) <<< (a1 &&& 31)) - (1 : Int32))]) (S := []) o (a_X12_in g k.2.1 n j r hj hr a3 (0 : Int32) (((1 : Int32) <<< (a1 &&& 31)) - (1 : Int32)) m4) (Nat.le_of_ble_eq_true rfl) zs_X12_in rfl ml_X12_153 (Nat.le_of_ble_eq_true rfl) (q_dm dm_X12_court 21 rfl) (fun r5 m6 => ?_)
      refine qr_if_eq (tgt := 70) o (q_dm dm_X12_court 22 rfl) (by decide) ?_ ?_
      · refine qr_iconst o (q_dm dm_X12_court 42 rfl) ic_m1 ?_
        exact qr_iret o rfl rfl (q_dm dm_X12_court 43 rfl)
      · refine qr_iload o (q_dm dm_X12_court 23 rfl) rfl ?_
        refine qr_iconst o (q_dm dm_X12_court 24 rfl) ic_0 ?_
        refine qr_iconst o (q_dm dm_X12_court 25 rfl) ic_1 ?_
        refine qr_iload_n o (q_dm dm_X12_court 26 rfl) rfl ?_
        refine qr_ishl o (q_dm dm_X12_court 27 rfl) ?_
        refine qr_iconst o (q_dm dm_X12_court 28 rfl) ic_1 ?_
        refine qr_isub o (q_dm dm_X12_court 29 rfl) ?_
        refine qr_calls_i (As := [.inl a4, .inl (0 : Int32), .inl (((1 : Int32) <<< (a1 &&& 31)) - (1 : Int32))]) (S := []) o (a_X12_in g k.2.1 n j r hj hr a4 (0 : Int32) (((1 : Int32) <<< (a1 &&& 31)) - (1 : Int32)) m6) (Nat.le_of_ble_eq_true rfl) zs_X12_in rfl ml_X12_153 (Nat.le_of_ble_eq_true rfl) (q_dm dm_X12_court 30 rfl) (fun r7 m8 => ?_)
        refine qr_if_eq (tgt := 70) o (q_dm dm_X12_court 31 rfl) (by decide) ?_ ?_
        · refine qr_iconst o (q_dm dm_X12_court 42 rfl) ic_m1 ?_
          exact qr_iret o rfl rfl (q_dm dm_X12_court 43 rfl)
        · refine qr_iload o (q_dm dm_X12_court 32 rfl) rfl ?_
          refine qr_iconst o (q_dm dm_X12_court 33 rfl) ic_0 ?_
          refine qr_iload_n o (q_dm dm_X12_court 34 rfl) rfl ?_
          refine qr_calls_i (As := [.inl a5, .inl (0 : Int32), .inl a1]) (S := []) o (a_X12_in g k.2.1 n j r hj hr a5 (0 : Int32) a1 m8) (Nat.le_of_ble_eq_true rfl) zs_X12_in rfl ml_X12_153 (Nat.le_of_ble_eq_true rfl) (q_dm dm_X12_court 35 rfl) (fun r9 m10 => ?_)
          refine qr_if_eq (tgt := 70) o (q_dm dm_X12_court 36 rfl) (by decide) ?_ ?_
          · refine qr_iconst o (q_dm dm_X12_court 42 rfl) ic_m1 ?_
            exact qr_iret o rfl rfl (q_dm dm_X12_court 43 rfl)
          · refine qr_iload o (q_dm dm_X12_court 37 rfl) rfl ?_
            refine qr_iconst o (q_dm dm_X12_court 38 rfl) ic_0 ?_
            refine qr_iconst o (q_dm dm_X12_court 39 rfl) ic_2 ?_
            refine qr_calls_i (As := [.inl a6, .inl (0 : Int32), .inl (2 : Int32)]) (S := []) o (a_X12_in g k.2.1 n j r hj hr a6 (0 : Int32) (2 : Int32) m10) (Nat.le_of_ble_eq_true rfl) zs_X12_in rfl ml_X12_153 (Nat.le_of_ble_eq_true rfl) (q_dm dm_X12_court 40 rfl) (fun r11 m12 => ?_)
            refine qr_if_ne (tgt := 72) o (q_dm dm_X12_court 41 rfl) (by decide) ?_ ?_
            · refine qr_iload_n o (q_dm dm_X12_court 44 rfl) rfl ?_
              refine qr_calls_i (As := [.inl a2]) (S := []) o (a_X12_bits g k.2.1 n j r hj hr a2 m12) (Nat.le_of_ble_eq_true rfl) zs_X12_bits rfl ml_X12_276 (Nat.le_of_ble_eq_true rfl) (q_dm dm_X12_court 45 rfl) (fun r13 m14 => ?_)
              refine qs_istore (L' := [some (.inr (some 77)), some (.inl a1), some (.inl a2), some (.inl a3), some (.inl a4), some (.inl a5), some (.inl a6), some (.inl r13), none, none, none, none]) o (q_dm dm_X12_court 46 rfl) (Nat.le_of_ble_eq_true rfl) rfl ?_
              refine qr_iconst o (q_dm dm_X12_court 47 rfl) ic_2 ?_
              refine qr_iload o (q_dm dm_X12_court 48 rfl) rfl ?_
              refine qr_imul o (q_dm dm_X12_court 49 rfl) ?_
              refine qr_iload_n o (q_dm dm_X12_court 50 rfl) rfl ?_
              refine qr_icmp_lt (tgt := 90) o (q_dm dm_X12_court 51 rfl) (by decide) ?_ ?_
              · refine qr_iconst o (q_dm dm_X12_court 54 rfl) ic_0 ?_
                exact qr_loc (q_leN (q_leS (q_leS (q_leS (q_leS (q_leS (q_leS (q_leS (q_leN (q_leN (q_leN (q_leN q_le0)))))))))))) (w_X12_court_91 n j r hj hr o a1 a2 a3 a4 a5 a6 r13 (0 : Int32) m14)
              · refine qr_iconst o (q_dm dm_X12_court 52 rfl) ic_1 ?_
                refine qr_goto (tgt := 91) o (q_dm dm_X12_court 53 rfl) (by decide) ?_
                exact qr_loc (q_leN (q_leS (q_leS (q_leS (q_leS (q_leS (q_leS (q_leS (q_leN (q_leN (q_leN (q_leN q_le0)))))))))))) (w_X12_court_91 n j r hj hr o a1 a2 a3 a4 a5 a6 r13 (1 : Int32) m14)
            · refine qr_iconst o (q_dm dm_X12_court 42 rfl) ic_m1 ?_
              exact qr_iret o rfl rfl (q_dm dm_X12_court 43 rfl)

theorem a_X12_court (g : qG) (l : Launch) (n : Nat) (j r : Nat) (hj : q_isLaw j) (hr : q_isLaw r) (a1 a2 a3 a4 a5 a6 : Int32) (M : qM) : qAM g l 1 zX12_court (qL j r) [.inr (some 77), .inl a1, .inl a2, .inl a3, .inl a4, .inl a5, .inl a6] (qL j r, M) (f_X12_court n a1 a2 a3 a4 a5 a6 M) :=
  qAM.of zv_X12_court.1 (by show 7 ≤ 12; decide) (fun k hk o => w_X12_court n j r hj hr o a1 a2 a3 a4 a5 a6 M)
def tb_X12_notesTry : List (Nat × Instr × Nat) := [(0, (.aload_n 0, 1)), (1, (.aload_n 0, 1)), (2, (.getfield 335, 3)), (5, (.iconst 1, 1)), (6, (.iadd, 1)), (7, (.putfield 335, 3)), (10, (.aload_n 0, 1)), (11, (.aload_n 0, 1)), (12, (.getfield 338, 3)), (15, (.aload_n 0, 1)), (16, (.getfield 19, 3)), (19, (.iload_n 2, 1)), (20, (.iaload, 1)), (21, (.iadd, 1)), (22, (.putfield 338, 3)), (25, (.aload_n 0, 1)), (26, (.aload_n 0, 1)), (27, (.getfield 341, 3)), (30, (.iload_n 3, 1)), (31, (.iconst 1, 1)), (32, (.if_icmp .ne 7, 3)), (35, (.iconst 1, 1)), (36, (.goto 4, 3)), (39, (.iconst 0, 1)), (40, (.iadd, 1)), (41, (.putfield 341, 3)), (44, (.iload_n 3, 1)), (45, (.bipush (-2), 2)), (47, (.if_icmp .ne 12, 3)), (50, (.aload_n 0, 1)), (51, (.getfield 344, 3)), (54, (.bipush (-2), 2)), (56, (.if_icmp .eq 4, 3)), (59, (.return_, 1)), (60, (.aload_n 0, 1)), (61, (.aload_n 0, 1)), (62, (.getfield 7, 3)), (65, (.sipush 313, 3)), (68, (.iaload, 1)), (69, (.putfield 344, 3)), (72, (.aload_n 0, 1)), (73, (.iload_n 1, 1)), (74, (.putfield 347, 3)), (77, (.aload_n 0, 1)), (78, (.iload_n 2, 1)), (79, (.putfield 350, 3)), (82, (.return_, 1))]
theorem dm_X12_notesTry : ∀ q ∈ tb_X12_notesTry, decode zX12_notesTry.2.1 q.1 = .ok q.2 := by decide +kernel
def f_X12_notesTry_40 (n : Nat) (a1 a2 a3 s1 s2 : Int32) (M : qM) : qR :=
  qlm (mu M 77 38 (s1 + s2)) (fun m1 => (if a3 = (-2 : Int32) then (if (m1 77 40) = (-2 : Int32) then qlm (mu m1 77 40 (m1 78 313)) (fun m2 => qlm (mu m2 77 41 a1) (fun m3 => qlm (mu m3 77 42 a2) (fun m4 => some (0, m4)))) else some (0, m1)) else some (0, m1)))
set_option maxRecDepth 4000 in
theorem w_X12_notesTry_40 {g : qG} {k : qK} (n : Nat) (j r : Nat) (hj : q_isLaw j) (hr : q_isLaw r) (o : qOk g 0 zX12_notesTry k) (a1 a2 a3 s1 s2 : Int32) (M : qM) : qAE g k zX12_notesTry (qL j r) 40 [some (.inr (some 77)), some (.inl a1), some (.inl a2), some (.inl a3)] [.inl s2, .inl s1, .inr (some 77)] (qL j r, M) (f_X12_notesTry_40 n a1 a2 a3 s1 s2 M) := by
  unfold f_X12_notesTry_40
  refine qr_iadd o (q_dm dm_X12_notesTry 24 rfl) ?_
  refine qr_putf (kf := 38) o cf_X12 (sh77 j r) rfl (Nat.le_of_ble_eq_true rfl) fl_X12_341 rfl (by decide +kernel) (q_dm dm_X12_notesTry 25 rfl) ?_
  refine qr_letm (fun m1 => ?_)
  refine qr_iload_n o (q_dm dm_X12_notesTry 26 rfl) rfl ?_
  refine qr_bipush o (q_dm dm_X12_notesTry 27 rfl) bi_m2 ?_
  refine qr_icmp_ne (tgt := 59) o (q_dm dm_X12_notesTry 28 rfl) (by decide) ?_ ?_
  · exact qr_vret o rfl (q_dm dm_X12_notesTry 33 rfl)
  · refine qr_aload_n o (q_dm dm_X12_notesTry 29 rfl) rfl ?_
    refine qr_getf (kf := 40) o cf_X12 (sh77 j r) rfl (Nat.le_of_ble_eq_true rfl) fl_X12_344 (q_dm dm_X12_notesTry 30 rfl) ?_
    refine qr_bipush o (q_dm dm_X12_notesTry 31 rfl) bi_m2 ?_
    refine qr_icmp_eq (tgt := 60) o (q_dm dm_X12_notesTry 32 rfl) (by decide) ?_ ?_
    · refine qr_aload_n o (q_dm dm_X12_notesTry 34 rfl) rfl ?_
      refine qr_aload_n o (q_dm dm_X12_notesTry 35 rfl) rfl ?_
      refine qr_getr (kf := 0) o cf_X12 (sh77 j r) rfl (Nat.le_of_ble_eq_true rfl) fl_X12_7 (q_dm dm_X12_notesTry 36 rfl) ?_
      refine qr_sipush o (q_dm dm_X12_notesTry 37 rfl) si_313 ?_
      refine qr_iald0 (c := 313) o (sh78 j r) (by decide) (by decide) (q_dm dm_X12_notesTry 38 rfl) ?_
      refine qr_putf (kf := 40) o cf_X12 (sh77 j r) rfl (Nat.le_of_ble_eq_true rfl) fl_X12_344 rfl (by decide +kernel) (q_dm dm_X12_notesTry 39 rfl) ?_
      refine qr_letm (fun m2 => ?_)
      refine qr_aload_n o (q_dm dm_X12_notesTry 40 rfl) rfl ?_
      refine qr_iload_n o (q_dm dm_X12_notesTry 41 rfl) rfl ?_
      refine qr_putf (kf := 41) o cf_X12 (sh77 j r) rfl (Nat.le_of_ble_eq_true rfl) fl_X12_347 rfl (by decide +kernel) (q_dm dm_X12_notesTry 42 rfl) ?_
      refine qr_letm (fun m3 => ?_)
      refine qr_aload_n o (q_dm dm_X12_notesTry 43 rfl) rfl ?_
      refine qr_iload_n o (q_dm dm_X12_notesTry 44 rfl) rfl ?_
      refine qr_putf (kf := 42) o cf_X12 (sh77 j r) rfl (Nat.le_of_ble_eq_true rfl) fl_X12_350 rfl (by decide +kernel) (q_dm dm_X12_notesTry 45 rfl) ?_
      refine qr_letm (fun m4 => ?_)
      exact qr_vret o rfl (q_dm dm_X12_notesTry 46 rfl)
    · exact qr_vret o rfl (q_dm dm_X12_notesTry 33 rfl)

def f_X12_notesTry (n : Nat) (a1 a2 a3 : Int32) (M : qM) : qR :=
  qlm (mu M 77 37 ((M 77 37) + (1 : Int32))) (fun m1 => qg a2 13 (qlm (mu m1 77 39 ((m1 77 39) + (m1 81 a2.toNatClampNeg))) (fun m2 => (if a3 = (1 : Int32) then f_X12_notesTry_40 n a1 a2 a3 (m2 77 38) (1 : Int32) m2 else f_X12_notesTry_40 n a1 a2 a3 (m2 77 38) (0 : Int32) m2))))
set_option maxRecDepth 4000 in
theorem w_X12_notesTry {g : qG} {k : qK} (n : Nat) (j r : Nat) (hj : q_isLaw j) (hr : q_isLaw r) (o : qOk g 0 zX12_notesTry k) (a1 a2 a3 : Int32) (M : qM) : qAE g k zX12_notesTry (qL j r) 0 [some (.inr (some 77)), some (.inl a1), some (.inl a2), some (.inl a3)] [] (qL j r, M) (f_X12_notesTry n a1 a2 a3 M) := by
  unfold f_X12_notesTry
  refine qr_aload_n o (q_dm dm_X12_notesTry 0 rfl) rfl ?_
  refine qr_aload_n o (q_dm dm_X12_notesTry 1 rfl) rfl ?_
  refine qr_getf (kf := 37) o cf_X12 (sh77 j r) rfl (Nat.le_of_ble_eq_true rfl) fl_X12_335 (q_dm dm_X12_notesTry 2 rfl) ?_
  refine qr_iconst o (q_dm dm_X12_notesTry 3 rfl) ic_1 ?_
  refine qr_iadd o (q_dm dm_X12_notesTry 4 rfl) ?_
  refine qr_putf (kf := 37) o cf_X12 (sh77 j r) rfl (Nat.le_of_ble_eq_true rfl) fl_X12_335 rfl (by decide +kernel) (q_dm dm_X12_notesTry 5 rfl) ?_
  refine qr_letm (fun m1 => ?_)
  refine qr_aload_n o (q_dm dm_X12_notesTry 6 rfl) rfl ?_
  refine qr_aload_n o (q_dm dm_X12_notesTry 7 rfl) rfl ?_
  refine qr_getf (kf := 39) o cf_X12 (sh77 j r) rfl (Nat.le_of_ble_eq_true rfl) fl_X12_338 (q_dm dm_X12_notesTry 8 rfl) ?_
  refine qr_aload_n o (q_dm dm_X12_notesTry 9 rfl) rfl ?_
  refine qr_getr (kf := 3) o cf_X12 (sh77 j r) rfl (Nat.le_of_ble_eq_true rfl) fl_X12_19 (q_dm dm_X12_notesTry 10 rfl) ?_
  refine qr_iload_n o (q_dm dm_X12_notesTry 11 rfl) rfl ?_
  refine qr_iald o (sh81 j r) (q_dm dm_X12_notesTry 12 rfl) ?_
  refine qr_iadd o (q_dm dm_X12_notesTry 13 rfl) ?_
  refine qr_putf (kf := 39) o cf_X12 (sh77 j r) rfl (Nat.le_of_ble_eq_true rfl) fl_X12_338 rfl (by decide +kernel) (q_dm dm_X12_notesTry 14 rfl) ?_
  refine qr_letm (fun m2 => ?_)
  refine qr_aload_n o (q_dm dm_X12_notesTry 15 rfl) rfl ?_
  refine qr_aload_n o (q_dm dm_X12_notesTry 16 rfl) rfl ?_
  refine qr_getf (kf := 38) o cf_X12 (sh77 j r) rfl (Nat.le_of_ble_eq_true rfl) fl_X12_341 (q_dm dm_X12_notesTry 17 rfl) ?_
  refine qr_iload_n o (q_dm dm_X12_notesTry 18 rfl) rfl ?_
  refine qr_iconst o (q_dm dm_X12_notesTry 19 rfl) ic_1 ?_
  refine qr_icmp_ne (tgt := 39) o (q_dm dm_X12_notesTry 20 rfl) (by decide) ?_ ?_
  · refine qr_iconst o (q_dm dm_X12_notesTry 23 rfl) ic_0 ?_
    exact qr_loc (q_leS (q_leS (q_leS (q_leS q_le0)))) (w_X12_notesTry_40 n j r hj hr o a1 a2 a3 (m2 77 38) (0 : Int32) m2)
  · refine qr_iconst o (q_dm dm_X12_notesTry 21 rfl) ic_1 ?_
    refine qr_goto (tgt := 40) o (q_dm dm_X12_notesTry 22 rfl) (by decide) ?_
    exact qr_loc (q_leS (q_leS (q_leS (q_leS q_le0)))) (w_X12_notesTry_40 n j r hj hr o a1 a2 a3 (m2 77 38) (1 : Int32) m2)

theorem a_X12_notesTry (g : qG) (l : Launch) (n : Nat) (j r : Nat) (hj : q_isLaw j) (hr : q_isLaw r) (a1 a2 a3 : Int32) (M : qM) : qAM g l 0 zX12_notesTry (qL j r) [.inr (some 77), .inl a1, .inl a2, .inl a3] (qL j r, M) (f_X12_notesTry n a1 a2 a3 M) :=
  qAM.of zv_X12_notesTry.1 (by show 4 ≤ 4; decide) (fun k hk o => w_X12_notesTry n j r hj hr o a1 a2 a3 M)
def tb_X12_forgets : List (Nat × Instr × Nat) := [(0, (.iconst 0, 1)), (1, (.istore_n 3, 1)), (2, (.iload_n 3, 1)), (3, (.bipush 12, 2)), (5, (.if_icmp .ge 122, 3)), (8, (.iload_n 1, 1)), (9, (.iload_n 3, 1)), (10, (.invokestatic 282, 3)), (13, (.istore 4, 2)), (15, (.aload_n 0, 1)), (16, (.iload_n 3, 1)), (17, (.invokevirtual 157, 3)), (20, (.ifCond .eq 101, 3)), (23, (.aload_n 0, 1)), (24, (.getfield 7, 3)), (27, (.iconst 0, 1)), (28, (.iload 4, 2)), (30, (.iadd, 1)), (31, (.iaload, 1)), (32, (.ifCond .eq 89, 3)), (35, (.aload_n 0, 1)), (36, (.iload_n 2, 1)), (37, (.iload_n 3, 1)), (38, (.invokevirtual 279, 3)), (41, (.ifCond .ne 6, 3)), (44, (.goto 77, 3)), (47, (.aload_n 0, 1)), (48, (.iload_n 1, 1)), (49, (.iload_n 3, 1)), (50, (.bipush 8, 2)), (52, (.invokevirtual 288, 3)), (55, (.aload_n 0, 1)), (56, (.bipush 102, 2)), (58, (.sipush 999, 3)), (61, (.iconst 0, 1)), (62, (.invokevirtual 292, 3)), (65, (.istore 5, 2)), (67, (.iload 5, 2)), (69, (.ifCond .eq 52, 3)), (72, (.aload_n 0, 1)), (73, (.getfield 7, 3)), (76, (.sipush 313, 3)), (79, (.iaload, 1)), (80, (.aload_n 0, 1)), (81, (.getfield 7, 3)), (84, (.bipush 96, 2)), (86, (.iload 4, 2)), (88, (.iadd, 1)), (89, (.iaload, 1)), (90, (.isub, 1)), (91, (.iload 5, 2)), (93, (.if_icmp .ge 6, 3)), (96, (.goto 25, 3)), (99, (.aload_n 0, 1)), (100, (.getfield 7, 3)), (103, (.iconst 0, 1)), (104, (.iload 4, 2)), (106, (.iadd, 1)), (107, (.iconst 0, 1)), (108, (.iastore, 1)), (109, (.aload_n 0, 1)), (110, (.getfield 7, 3)), (113, (.bipush 96, 2)), (115, (.iload 4, 2)), (117, (.iadd, 1)), (118, (.bipush (-2), 2)), (120, (.iastore, 1)), (121, (.iinc 3 1, 3)), (124, (.goto (-122), 3)), (127, (.return_, 1))]
theorem dm_X12_forgets : ∀ q ∈ tb_X12_forgets, decode zX12_forgets.2.1 q.1 = .ok q.2 := by decide +kernel
def b_X12_forgets_2 (n : Nat) (K2 : Int32 → Int32 → Int32 → qM → qR) (a1 a2 a3 : Int32) (M : qM) : qR :=
  (if (12 : Int32) ≤ a3 then some (0, M) else qc (f_X12_at n a1 a3 M) (fun r1 m2 => qc (f_X12_isKind n a3 m2) (fun r3 m4 => (if r3 = (0 : Int32) then ql (a3 + (1 : Int32)) (fun x5 => K2 a1 a2 x5 m4) else qg ((0 : Int32) + r1) 954 ((if (m4 78 ((0 : Int32) + r1).toNatClampNeg) = (0 : Int32) then ql (a3 + (1 : Int32)) (fun x6 => K2 a1 a2 x6 m4) else qc (f_X12_isLike n a2 a3 m4) (fun r7 m8 => (if r7 = (0 : Int32) then ql (a3 + (1 : Int32)) (fun x17 => K2 a1 a2 x17 m8) else qc (f_X12_feels n a1 a3 (8 : Int32) m8) (fun _ m9 => qc (f_X12_byLaw n (102 : Int32) (999 : Int32) (0 : Int32) m9) (fun r10 m11 => (if r10 = (0 : Int32) then ql (a3 + (1 : Int32)) (fun x12 => K2 a1 a2 x12 m11) else qg ((96 : Int32) + r1) 954 ((if r10 ≤ ((m11 78 313) - (m11 78 ((96 : Int32) + r1).toNatClampNeg)) then qg ((0 : Int32) + r1) 954 (qlm (mu m11 78 ((0 : Int32) + r1).toNatClampNeg (0 : Int32)) (fun m13 => qg ((96 : Int32) + r1) 954 (qlm (mu m13 78 ((96 : Int32) + r1).toNatClampNeg (-2 : Int32)) (fun m14 => ql (a3 + (1 : Int32)) (fun x15 => K2 a1 a2 x15 m14))))) else ql (a3 + (1 : Int32)) (fun x16 => K2 a1 a2 x16 m11))))))))))))))
set_option maxRecDepth 4000 in
theorem wb_X12_forgets_2 {g : qG} {k : qK} (n : Nat) (j r : Nat) (hj : q_isLaw j) (hr : q_isLaw r) (o : qOk g 3 zX12_forgets k) (K2 : Int32 → Int32 → Int32 → qM → qR) (hK2 : ∀ (a1 a2 a3 : Int32) (M : qM), qAE g k zX12_forgets (qL j r) 2 [some (.inr (some 77)), some (.inl a1), some (.inl a2), some (.inl a3), none, none] [] (qL j r, M) (K2 a1 a2 a3 M)) (a1 a2 a3 : Int32) (M : qM) : qAE g k zX12_forgets (qL j r) 2 [some (.inr (some 77)), some (.inl a1), some (.inl a2), some (.inl a3), none, none] [] (qL j r, M) (b_X12_forgets_2 n K2 a1 a2 a3 M) := by
  unfold b_X12_forgets_2
  refine qr_iload_n o (q_dm dm_X12_forgets 2 rfl) rfl ?_
  refine qr_bipush o (q_dm dm_X12_forgets 3 rfl) bi_12 ?_
  refine qr_icmp_ge (tgt := 127) o (q_dm dm_X12_forgets 4 rfl) (by decide) ?_ ?_
  · exact qr_vret o rfl (q_dm dm_X12_forgets 69 rfl)
  · refine qr_iload_n o (q_dm dm_X12_forgets 5 rfl) rfl ?_
    refine qr_iload_n o (q_dm dm_X12_forgets 6 rfl) rfl ?_
    refine qr_calls_i (As := [.inl a1, .inl a3]) (S := []) o (a_X12_at g k.2.1 n j r hj hr a1 a3 M) (Nat.le_of_ble_eq_true rfl) zs_X12_at rfl ml_X12_282 (Nat.le_of_ble_eq_true rfl) (q_dm dm_X12_forgets 7 rfl) (fun r1 m2 => ?_)
    refine qs_istore (L' := [some (.inr (some 77)), some (.inl a1), some (.inl a2), some (.inl a3), some (.inl r1), none]) o (q_dm dm_X12_forgets 8 rfl) (Nat.le_of_ble_eq_true rfl) rfl ?_
    refine qr_aload_n o (q_dm dm_X12_forgets 9 rfl) rfl ?_
    refine qr_iload_n o (q_dm dm_X12_forgets 10 rfl) rfl ?_
    refine qr_callv_i (As := [.inl a3]) (S := []) o (a_X12_isKind g k.2.1 n j r hj hr a3 m2) (Nat.le_of_ble_eq_true rfl) zv_X12_isKind rfl cf_X12 (sh77 j r) ml_X12_157 (Nat.le_of_ble_eq_true rfl) (q_dm dm_X12_forgets 11 rfl) (fun r3 m4 => ?_)
    refine qr_if_eq (tgt := 121) o (q_dm dm_X12_forgets 12 rfl) (by decide) ?_ ?_
    · refine qs_iincl2 (L' := fun x5 => [some (.inr (some 77)), some (.inl a1), some (.inl a2), some (.inl x5), some (.inl r1), none]) o (q_dm dm_X12_forgets 67 rfl) rfl ic_1 (Nat.le_of_ble_eq_true rfl) (fun _ => rfl) (fun x5 => ?_)
      refine qr_goto (tgt := 2) o (q_dm dm_X12_forgets 68 rfl) (by decide) ?_
      exact qr_loc (q_leS (q_leS (q_leS (q_leS (q_leN (q_leN q_le0)))))) (hK2 a1 a2 x5 m4)
    · refine qr_aload_n o (q_dm dm_X12_forgets 13 rfl) rfl ?_
      refine qr_getr (kf := 0) o cf_X12 (sh77 j r) rfl (Nat.le_of_ble_eq_true rfl) fl_X12_7 (q_dm dm_X12_forgets 14 rfl) ?_
      refine qr_iconst o (q_dm dm_X12_forgets 15 rfl) ic_0 ?_
      refine qr_iload o (q_dm dm_X12_forgets 16 rfl) rfl ?_
      refine qr_iadd o (q_dm dm_X12_forgets 17 rfl) ?_
      refine qr_iald o (sh78 j r) (q_dm dm_X12_forgets 18 rfl) ?_
      refine qr_if_eq (tgt := 121) o (q_dm dm_X12_forgets 19 rfl) (by decide) ?_ ?_
      · refine qs_iincl2 (L' := fun x6 => [some (.inr (some 77)), some (.inl a1), some (.inl a2), some (.inl x6), some (.inl r1), none]) o (q_dm dm_X12_forgets 67 rfl) rfl ic_1 (Nat.le_of_ble_eq_true rfl) (fun _ => rfl) (fun x6 => ?_)
        refine qr_goto (tgt := 2) o (q_dm dm_X12_forgets 68 rfl) (by decide) ?_
        exact qr_loc (q_leS (q_leS (q_leS (q_leS (q_leN (q_leN q_le0)))))) (hK2 a1 a2 x6 m4)
      · refine qr_aload_n o (q_dm dm_X12_forgets 20 rfl) rfl ?_
        refine qr_iload_n o (q_dm dm_X12_forgets 21 rfl) rfl ?_
        refine qr_iload_n o (q_dm dm_X12_forgets 22 rfl) rfl ?_
        refine qr_callv_i (As := [.inl a2, .inl a3]) (S := []) o (a_X12_isLike g k.2.1 n j r hj hr a2 a3 m4) (Nat.le_of_ble_eq_true rfl) zv_X12_isLike rfl cf_X12 (sh77 j r) ml_X12_279 (Nat.le_of_ble_eq_true rfl) (q_dm dm_X12_forgets 23 rfl) (fun r7 m8 => ?_)
        refine qr_if_ne (tgt := 47) o (q_dm dm_X12_forgets 24 rfl) (by decide) ?_ ?_
        · refine qr_aload_n o (q_dm dm_X12_forgets 26 rfl) rfl ?_
          refine qr_iload_n o (q_dm dm_X12_forgets 27 rfl) rfl ?_
          refine qr_iload_n o (q_dm dm_X12_forgets 28 rfl) rfl ?_
          refine qr_bipush o (q_dm dm_X12_forgets 29 rfl) bi_8 ?_
          refine qr_callv_v (As := [.inl a1, .inl a3, .inl (8 : Int32)]) (S := []) o (a_X12_feels g k.2.1 n j r hj hr a1 a3 (8 : Int32) m8) (Nat.le_of_ble_eq_true rfl) zv_X12_feels rfl cf_X12 (sh77 j r) ml_X12_288 (Nat.le_of_ble_eq_true rfl) (q_dm dm_X12_forgets 30 rfl) (fun _ m9 => ?_)
          refine qr_aload_n o (q_dm dm_X12_forgets 31 rfl) rfl ?_
          refine qr_bipush o (q_dm dm_X12_forgets 32 rfl) bi_102 ?_
          refine qr_sipush o (q_dm dm_X12_forgets 33 rfl) si_999 ?_
          refine qr_iconst o (q_dm dm_X12_forgets 34 rfl) ic_0 ?_
          refine qr_callv_i (As := [.inl (102 : Int32), .inl (999 : Int32), .inl (0 : Int32)]) (S := []) o (a_X12_byLaw g k.2.1 n j r hj hr (102 : Int32) (999 : Int32) (0 : Int32) m9) (Nat.le_of_ble_eq_true rfl) zv_X12_byLaw rfl cf_X12 (sh77 j r) ml_X12_292 (Nat.le_of_ble_eq_true rfl) (q_dm dm_X12_forgets 35 rfl) (fun r10 m11 => ?_)
          refine qs_istore (L' := [some (.inr (some 77)), some (.inl a1), some (.inl a2), some (.inl a3), some (.inl r1), some (.inl r10)]) o (q_dm dm_X12_forgets 36 rfl) (Nat.le_of_ble_eq_true rfl) rfl ?_
          refine qr_iload o (q_dm dm_X12_forgets 37 rfl) rfl ?_
          refine qr_if_eq (tgt := 121) o (q_dm dm_X12_forgets 38 rfl) (by decide) ?_ ?_
          · refine qs_iincl2 (L' := fun x12 => [some (.inr (some 77)), some (.inl a1), some (.inl a2), some (.inl x12), some (.inl r1), some (.inl r10)]) o (q_dm dm_X12_forgets 67 rfl) rfl ic_1 (Nat.le_of_ble_eq_true rfl) (fun _ => rfl) (fun x12 => ?_)
            refine qr_goto (tgt := 2) o (q_dm dm_X12_forgets 68 rfl) (by decide) ?_
            exact qr_loc (q_leS (q_leS (q_leS (q_leS (q_leN (q_leN q_le0)))))) (hK2 a1 a2 x12 m11)
          · refine qr_aload_n o (q_dm dm_X12_forgets 39 rfl) rfl ?_
            refine qr_getr (kf := 0) o cf_X12 (sh77 j r) rfl (Nat.le_of_ble_eq_true rfl) fl_X12_7 (q_dm dm_X12_forgets 40 rfl) ?_
            refine qr_sipush o (q_dm dm_X12_forgets 41 rfl) si_313 ?_
            refine qr_iald0 (c := 313) o (sh78 j r) (by decide) (by decide) (q_dm dm_X12_forgets 42 rfl) ?_
            refine qr_aload_n o (q_dm dm_X12_forgets 43 rfl) rfl ?_
            refine qr_getr (kf := 0) o cf_X12 (sh77 j r) rfl (Nat.le_of_ble_eq_true rfl) fl_X12_7 (q_dm dm_X12_forgets 44 rfl) ?_
            refine qr_bipush o (q_dm dm_X12_forgets 45 rfl) bi_96 ?_
            refine qr_iload o (q_dm dm_X12_forgets 46 rfl) rfl ?_
            refine qr_iadd o (q_dm dm_X12_forgets 47 rfl) ?_
            refine qr_iald o (sh78 j r) (q_dm dm_X12_forgets 48 rfl) ?_
            refine qr_isub o (q_dm dm_X12_forgets 49 rfl) ?_
            refine qr_iload o (q_dm dm_X12_forgets 50 rfl) rfl ?_
            refine qr_icmp_ge (tgt := 99) o (q_dm dm_X12_forgets 51 rfl) (by decide) ?_ ?_
            · refine qr_aload_n o (q_dm dm_X12_forgets 53 rfl) rfl ?_
              refine qr_getr (kf := 0) o cf_X12 (sh77 j r) rfl (Nat.le_of_ble_eq_true rfl) fl_X12_7 (q_dm dm_X12_forgets 54 rfl) ?_
              refine qr_iconst o (q_dm dm_X12_forgets 55 rfl) ic_0 ?_
              refine qr_iload o (q_dm dm_X12_forgets 56 rfl) rfl ?_
              refine qr_iadd o (q_dm dm_X12_forgets 57 rfl) ?_
              refine qr_iconst o (q_dm dm_X12_forgets 58 rfl) ic_0 ?_
              refine qr_iast o (sh78 j r) (q_dm dm_X12_forgets 59 rfl) ?_
              refine qr_letm (fun m13 => ?_)
              refine qr_aload_n o (q_dm dm_X12_forgets 60 rfl) rfl ?_
              refine qr_getr (kf := 0) o cf_X12 (sh77 j r) rfl (Nat.le_of_ble_eq_true rfl) fl_X12_7 (q_dm dm_X12_forgets 61 rfl) ?_
              refine qr_bipush o (q_dm dm_X12_forgets 62 rfl) bi_96 ?_
              refine qr_iload o (q_dm dm_X12_forgets 63 rfl) rfl ?_
              refine qr_iadd o (q_dm dm_X12_forgets 64 rfl) ?_
              refine qr_bipush o (q_dm dm_X12_forgets 65 rfl) bi_m2 ?_
              refine qr_iast o (sh78 j r) (q_dm dm_X12_forgets 66 rfl) ?_
              refine qr_letm (fun m14 => ?_)
              refine qs_iincl2 (L' := fun x15 => [some (.inr (some 77)), some (.inl a1), some (.inl a2), some (.inl x15), some (.inl r1), some (.inl r10)]) o (q_dm dm_X12_forgets 67 rfl) rfl ic_1 (Nat.le_of_ble_eq_true rfl) (fun _ => rfl) (fun x15 => ?_)
              refine qr_goto (tgt := 2) o (q_dm dm_X12_forgets 68 rfl) (by decide) ?_
              exact qr_loc (q_leS (q_leS (q_leS (q_leS (q_leN (q_leN q_le0)))))) (hK2 a1 a2 x15 m14)
            · refine qr_goto (tgt := 121) o (q_dm dm_X12_forgets 52 rfl) (by decide) ?_
              refine qs_iincl2 (L' := fun x16 => [some (.inr (some 77)), some (.inl a1), some (.inl a2), some (.inl x16), some (.inl r1), some (.inl r10)]) o (q_dm dm_X12_forgets 67 rfl) rfl ic_1 (Nat.le_of_ble_eq_true rfl) (fun _ => rfl) (fun x16 => ?_)
              refine qr_goto (tgt := 2) o (q_dm dm_X12_forgets 68 rfl) (by decide) ?_
              exact qr_loc (q_leS (q_leS (q_leS (q_leS (q_leN (q_leN q_le0)))))) (hK2 a1 a2 x16 m11)
        · refine qr_goto (tgt := 121) o (q_dm dm_X12_forgets 25 rfl) (by decide) ?_
          refine qs_iincl2 (L' := fun x17 => [some (.inr (some 77)), some (.inl a1), some (.inl a2), some (.inl x17), some (.inl r1), none]) o (q_dm dm_X12_forgets 67 rfl) rfl ic_1 (Nat.le_of_ble_eq_true rfl) (fun _ => rfl) (fun x17 => ?_)
          refine qr_goto (tgt := 2) o (q_dm dm_X12_forgets 68 rfl) (by decide) ?_
          exact qr_loc (q_leS (q_leS (q_leS (q_leS (q_leN (q_leN q_le0)))))) (hK2 a1 a2 x17 m8)

def f_X12_forgets_2 (n : Nat) : Nat → Int32 → Int32 → Int32 → qM → qR
  | 0, _, _, _, _ => none
  | m + 1, a1, a2, a3, M => b_X12_forgets_2 n (f_X12_forgets_2 n m) a1 a2 a3 M
theorem w_X12_forgets_2 {g : qG} {k : qK} (n : Nat) (j r : Nat) (hj : q_isLaw j) (hr : q_isLaw r) (o : qOk g 3 zX12_forgets k) : ∀ (m : Nat) (a1 a2 a3 : Int32) (M : qM), qAE g k zX12_forgets (qL j r) 2 [some (.inr (some 77)), some (.inl a1), some (.inl a2), some (.inl a3), none, none] [] (qL j r, M) (f_X12_forgets_2 n m a1 a2 a3 M) := by
  intro m
  induction m with
  | zero =>
    intro a1 a2 a3 M
    exact qr_none
  | succ m ih =>
    intro a1 a2 a3 M
    exact wb_X12_forgets_2 n j r hj hr o (f_X12_forgets_2 n m) ih a1 a2 a3 M
def f_X12_forgets (n : Nat) (a1 a2 : Int32) (M : qM) : qR :=
  f_X12_forgets_2 n n a1 a2 (0 : Int32) M
set_option maxRecDepth 4000 in
theorem w_X12_forgets {g : qG} {k : qK} (n : Nat) (j r : Nat) (hj : q_isLaw j) (hr : q_isLaw r) (o : qOk g 3 zX12_forgets k) (a1 a2 : Int32) (M : qM) : qAE g k zX12_forgets (qL j r) 0 [some (.inr (some 77)), some (.inl a1), some (.inl a2), none, none, none] [] (qL j r, M) (f_X12_forgets n a1 a2 M) := by
  unfold f_X12_forgets
  refine qr_iconst o (q_dm dm_X12_forgets 0 rfl) ic_0 ?_
  refine qs_istore_n (L' := [some (.inr (some 77)), some (.inl a1), some (.inl a2), some (.inl (0 : Int32)), none, none]) o (q_dm dm_X12_forgets 1 rfl) (Nat.le_of_ble_eq_true rfl) rfl ?_
  exact qr_loc (q_leS (q_leS (q_leS (q_leS (q_leN (q_leN q_le0)))))) (w_X12_forgets_2 n j r hj hr o n a1 a2 (0 : Int32) M)

theorem a_X12_forgets (g : qG) (l : Launch) (n : Nat) (j r : Nat) (hj : q_isLaw j) (hr : q_isLaw r) (a1 a2 : Int32) (M : qM) : qAM g l 3 zX12_forgets (qL j r) [.inr (some 77), .inl a1, .inl a2] (qL j r, M) (f_X12_forgets n a1 a2 M) :=
  qAM.of zv_X12_forgets.1 (by show 3 ≤ 6; decide) (fun k hk o => w_X12_forgets n j r hj hr o a1 a2 M)
def tb_X12_hasNeeds : List (Nat × Instr × Nat) := [(0, (.iconst 0, 1)), (1, (.istore_n 3, 1)), (2, (.iload_n 3, 1)), (3, (.bipush 12, 2)), (5, (.if_icmp .ge 41, 3)), (8, (.aload_n 0, 1)), (9, (.getfield 25, 3)), (12, (.iload_n 2, 1)), (13, (.iaload, 1)), (14, (.iload_n 3, 1)), (15, (.invokestatic 149, 3)), (18, (.ifCond .eq 22, 3)), (21, (.aload_n 0, 1)), (22, (.getfield 7, 3)), (25, (.sipush 192, 3)), (28, (.iload_n 1, 1)), (29, (.iload_n 3, 1)), (30, (.invokestatic 282, 3)), (33, (.iadd, 1)), (34, (.iaload, 1)), (35, (.ifCond .ne 5, 3)), (38, (.iconst 0, 1)), (39, (.ireturn, 1)), (40, (.iinc 3 1, 3)), (43, (.goto (-41), 3)), (46, (.iconst 1, 1)), (47, (.ireturn, 1))]
theorem dm_X12_hasNeeds : ∀ q ∈ tb_X12_hasNeeds, decode zX12_hasNeeds.2.1 q.1 = .ok q.2 := by decide +kernel
def b_X12_hasNeeds_2 (n : Nat) (K2 : Int32 → Int32 → Int32 → qM → qR) (a1 a2 a3 : Int32) (M : qM) : qR :=
  (if (12 : Int32) ≤ a3 then some ((1 : Int32), M) else qg a2 13 (qc (f_X12_has0 n (M 83 a2.toNatClampNeg) a3 M) (fun r1 m2 => (if r1 = (0 : Int32) then ql (a3 + (1 : Int32)) (fun x3 => K2 a1 a2 x3 m2) else qc (f_X12_at n a1 a3 m2) (fun r4 m5 => qg ((192 : Int32) + r4) 954 ((if (m5 78 ((192 : Int32) + r4).toNatClampNeg) = (0 : Int32) then some ((0 : Int32), m5) else ql (a3 + (1 : Int32)) (fun x6 => K2 a1 a2 x6 m5))))))))
set_option maxRecDepth 4000 in
theorem wb_X12_hasNeeds_2 {g : qG} {k : qK} (n : Nat) (j r : Nat) (hj : q_isLaw j) (hr : q_isLaw r) (o : qOk g 1 zX12_hasNeeds k) (K2 : Int32 → Int32 → Int32 → qM → qR) (hK2 : ∀ (a1 a2 a3 : Int32) (M : qM), qAE g k zX12_hasNeeds (qL j r) 2 [some (.inr (some 77)), some (.inl a1), some (.inl a2), some (.inl a3)] [] (qL j r, M) (K2 a1 a2 a3 M)) (a1 a2 a3 : Int32) (M : qM) : qAE g k zX12_hasNeeds (qL j r) 2 [some (.inr (some 77)), some (.inl a1), some (.inl a2), some (.inl a3)] [] (qL j r, M) (b_X12_hasNeeds_2 n K2 a1 a2 a3 M) := by
  unfold b_X12_hasNeeds_2
  refine qr_iload_n o (q_dm dm_X12_hasNeeds 2 rfl) rfl ?_
  refine qr_bipush o (q_dm dm_X12_hasNeeds 3 rfl) bi_12 ?_
  refine qr_icmp_ge (tgt := 46) o (q_dm dm_X12_hasNeeds 4 rfl) (by decide) ?_ ?_
  · refine qr_iconst o (q_dm dm_X12_hasNeeds 25 rfl) ic_1 ?_
    exact qr_iret o rfl (by decide) (q_dm dm_X12_hasNeeds 26 rfl)
  · refine qr_aload_n o (q_dm dm_X12_hasNeeds 5 rfl) rfl ?_
    refine qr_getr (kf := 5) o cf_X12 (sh77 j r) rfl (Nat.le_of_ble_eq_true rfl) fl_X12_25 (q_dm dm_X12_hasNeeds 6 rfl) ?_
    refine qr_iload_n o (q_dm dm_X12_hasNeeds 7 rfl) rfl ?_
    refine qr_iald o (sh83 j r) (q_dm dm_X12_hasNeeds 8 rfl) ?_
    refine qr_iload_n o (q_dm dm_X12_hasNeeds 9 rfl) rfl ?_
    refine qr_calls_i (As := [.inl (M 83 a2.toNatClampNeg), .inl a3]) (S := []) o (a_X12_has0 g k.2.1 n j r hj hr (M 83 a2.toNatClampNeg) a3 M) (Nat.le_of_ble_eq_true rfl) zs_X12_has0 rfl ml_X12_149 (Nat.le_of_ble_eq_true rfl) (q_dm dm_X12_hasNeeds 10 rfl) (fun r1 m2 => ?_)
    refine qr_if_eq (tgt := 40) o (q_dm dm_X12_hasNeeds 11 rfl) (by decide) ?_ ?_
    · refine qs_iincl2 (L' := fun x3 => [some (.inr (some 77)), some (.inl a1), some (.inl a2), some (.inl x3)]) o (q_dm dm_X12_hasNeeds 23 rfl) rfl ic_1 (Nat.le_of_ble_eq_true rfl) (fun _ => rfl) (fun x3 => ?_)
      refine qr_goto (tgt := 2) o (q_dm dm_X12_hasNeeds 24 rfl) (by decide) ?_
      exact qr_loc (q_leS (q_leS (q_leS (q_leS q_le0)))) (hK2 a1 a2 x3 m2)
    · refine qr_aload_n o (q_dm dm_X12_hasNeeds 12 rfl) rfl ?_
      refine qr_getr (kf := 0) o cf_X12 (sh77 j r) rfl (Nat.le_of_ble_eq_true rfl) fl_X12_7 (q_dm dm_X12_hasNeeds 13 rfl) ?_
      refine qr_sipush o (q_dm dm_X12_hasNeeds 14 rfl) si_192 ?_
      refine qr_iload_n o (q_dm dm_X12_hasNeeds 15 rfl) rfl ?_
      refine qr_iload_n o (q_dm dm_X12_hasNeeds 16 rfl) rfl ?_
      refine qr_calls_i (As := [.inl a1, .inl a3]) (S := [.inl (192 : Int32), .inr (some 78)]) o (a_X12_at g k.2.1 n j r hj hr a1 a3 m2) (Nat.le_of_ble_eq_true rfl) zs_X12_at rfl ml_X12_282 (Nat.le_of_ble_eq_true rfl) (q_dm dm_X12_hasNeeds 17 rfl) (fun r4 m5 => ?_)
      refine qr_iadd o (q_dm dm_X12_hasNeeds 18 rfl) ?_
      refine qr_iald o (sh78 j r) (q_dm dm_X12_hasNeeds 19 rfl) ?_
      refine qr_if_ne (tgt := 40) o (q_dm dm_X12_hasNeeds 20 rfl) (by decide) ?_ ?_
      · refine qs_iincl2 (L' := fun x6 => [some (.inr (some 77)), some (.inl a1), some (.inl a2), some (.inl x6)]) o (q_dm dm_X12_hasNeeds 23 rfl) rfl ic_1 (Nat.le_of_ble_eq_true rfl) (fun _ => rfl) (fun x6 => ?_)
        refine qr_goto (tgt := 2) o (q_dm dm_X12_hasNeeds 24 rfl) (by decide) ?_
        exact qr_loc (q_leS (q_leS (q_leS (q_leS q_le0)))) (hK2 a1 a2 x6 m5)
      · refine qr_iconst o (q_dm dm_X12_hasNeeds 21 rfl) ic_0 ?_
        exact qr_iret o rfl (by decide) (q_dm dm_X12_hasNeeds 22 rfl)

def f_X12_hasNeeds_2 (n : Nat) : Nat → Int32 → Int32 → Int32 → qM → qR
  | 0, _, _, _, _ => none
  | m + 1, a1, a2, a3, M => b_X12_hasNeeds_2 n (f_X12_hasNeeds_2 n m) a1 a2 a3 M
theorem w_X12_hasNeeds_2 {g : qG} {k : qK} (n : Nat) (j r : Nat) (hj : q_isLaw j) (hr : q_isLaw r) (o : qOk g 1 zX12_hasNeeds k) : ∀ (m : Nat) (a1 a2 a3 : Int32) (M : qM), qAE g k zX12_hasNeeds (qL j r) 2 [some (.inr (some 77)), some (.inl a1), some (.inl a2), some (.inl a3)] [] (qL j r, M) (f_X12_hasNeeds_2 n m a1 a2 a3 M) := by
  intro m
  induction m with
  | zero =>
    intro a1 a2 a3 M
    exact qr_none
  | succ m ih =>
    intro a1 a2 a3 M
    exact wb_X12_hasNeeds_2 n j r hj hr o (f_X12_hasNeeds_2 n m) ih a1 a2 a3 M
def f_X12_hasNeeds (n : Nat) (a1 a2 : Int32) (M : qM) : qR :=
  f_X12_hasNeeds_2 n n a1 a2 (0 : Int32) M
set_option maxRecDepth 4000 in
theorem w_X12_hasNeeds {g : qG} {k : qK} (n : Nat) (j r : Nat) (hj : q_isLaw j) (hr : q_isLaw r) (o : qOk g 1 zX12_hasNeeds k) (a1 a2 : Int32) (M : qM) : qAE g k zX12_hasNeeds (qL j r) 0 [some (.inr (some 77)), some (.inl a1), some (.inl a2), none] [] (qL j r, M) (f_X12_hasNeeds n a1 a2 M) := by
  unfold f_X12_hasNeeds
  refine qr_iconst o (q_dm dm_X12_hasNeeds 0 rfl) ic_0 ?_
  refine qs_istore_n (L' := [some (.inr (some 77)), some (.inl a1), some (.inl a2), some (.inl (0 : Int32))]) o (q_dm dm_X12_hasNeeds 1 rfl) (Nat.le_of_ble_eq_true rfl) rfl ?_
  exact qr_loc (q_leS (q_leS (q_leS (q_leS q_le0)))) (w_X12_hasNeeds_2 n j r hj hr o n a1 a2 (0 : Int32) M)

theorem a_X12_hasNeeds (g : qG) (l : Launch) (n : Nat) (j r : Nat) (hj : q_isLaw j) (hr : q_isLaw r) (a1 a2 : Int32) (M : qM) : qAM g l 1 zX12_hasNeeds (qL j r) [.inr (some 77), .inl a1, .inl a2] (qL j r, M) (f_X12_hasNeeds n a1 a2 M) :=
  qAM.of zv_X12_hasNeeds.1 (by show 3 ≤ 4; decide) (fun k hk o => w_X12_hasNeeds n j r hj hr o a1 a2 M)
def tb_X12_voidFor : List (Nat × Instr × Nat) := [(0, (.aload_n 0, 1)), (1, (.iload_n 1, 1)), (2, (.iload_n 2, 1)), (3, (.iload_n 3, 1)), (4, (.invokevirtual 288, 3)), (7, (.aload_n 0, 1)), (8, (.bipush 118, 2)), (10, (.bipush 99, 2)), (12, (.iconst 1, 1)), (13, (.invokevirtual 292, 3)), (16, (.ireturn, 1))]
theorem dm_X12_voidFor : ∀ q ∈ tb_X12_voidFor, decode zX12_voidFor.2.1 q.1 = .ok q.2 := by decide +kernel
def f_X12_voidFor (n : Nat) (a1 a2 a3 : Int32) (M : qM) : qR :=
  qc (f_X12_feels n a1 a2 a3 M) (fun _ m1 => qc (f_X12_byLaw n (118 : Int32) (99 : Int32) (1 : Int32) m1) (fun r2 m3 => some (r2, m3)))
set_option maxRecDepth 4000 in
theorem w_X12_voidFor {g : qG} {k : qK} (n : Nat) (j r : Nat) (hj : q_isLaw j) (hr : q_isLaw r) (o : qOk g 3 zX12_voidFor k) (a1 a2 a3 : Int32) (M : qM) : qAE g k zX12_voidFor (qL j r) 0 [some (.inr (some 77)), some (.inl a1), some (.inl a2), some (.inl a3)] [] (qL j r, M) (f_X12_voidFor n a1 a2 a3 M) := by
  unfold f_X12_voidFor
  refine qr_aload_n o (q_dm dm_X12_voidFor 0 rfl) rfl ?_
  refine qr_iload_n o (q_dm dm_X12_voidFor 1 rfl) rfl ?_
  refine qr_iload_n o (q_dm dm_X12_voidFor 2 rfl) rfl ?_
  refine qr_iload_n o (q_dm dm_X12_voidFor 3 rfl) rfl ?_
  refine qr_callv_v (As := [.inl a1, .inl a2, .inl a3]) (S := []) o (a_X12_feels g k.2.1 n j r hj hr a1 a2 a3 M) (Nat.le_of_ble_eq_true rfl) zv_X12_feels rfl cf_X12 (sh77 j r) ml_X12_288 (Nat.le_of_ble_eq_true rfl) (q_dm dm_X12_voidFor 4 rfl) (fun _ m1 => ?_)
  refine qr_aload_n o (q_dm dm_X12_voidFor 5 rfl) rfl ?_
  refine qr_bipush o (q_dm dm_X12_voidFor 6 rfl) bi_118 ?_
  refine qr_bipush o (q_dm dm_X12_voidFor 7 rfl) bi_99 ?_
  refine qr_iconst o (q_dm dm_X12_voidFor 8 rfl) ic_1 ?_
  refine qr_callv_i (As := [.inl (118 : Int32), .inl (99 : Int32), .inl (1 : Int32)]) (S := []) o (a_X12_byLaw g k.2.1 n j r hj hr (118 : Int32) (99 : Int32) (1 : Int32) m1) (Nat.le_of_ble_eq_true rfl) zv_X12_byLaw rfl cf_X12 (sh77 j r) ml_X12_292 (Nat.le_of_ble_eq_true rfl) (q_dm dm_X12_voidFor 9 rfl) (fun r2 m3 => ?_)
  exact qr_iret o rfl rfl (q_dm dm_X12_voidFor 10 rfl)

theorem a_X12_voidFor (g : qG) (l : Launch) (n : Nat) (j r : Nat) (hj : q_isLaw j) (hr : q_isLaw r) (a1 a2 a3 : Int32) (M : qM) : qAM g l 3 zX12_voidFor (qL j r) [.inr (some 77), .inl a1, .inl a2, .inl a3] (qL j r, M) (f_X12_voidFor n a1 a2 a3 M) :=
  qAM.of zv_X12_voidFor.1 (by show 4 ≤ 4; decide) (fun k hk o => w_X12_voidFor n j r hj hr o a1 a2 a3 M)
def tb_X12_triesNow : List (Nat × Instr × Nat) := [(0, (.aload_n 0, 1)), (1, (.iload_n 1, 1)), (2, (.iload_n 2, 1)), (3, (.invokevirtual 295, 3)), (6, (.aload_n 0, 1)), (7, (.iload_n 1, 1)), (8, (.iload_n 2, 1)), (9, (.invokevirtual 298, 3)), (12, (.aload_n 0, 1)), (13, (.iload_n 1, 1)), (14, (.iload_n 2, 1)), (15, (.iload_n 3, 1)), (16, (.invokevirtual 301, 3)), (19, (.if_icmp .lt 7, 3)), (22, (.iconst 1, 1)), (23, (.goto 4, 3)), (26, (.iconst 0, 1)), (27, (.istore 4, 2)), (29, (.aload_n 0, 1)), (30, (.iload_n 1, 1)), (31, (.iload_n 2, 1)), (32, (.invokevirtual 304, 3)), (35, (.istore 5, 2)), (37, (.iload_n 1, 1)), (38, (.iload_n 2, 1)), (39, (.invokestatic 282, 3)), (42, (.istore 6, 2)), (44, (.iload 4, 2)), (46, (.ifCond .eq 38, 3)), (49, (.iload 5, 2)), (51, (.ifCond .eq 33, 3)), (54, (.aload_n 0, 1)), (55, (.getfield 7, 3)), (58, (.sipush 192, 3)), (61, (.iload 6, 2)), (63, (.iadd, 1)), (64, (.sipush 999, 3)), (67, (.aload_n 0, 1)), (68, (.getfield 7, 3)), (71, (.sipush 192, 3)), (74, (.iload 6, 2)), (76, (.iadd, 1)), (77, (.iaload, 1)), (78, (.iconst 1, 1)), (79, (.iadd, 1)), (80, (.invokestatic 307, 3)), (83, (.iastore, 1)), (84, (.aload_n 0, 1)), (85, (.getfield 7, 3)), (88, (.iconst 0, 1)), (89, (.iload 6, 2)), (91, (.iadd, 1)), (92, (.sipush 999, 3)), (95, (.aload_n 0, 1)), (96, (.getfield 7, 3)), (99, (.iconst 0, 1)), (100, (.iload 6, 2)), (102, (.iadd, 1)), (103, (.iaload, 1)), (104, (.iconst 1, 1)), (105, (.iadd, 1)), (106, (.invokestatic 307, 3)), (109, (.iastore, 1)), (110, (.aload_n 0, 1)), (111, (.getfield 7, 3)), (114, (.bipush 96, 2)), (116, (.iload 6, 2)), (118, (.iadd, 1)), (119, (.aload_n 0, 1)), (120, (.getfield 7, 3)), (123, (.sipush 313, 3)), (126, (.iaload, 1)), (127, (.iastore, 1)), (128, (.iload 4, 2)), (130, (.ifCond .eq 17, 3)), (133, (.iload 5, 2)), (135, (.ifCond .eq 7, 3)), (138, (.iconst 1, 1)), (139, (.goto 9, 3)), (142, (.bipush (-2), 2)), (144, (.goto 4, 3)), (147, (.iconst 0, 1)), (148, (.ireturn, 1))]
theorem dm_X12_triesNow : ∀ q ∈ tb_X12_triesNow, decode zX12_triesNow.2.1 q.1 = .ok q.2 := by decide +kernel
def f_X12_triesNow_84 (n : Nat) (a4 a5 a6 : Int32) (M : qM) : qR :=
  qg ((0 : Int32) + a6) 954 (qc (f_X12_min n (999 : Int32) ((M 78 ((0 : Int32) + a6).toNatClampNeg) + (1 : Int32)) M) (fun r1 m2 => qg ((0 : Int32) + a6) 954 (qlm (mu m2 78 ((0 : Int32) + a6).toNatClampNeg r1) (fun m3 => qg ((96 : Int32) + a6) 954 (qlm (mu m3 78 ((96 : Int32) + a6).toNatClampNeg (m3 78 313)) (fun m4 => (if a4 = (0 : Int32) then some ((0 : Int32), m4) else (if a5 = (0 : Int32) then some ((-2 : Int32), m4) else some ((1 : Int32), m4)))))))))
set_option maxRecDepth 4000 in
theorem w_X12_triesNow_84 {g : qG} {k : qK} (n : Nat) (j r : Nat) (hj : q_isLaw j) (hr : q_isLaw r) (o : qOk g 4 zX12_triesNow k) (a4 a5 a6 : Int32) (M : qM) : qAE g k zX12_triesNow (qL j r) 84 [some (.inr (some 77)), none, none, none, some (.inl a4), some (.inl a5), some (.inl a6)] [] (qL j r, M) (f_X12_triesNow_84 n a4 a5 a6 M) := by
  unfold f_X12_triesNow_84
  refine qr_aload_n o (q_dm dm_X12_triesNow 47 rfl) rfl ?_
  refine qr_getr (kf := 0) o cf_X12 (sh77 j r) rfl (Nat.le_of_ble_eq_true rfl) fl_X12_7 (q_dm dm_X12_triesNow 48 rfl) ?_
  refine qr_iconst o (q_dm dm_X12_triesNow 49 rfl) ic_0 ?_
  refine qr_iload o (q_dm dm_X12_triesNow 50 rfl) rfl ?_
  refine qr_iadd o (q_dm dm_X12_triesNow 51 rfl) ?_
  refine qr_sipush o (q_dm dm_X12_triesNow 52 rfl) si_999 ?_
  refine qr_aload_n o (q_dm dm_X12_triesNow 53 rfl) rfl ?_
  refine qr_getr (kf := 0) o cf_X12 (sh77 j r) rfl (Nat.le_of_ble_eq_true rfl) fl_X12_7 (q_dm dm_X12_triesNow 54 rfl) ?_
  refine qr_iconst o (q_dm dm_X12_triesNow 55 rfl) ic_0 ?_
  refine qr_iload o (q_dm dm_X12_triesNow 56 rfl) rfl ?_
  refine qr_iadd o (q_dm dm_X12_triesNow 57 rfl) ?_
  refine qr_iald o (sh78 j r) (q_dm dm_X12_triesNow 58 rfl) ?_
  refine qr_iconst o (q_dm dm_X12_triesNow 59 rfl) ic_1 ?_
  refine qr_iadd o (q_dm dm_X12_triesNow 60 rfl) ?_
  refine qr_calls_i (As := [.inl (999 : Int32), .inl ((M 78 ((0 : Int32) + a6).toNatClampNeg) + (1 : Int32))]) (S := [.inl ((0 : Int32) + a6), .inr (some 78)]) o (a_X12_min g k.2.1 n j r hj hr (999 : Int32) ((M 78 ((0 : Int32) + a6).toNatClampNeg) + (1 : Int32)) M) (Nat.le_of_ble_eq_true rfl) zs_X12_min rfl ml_X12_307 (Nat.le_of_ble_eq_true rfl) (q_dm dm_X12_triesNow 61 rfl) (fun r1 m2 => ?_)
  refine qr_iast o (sh78 j r) (q_dm dm_X12_triesNow 62 rfl) ?_
  refine qr_letm (fun m3 => ?_)
  refine qr_aload_n o (q_dm dm_X12_triesNow 63 rfl) rfl ?_
  refine qr_getr (kf := 0) o cf_X12 (sh77 j r) rfl (Nat.le_of_ble_eq_true rfl) fl_X12_7 (q_dm dm_X12_triesNow 64 rfl) ?_
  refine qr_bipush o (q_dm dm_X12_triesNow 65 rfl) bi_96 ?_
  refine qr_iload o (q_dm dm_X12_triesNow 66 rfl) rfl ?_
  refine qr_iadd o (q_dm dm_X12_triesNow 67 rfl) ?_
  refine qr_aload_n o (q_dm dm_X12_triesNow 68 rfl) rfl ?_
  refine qr_getr (kf := 0) o cf_X12 (sh77 j r) rfl (Nat.le_of_ble_eq_true rfl) fl_X12_7 (q_dm dm_X12_triesNow 69 rfl) ?_
  refine qr_sipush o (q_dm dm_X12_triesNow 70 rfl) si_313 ?_
  refine qr_iald0 (c := 313) o (sh78 j r) (by decide) (by decide) (q_dm dm_X12_triesNow 71 rfl) ?_
  refine qr_iast o (sh78 j r) (q_dm dm_X12_triesNow 72 rfl) ?_
  refine qr_letm (fun m4 => ?_)
  refine qr_iload o (q_dm dm_X12_triesNow 73 rfl) rfl ?_
  refine qr_if_eq (tgt := 147) o (q_dm dm_X12_triesNow 74 rfl) (by decide) ?_ ?_
  · refine qr_iconst o (q_dm dm_X12_triesNow 81 rfl) ic_0 ?_
    exact qr_iret o rfl rfl (q_dm dm_X12_triesNow 82 rfl)
  · refine qr_iload o (q_dm dm_X12_triesNow 75 rfl) rfl ?_
    refine qr_if_eq (tgt := 142) o (q_dm dm_X12_triesNow 76 rfl) (by decide) ?_ ?_
    · refine qr_bipush o (q_dm dm_X12_triesNow 79 rfl) bi_m2 ?_
      refine qr_goto (tgt := 148) o (q_dm dm_X12_triesNow 80 rfl) (by decide) ?_
      exact qr_iret o rfl rfl (q_dm dm_X12_triesNow 82 rfl)
    · refine qr_iconst o (q_dm dm_X12_triesNow 77 rfl) ic_1 ?_
      refine qr_goto (tgt := 148) o (q_dm dm_X12_triesNow 78 rfl) (by decide) ?_
      exact qr_iret o rfl rfl (q_dm dm_X12_triesNow 82 rfl)

def f_X12_triesNow_27 (n : Nat) (a1 a2 s0 : Int32) (M : qM) : qR :=
  qc (f_X12_hasNeeds n a1 a2 M) (fun r1 m2 => qc (f_X12_at n a1 a2 m2) (fun r3 m4 => (if s0 = (0 : Int32) then f_X12_triesNow_84 n s0 r1 r3 m4 else (if r1 = (0 : Int32) then f_X12_triesNow_84 n s0 r1 r3 m4 else qg ((192 : Int32) + r3) 954 (qc (f_X12_min n (999 : Int32) ((m4 78 ((192 : Int32) + r3).toNatClampNeg) + (1 : Int32)) m4) (fun r5 m6 => qg ((192 : Int32) + r3) 954 (qlm (mu m6 78 ((192 : Int32) + r3).toNatClampNeg r5) (fun m7 => f_X12_triesNow_84 n s0 r1 r3 m7))))))))
set_option maxRecDepth 4000 in
theorem w_X12_triesNow_27 {g : qG} {k : qK} (n : Nat) (j r : Nat) (hj : q_isLaw j) (hr : q_isLaw r) (o : qOk g 4 zX12_triesNow k) (a1 a2 s0 : Int32) (M : qM) : qAE g k zX12_triesNow (qL j r) 27 [some (.inr (some 77)), some (.inl a1), some (.inl a2), none, none, none, none] [.inl s0] (qL j r, M) (f_X12_triesNow_27 n a1 a2 s0 M) := by
  unfold f_X12_triesNow_27
  refine qs_istore (L' := [some (.inr (some 77)), some (.inl a1), some (.inl a2), none, some (.inl s0), none, none]) o (q_dm dm_X12_triesNow 17 rfl) (Nat.le_of_ble_eq_true rfl) rfl ?_
  refine qr_aload_n o (q_dm dm_X12_triesNow 18 rfl) rfl ?_
  refine qr_iload_n o (q_dm dm_X12_triesNow 19 rfl) rfl ?_
  refine qr_iload_n o (q_dm dm_X12_triesNow 20 rfl) rfl ?_
  refine qr_callv_i (As := [.inl a1, .inl a2]) (S := []) o (a_X12_hasNeeds g k.2.1 n j r hj hr a1 a2 M) (Nat.le_of_ble_eq_true rfl) zv_X12_hasNeeds rfl cf_X12 (sh77 j r) ml_X12_304 (Nat.le_of_ble_eq_true rfl) (q_dm dm_X12_triesNow 21 rfl) (fun r1 m2 => ?_)
  refine qs_istore (L' := [some (.inr (some 77)), some (.inl a1), some (.inl a2), none, some (.inl s0), some (.inl r1), none]) o (q_dm dm_X12_triesNow 22 rfl) (Nat.le_of_ble_eq_true rfl) rfl ?_
  refine qr_iload_n o (q_dm dm_X12_triesNow 23 rfl) rfl ?_
  refine qr_iload_n o (q_dm dm_X12_triesNow 24 rfl) rfl ?_
  refine qr_calls_i (As := [.inl a1, .inl a2]) (S := []) o (a_X12_at g k.2.1 n j r hj hr a1 a2 m2) (Nat.le_of_ble_eq_true rfl) zs_X12_at rfl ml_X12_282 (Nat.le_of_ble_eq_true rfl) (q_dm dm_X12_triesNow 25 rfl) (fun r3 m4 => ?_)
  refine qs_istore (L' := [some (.inr (some 77)), some (.inl a1), some (.inl a2), none, some (.inl s0), some (.inl r1), some (.inl r3)]) o (q_dm dm_X12_triesNow 26 rfl) (Nat.le_of_ble_eq_true rfl) rfl ?_
  refine qr_iload o (q_dm dm_X12_triesNow 27 rfl) rfl ?_
  refine qr_if_eq (tgt := 84) o (q_dm dm_X12_triesNow 28 rfl) (by decide) ?_ ?_
  · exact qr_loc (q_leS (q_leN (q_leN (q_leN (q_leS (q_leS (q_leS q_le0))))))) (w_X12_triesNow_84 n j r hj hr o s0 r1 r3 m4)
  · refine qr_iload o (q_dm dm_X12_triesNow 29 rfl) rfl ?_
    refine qr_if_eq (tgt := 84) o (q_dm dm_X12_triesNow 30 rfl) (by decide) ?_ ?_
    · exact qr_loc (q_leS (q_leN (q_leN (q_leN (q_leS (q_leS (q_leS q_le0))))))) (w_X12_triesNow_84 n j r hj hr o s0 r1 r3 m4)
    · refine qr_aload_n o (q_dm dm_X12_triesNow 31 rfl) rfl ?_
      refine qr_getr (kf := 0) o cf_X12 (sh77 j r) rfl (Nat.le_of_ble_eq_true rfl) fl_X12_7 (q_dm dm_X12_triesNow 32 rfl) ?_
      refine qr_sipush o (q_dm dm_X12_triesNow 33 rfl) si_192 ?_
      refine qr_iload o (q_dm dm_X12_triesNow 34 rfl) rfl ?_
      refine qr_iadd o (q_dm dm_X12_triesNow 35 rfl) ?_
      refine qr_sipush o (q_dm dm_X12_triesNow 36 rfl) si_999 ?_
      refine qr_aload_n o (q_dm dm_X12_triesNow 37 rfl) rfl ?_
      refine qr_getr (kf := 0) o cf_X12 (sh77 j r) rfl (Nat.le_of_ble_eq_true rfl) fl_X12_7 (q_dm dm_X12_triesNow 38 rfl) ?_
      refine qr_sipush o (q_dm dm_X12_triesNow 39 rfl) si_192 ?_
      refine qr_iload o (q_dm dm_X12_triesNow 40 rfl) rfl ?_
      refine qr_iadd o (q_dm dm_X12_triesNow 41 rfl) ?_
      refine qr_iald o (sh78 j r) (q_dm dm_X12_triesNow 42 rfl) ?_
      refine qr_iconst o (q_dm dm_X12_triesNow 43 rfl) ic_1 ?_
      refine qr_iadd o (q_dm dm_X12_triesNow 44 rfl) ?_
      refine qr_calls_i (As := [.inl (999 : Int32), .inl ((m4 78 ((192 : Int32) + r3).toNatClampNeg) + (1 : Int32))]) (S := [.inl ((192 : Int32) + r3), .inr (some 78)]) o (a_X12_min g k.2.1 n j r hj hr (999 : Int32) ((m4 78 ((192 : Int32) + r3).toNatClampNeg) + (1 : Int32)) m4) (Nat.le_of_ble_eq_true rfl) zs_X12_min rfl ml_X12_307 (Nat.le_of_ble_eq_true rfl) (q_dm dm_X12_triesNow 45 rfl) (fun r5 m6 => ?_)
      refine qr_iast o (sh78 j r) (q_dm dm_X12_triesNow 46 rfl) ?_
      refine qr_letm (fun m7 => ?_)
      exact qr_loc (q_leS (q_leN (q_leN (q_leN (q_leS (q_leS (q_leS q_le0))))))) (w_X12_triesNow_84 n j r hj hr o s0 r1 r3 m7)

def f_X12_triesNow (n : Nat) (a1 a2 a3 : Int32) (M : qM) : qR :=
  qc (f_X12_forgets n a1 a2 M) (fun _ m1 => qc (f_X12_oldOnes n a1 a2 m1) (fun r2 m3 => qc (f_X12_voidFor n a1 a2 a3 m3) (fun r4 m5 => (if r2 < r4 then f_X12_triesNow_27 n a1 a2 (0 : Int32) m5 else f_X12_triesNow_27 n a1 a2 (1 : Int32) m5))))
set_option maxRecDepth 4000 in
theorem w_X12_triesNow {g : qG} {k : qK} (n : Nat) (j r : Nat) (hj : q_isLaw j) (hr : q_isLaw r) (o : qOk g 4 zX12_triesNow k) (a1 a2 a3 : Int32) (M : qM) : qAE g k zX12_triesNow (qL j r) 0 [some (.inr (some 77)), some (.inl a1), some (.inl a2), some (.inl a3), none, none, none] [] (qL j r, M) (f_X12_triesNow n a1 a2 a3 M) := by
  unfold f_X12_triesNow
  refine qr_aload_n o (q_dm dm_X12_triesNow 0 rfl) rfl ?_
  refine qr_iload_n o (q_dm dm_X12_triesNow 1 rfl) rfl ?_
  refine qr_iload_n o (q_dm dm_X12_triesNow 2 rfl) rfl ?_
  refine qr_callv_v (As := [.inl a1, .inl a2]) (S := []) o (a_X12_forgets g k.2.1 n j r hj hr a1 a2 M) (Nat.le_of_ble_eq_true rfl) zv_X12_forgets rfl cf_X12 (sh77 j r) ml_X12_295 (Nat.le_of_ble_eq_true rfl) (q_dm dm_X12_triesNow 3 rfl) (fun _ m1 => ?_)
  refine qr_aload_n o (q_dm dm_X12_triesNow 4 rfl) rfl ?_
  refine qr_iload_n o (q_dm dm_X12_triesNow 5 rfl) rfl ?_
  refine qr_iload_n o (q_dm dm_X12_triesNow 6 rfl) rfl ?_
  refine qr_callv_i (As := [.inl a1, .inl a2]) (S := []) o (a_X12_oldOnes g k.2.1 n j r hj hr a1 a2 m1) (Nat.le_of_ble_eq_true rfl) zv_X12_oldOnes rfl cf_X12 (sh77 j r) ml_X12_298 (Nat.le_of_ble_eq_true rfl) (q_dm dm_X12_triesNow 7 rfl) (fun r2 m3 => ?_)
  refine qr_aload_n o (q_dm dm_X12_triesNow 8 rfl) rfl ?_
  refine qr_iload_n o (q_dm dm_X12_triesNow 9 rfl) rfl ?_
  refine qr_iload_n o (q_dm dm_X12_triesNow 10 rfl) rfl ?_
  refine qr_iload_n o (q_dm dm_X12_triesNow 11 rfl) rfl ?_
  refine qr_callv_i (As := [.inl a1, .inl a2, .inl a3]) (S := [.inl r2]) o (a_X12_voidFor g k.2.1 n j r hj hr a1 a2 a3 m3) (Nat.le_of_ble_eq_true rfl) zv_X12_voidFor rfl cf_X12 (sh77 j r) ml_X12_301 (Nat.le_of_ble_eq_true rfl) (q_dm dm_X12_triesNow 12 rfl) (fun r4 m5 => ?_)
  refine qr_icmp_lt (tgt := 26) o (q_dm dm_X12_triesNow 13 rfl) (by decide) ?_ ?_
  · refine qr_iconst o (q_dm dm_X12_triesNow 16 rfl) ic_0 ?_
    exact qr_loc (q_leS (q_leS (q_leS (q_leN (q_leN (q_leN (q_leN q_le0))))))) (w_X12_triesNow_27 n j r hj hr o a1 a2 (0 : Int32) m5)
  · refine qr_iconst o (q_dm dm_X12_triesNow 14 rfl) ic_1 ?_
    refine qr_goto (tgt := 27) o (q_dm dm_X12_triesNow 15 rfl) (by decide) ?_
    exact qr_loc (q_leS (q_leS (q_leS (q_leN (q_leN (q_leN (q_leN q_le0))))))) (w_X12_triesNow_27 n j r hj hr o a1 a2 (1 : Int32) m5)

theorem a_X12_triesNow (g : qG) (l : Launch) (n : Nat) (j r : Nat) (hj : q_isLaw j) (hr : q_isLaw r) (a1 a2 a3 : Int32) (M : qM) : qAM g l 4 zX12_triesNow (qL j r) [.inr (some 77), .inl a1, .inl a2, .inl a3] (qL j r, M) (f_X12_triesNow n a1 a2 a3 M) :=
  qAM.of zv_X12_triesNow.1 (by show 4 ≤ 7; decide) (fun k hk o => w_X12_triesNow n j r hj hr o a1 a2 a3 M)
def tb_X12_dayOf : List (Nat × Instr × Nat) := [(0, (.bipush 12, 2)), (2, (.istore_n 2, 1)), (3, (.aload_n 0, 1)), (4, (.getfield 7, 3)), (7, (.sipush 304, 3)), (10, (.iload_n 1, 1)), (11, (.iadd, 1)), (12, (.iaload, 1)), (13, (.aload_n 0, 1)), (14, (.getfield 7, 3)), (17, (.sipush 296, 3)), (20, (.iload_n 1, 1)), (21, (.iadd, 1)), (22, (.iaload, 1)), (23, (.if_icmp .ge 157, 3)), (26, (.bipush 40, 2)), (28, (.iload_n 1, 1)), (29, (.imul, 1)), (30, (.aload_n 0, 1)), (31, (.getfield 7, 3)), (34, (.sipush 304, 3)), (37, (.iload_n 1, 1)), (38, (.iadd, 1)), (39, (.iaload, 1)), (40, (.iadd, 1)), (41, (.istore_n 3, 1)), (42, (.aload_n 0, 1)), (43, (.getfield 7, 3)), (46, (.sipush 314, 3)), (49, (.iload_n 3, 1)), (50, (.iadd, 1)), (51, (.iaload, 1)), (52, (.istore 4, 2)), (54, (.aload_n 0, 1)), (55, (.getfield 7, 3)), (58, (.sipush 634, 3)), (61, (.iload_n 3, 1)), (62, (.iadd, 1)), (63, (.iaload, 1)), (64, (.istore 5, 2)), (66, (.aload_n 0, 1)), (67, (.iload 4, 2)), (69, (.invokevirtual 157, 3)), (72, (.ifCond .eq 29, 3)), (75, (.iload 5, 2)), (77, (.iload_n 1, 1)), (78, (.if_icmp .eq 23, 3)), (81, (.iload 5, 2)), (83, (.bipush 8, 2)), (85, (.if_icmp .eq 12, 3)), (88, (.aload_n 0, 1)), (89, (.iload 5, 2)), (91, (.invokevirtual 310, 3)), (94, (.ifCond .eq 7, 3)), (97, (.iconst 1, 1)), (98, (.goto 4, 3)), (101, (.iconst 0, 1)), (102, (.istore 6, 2)), (104, (.iload 6, 2)), (106, (.ifCond .eq 15, 3)), (109, (.aload_n 0, 1)), (110, (.getfield 19, 3)), (113, (.iload 4, 2)), (115, (.iaload, 1)), (116, (.iload_n 2, 1)), (117, (.if_icmp .le 4, 3)), (120, (.return_, 1)), (121, (.aload_n 0, 1)), (122, (.getfield 7, 3)), (125, (.sipush 304, 3)), (128, (.iload_n 1, 1)), (129, (.iadd, 1)), (130, (.aload_n 0, 1)), (131, (.getfield 7, 3)), (134, (.sipush 304, 3)), (137, (.iload_n 1, 1)), (138, (.iadd, 1)), (139, (.iaload, 1)), (140, (.iconst 1, 1)), (141, (.iadd, 1)), (142, (.iastore, 1)), (143, (.iload 6, 2)), (145, (.ifCond .ne 6, 3)), (148, (.goto (-145), 3)), (151, (.iload_n 2, 1)), (152, (.aload_n 0, 1)), (153, (.getfield 19, 3)), (156, (.iload 4, 2)), (158, (.iaload, 1)), (159, (.isub, 1)), (160, (.istore_n 2, 1)), (161, (.aload_n 0, 1)), (162, (.iload_n 1, 1)), (163, (.iload 4, 2)), (165, (.aload_n 0, 1)), (166, (.iload_n 1, 1)), (167, (.iload 4, 2)), (169, (.iload 5, 2)), (171, (.invokevirtual 313, 3)), (174, (.invokevirtual 353, 3)), (177, (.goto (-174), 3)), (180, (.return_, 1))]
theorem dm_X12_dayOf : ∀ q ∈ tb_X12_dayOf, decode zX12_dayOf.2.1 q.1 = .ok q.2 := by decide +kernel
def f_X12_dayOf_121 (n : Nat) (K3 : Int32 → Int32 → qM → qR) (a1 a2 a4 a5 a6 : Int32) (M : qM) : qR :=
  qg ((304 : Int32) + a1) 954 (qg ((304 : Int32) + a1) 954 (qlm (mu M 78 ((304 : Int32) + a1).toNatClampNeg ((M 78 ((304 : Int32) + a1).toNatClampNeg) + (1 : Int32))) (fun m1 => (if a6 = (0 : Int32) then K3 a1 a2 m1 else qg a4 13 (ql (a2 - (m1 81 a4.toNatClampNeg)) (fun x2 => qc (f_X12_triesNow n a1 a4 a5 m1) (fun r3 m4 => qc (f_X12_notesTry n a1 a4 r3 m4) (fun _ m5 => K3 a1 x2 m5))))))))
set_option maxRecDepth 4000 in
theorem w_X12_dayOf_121 {g : qG} {k : qK} (n : Nat) (j r : Nat) (hj : q_isLaw j) (hr : q_isLaw r) (o : qOk g 5 zX12_dayOf k) (K3 : Int32 → Int32 → qM → qR) (hK3 : ∀ (a1 a2 : Int32) (M : qM), qAE g k zX12_dayOf (qL j r) 3 [some (.inr (some 77)), some (.inl a1), some (.inl a2), none, none, none, none] [] (qL j r, M) (K3 a1 a2 M)) (a1 a2 a4 a5 a6 : Int32) (M : qM) : qAE g k zX12_dayOf (qL j r) 121 [some (.inr (some 77)), some (.inl a1), some (.inl a2), none, some (.inl a4), some (.inl a5), some (.inl a6)] [] (qL j r, M) (f_X12_dayOf_121 n K3 a1 a2 a4 a5 a6 M) := by
  unfold f_X12_dayOf_121
  refine qr_aload_n o (q_dm dm_X12_dayOf 67 rfl) rfl ?_
  refine qr_getr (kf := 0) o cf_X12 (sh77 j r) rfl (Nat.le_of_ble_eq_true rfl) fl_X12_7 (q_dm dm_X12_dayOf 68 rfl) ?_
  refine qr_sipush o (q_dm dm_X12_dayOf 69 rfl) si_304 ?_
  refine qr_iload_n o (q_dm dm_X12_dayOf 70 rfl) rfl ?_
  refine qr_iadd o (q_dm dm_X12_dayOf 71 rfl) ?_
  refine qr_aload_n o (q_dm dm_X12_dayOf 72 rfl) rfl ?_
  refine qr_getr (kf := 0) o cf_X12 (sh77 j r) rfl (Nat.le_of_ble_eq_true rfl) fl_X12_7 (q_dm dm_X12_dayOf 73 rfl) ?_
  refine qr_sipush o (q_dm dm_X12_dayOf 74 rfl) si_304 ?_
  refine qr_iload_n o (q_dm dm_X12_dayOf 75 rfl) rfl ?_
  refine qr_iadd o (q_dm dm_X12_dayOf 76 rfl) ?_
  refine qr_iald o (sh78 j r) (q_dm dm_X12_dayOf 77 rfl) ?_
  refine qr_iconst o (q_dm dm_X12_dayOf 78 rfl) ic_1 ?_
  refine qr_iadd o (q_dm dm_X12_dayOf 79 rfl) ?_
  refine qr_iast o (sh78 j r) (q_dm dm_X12_dayOf 80 rfl) ?_
  refine qr_letm (fun m1 => ?_)
  refine qr_iload o (q_dm dm_X12_dayOf 81 rfl) rfl ?_
  refine qr_if_ne (tgt := 151) o (q_dm dm_X12_dayOf 82 rfl) (by decide) ?_ ?_
  · refine qr_iload_n o (q_dm dm_X12_dayOf 84 rfl) rfl ?_
    refine qr_aload_n o (q_dm dm_X12_dayOf 85 rfl) rfl ?_
    refine qr_getr (kf := 3) o cf_X12 (sh77 j r) rfl (Nat.le_of_ble_eq_true rfl) fl_X12_19 (q_dm dm_X12_dayOf 86 rfl) ?_
    refine qr_iload o (q_dm dm_X12_dayOf 87 rfl) rfl ?_
    refine qr_iald o (sh81 j r) (q_dm dm_X12_dayOf 88 rfl) ?_
    refine qr_isub o (q_dm dm_X12_dayOf 89 rfl) ?_
    refine qr_lt (fun x2 => ?_)
    refine qs_istore_n (L' := [some (.inr (some 77)), some (.inl a1), some (.inl x2), none, some (.inl a4), some (.inl a5), some (.inl a6)]) o (q_dm dm_X12_dayOf 90 rfl) (Nat.le_of_ble_eq_true rfl) rfl ?_
    refine qr_aload_n o (q_dm dm_X12_dayOf 91 rfl) rfl ?_
    refine qr_iload_n o (q_dm dm_X12_dayOf 92 rfl) rfl ?_
    refine qr_iload o (q_dm dm_X12_dayOf 93 rfl) rfl ?_
    refine qr_aload_n o (q_dm dm_X12_dayOf 94 rfl) rfl ?_
    refine qr_iload_n o (q_dm dm_X12_dayOf 95 rfl) rfl ?_
    refine qr_iload o (q_dm dm_X12_dayOf 96 rfl) rfl ?_
    refine qr_iload o (q_dm dm_X12_dayOf 97 rfl) rfl ?_
    refine qr_callv_i (As := [.inl a1, .inl a4, .inl a5]) (S := [.inl a4, .inl a1, .inr (some 77)]) o (a_X12_triesNow g k.2.1 n j r hj hr a1 a4 a5 m1) (Nat.le_of_ble_eq_true rfl) zv_X12_triesNow rfl cf_X12 (sh77 j r) ml_X12_313 (Nat.le_of_ble_eq_true rfl) (q_dm dm_X12_dayOf 98 rfl) (fun r3 m4 => ?_)
    refine qr_callv_v (As := [.inl a1, .inl a4, .inl r3]) (S := []) o (a_X12_notesTry g k.2.1 n j r hj hr a1 a4 r3 m4) (Nat.le_of_ble_eq_true rfl) zv_X12_notesTry rfl cf_X12 (sh77 j r) ml_X12_353 (Nat.le_of_ble_eq_true rfl) (q_dm dm_X12_dayOf 99 rfl) (fun _ m5 => ?_)
    refine qr_goto (tgt := 3) o (q_dm dm_X12_dayOf 100 rfl) (by decide) ?_
    exact qr_loc (q_leS (q_leS (q_leS (q_leN (q_leN (q_leN (q_leN q_le0))))))) (hK3 a1 x2 m5)
  · refine qr_goto (tgt := 3) o (q_dm dm_X12_dayOf 83 rfl) (by decide) ?_
    exact qr_loc (q_leS (q_leS (q_leS (q_leN (q_leN (q_leN (q_leN q_le0))))))) (hK3 a1 a2 m1)

def f_X12_dayOf_102 (n : Nat) (K3 : Int32 → Int32 → qM → qR) (a1 a2 a4 a5 s0 : Int32) (M : qM) : qR :=
  (if s0 = (0 : Int32) then f_X12_dayOf_121 n K3 a1 a2 a4 a5 s0 M else qg a4 13 ((if (M 81 a4.toNatClampNeg) ≤ a2 then f_X12_dayOf_121 n K3 a1 a2 a4 a5 s0 M else some (0, M))))
set_option maxRecDepth 4000 in
theorem w_X12_dayOf_102 {g : qG} {k : qK} (n : Nat) (j r : Nat) (hj : q_isLaw j) (hr : q_isLaw r) (o : qOk g 5 zX12_dayOf k) (K3 : Int32 → Int32 → qM → qR) (hK3 : ∀ (a1 a2 : Int32) (M : qM), qAE g k zX12_dayOf (qL j r) 3 [some (.inr (some 77)), some (.inl a1), some (.inl a2), none, none, none, none] [] (qL j r, M) (K3 a1 a2 M)) (a1 a2 a4 a5 s0 : Int32) (M : qM) : qAE g k zX12_dayOf (qL j r) 102 [some (.inr (some 77)), some (.inl a1), some (.inl a2), none, some (.inl a4), some (.inl a5), none] [.inl s0] (qL j r, M) (f_X12_dayOf_102 n K3 a1 a2 a4 a5 s0 M) := by
  unfold f_X12_dayOf_102
  refine qs_istore (L' := [some (.inr (some 77)), some (.inl a1), some (.inl a2), none, some (.inl a4), some (.inl a5), some (.inl s0)]) o (q_dm dm_X12_dayOf 57 rfl) (Nat.le_of_ble_eq_true rfl) rfl ?_
  refine qr_iload o (q_dm dm_X12_dayOf 58 rfl) rfl ?_
  refine qr_if_eq (tgt := 121) o (q_dm dm_X12_dayOf 59 rfl) (by decide) ?_ ?_
  · exact qr_loc (q_leS (q_leS (q_leS (q_leN (q_leS (q_leS (q_leS q_le0))))))) (w_X12_dayOf_121 n j r hj hr o K3 hK3 a1 a2 a4 a5 s0 M)
  · refine qr_aload_n o (q_dm dm_X12_dayOf 60 rfl) rfl ?_
    refine qr_getr (kf := 3) o cf_X12 (sh77 j r) rfl (Nat.le_of_ble_eq_true rfl) fl_X12_19 (q_dm dm_X12_dayOf 61 rfl) ?_
    refine qr_iload o (q_dm dm_X12_dayOf 62 rfl) rfl ?_
    refine qr_iald o (sh81 j r) (q_dm dm_X12_dayOf 63 rfl) ?_
    refine qr_iload_n o (q_dm dm_X12_dayOf 64 rfl) rfl ?_
    refine qr_icmp_le (tgt := 121) o (q_dm dm_X12_dayOf 65 rfl) (by decide) ?_ ?_
    · exact qr_loc (q_leS (q_leS (q_leS (q_leN (q_leS (q_leS (q_leS q_le0))))))) (w_X12_dayOf_121 n j r hj hr o K3 hK3 a1 a2 a4 a5 s0 M)
    · exact qr_vret o rfl (q_dm dm_X12_dayOf 66 rfl)

def f_X12_dayOf_101 (n : Nat) (K3 : Int32 → Int32 → qM → qR) (a1 a2 a4 a5 : Int32) (M : qM) : qR :=
  f_X12_dayOf_102 n K3 a1 a2 a4 a5 (0 : Int32) M
set_option maxRecDepth 4000 in
theorem w_X12_dayOf_101 {g : qG} {k : qK} (n : Nat) (j r : Nat) (hj : q_isLaw j) (hr : q_isLaw r) (o : qOk g 5 zX12_dayOf k) (K3 : Int32 → Int32 → qM → qR) (hK3 : ∀ (a1 a2 : Int32) (M : qM), qAE g k zX12_dayOf (qL j r) 3 [some (.inr (some 77)), some (.inl a1), some (.inl a2), none, none, none, none] [] (qL j r, M) (K3 a1 a2 M)) (a1 a2 a4 a5 : Int32) (M : qM) : qAE g k zX12_dayOf (qL j r) 101 [some (.inr (some 77)), some (.inl a1), some (.inl a2), none, some (.inl a4), some (.inl a5), none] [] (qL j r, M) (f_X12_dayOf_101 n K3 a1 a2 a4 a5 M) := by
  unfold f_X12_dayOf_101
  refine qr_iconst o (q_dm dm_X12_dayOf 56 rfl) ic_0 ?_
  exact qr_loc (q_leS (q_leS (q_leS (q_leN (q_leS (q_leS (q_leN q_le0))))))) (w_X12_dayOf_102 n j r hj hr o K3 hK3 a1 a2 a4 a5 (0 : Int32) M)

def b_X12_dayOf_3 (n : Nat) (K3 : Int32 → Int32 → qM → qR) (a1 a2 : Int32) (M : qM) : qR :=
  qg ((304 : Int32) + a1) 954 (qg ((296 : Int32) + a1) 954 ((if (M 78 ((296 : Int32) + a1).toNatClampNeg) ≤ (M 78 ((304 : Int32) + a1).toNatClampNeg) then some (0, M) else qg ((304 : Int32) + a1) 954 (ql (((40 : Int32) * a1) + (M 78 ((304 : Int32) + a1).toNatClampNeg)) (fun x1 => qg ((314 : Int32) + x1) 954 (ql (M 78 ((314 : Int32) + x1).toNatClampNeg) (fun x2 => qg ((634 : Int32) + x1) 954 (ql (M 78 ((634 : Int32) + x1).toNatClampNeg) (fun x3 => qc (f_X12_isKind n x2 M) (fun r4 m5 => (if r4 = (0 : Int32) then f_X12_dayOf_101 n K3 a1 a2 x2 x3 m5 else (if x3 = a1 then f_X12_dayOf_101 n K3 a1 a2 x2 x3 m5 else (if x3 = (8 : Int32) then f_X12_dayOf_102 n K3 a1 a2 x2 x3 (1 : Int32) m5 else qc (f_X12_isPerson n x3 m5) (fun r6 m7 => (if r6 = (0 : Int32) then f_X12_dayOf_101 n K3 a1 a2 x2 x3 m7 else f_X12_dayOf_102 n K3 a1 a2 x2 x3 (1 : Int32) m7)))))))))))))))
set_option maxRecDepth 4000 in
theorem wb_X12_dayOf_3 {g : qG} {k : qK} (n : Nat) (j r : Nat) (hj : q_isLaw j) (hr : q_isLaw r) (o : qOk g 5 zX12_dayOf k) (K3 : Int32 → Int32 → qM → qR) (hK3 : ∀ (a1 a2 : Int32) (M : qM), qAE g k zX12_dayOf (qL j r) 3 [some (.inr (some 77)), some (.inl a1), some (.inl a2), none, none, none, none] [] (qL j r, M) (K3 a1 a2 M)) (a1 a2 : Int32) (M : qM) : qAE g k zX12_dayOf (qL j r) 3 [some (.inr (some 77)), some (.inl a1), some (.inl a2), none, none, none, none] [] (qL j r, M) (b_X12_dayOf_3 n K3 a1 a2 M) := by
  unfold b_X12_dayOf_3
  refine qr_aload_n o (q_dm dm_X12_dayOf 2 rfl) rfl ?_
  refine qr_getr (kf := 0) o cf_X12 (sh77 j r) rfl (Nat.le_of_ble_eq_true rfl) fl_X12_7 (q_dm dm_X12_dayOf 3 rfl) ?_
  refine qr_sipush o (q_dm dm_X12_dayOf 4 rfl) si_304 ?_
  refine qr_iload_n o (q_dm dm_X12_dayOf 5 rfl) rfl ?_
  refine qr_iadd o (q_dm dm_X12_dayOf 6 rfl) ?_
  refine qr_iald o (sh78 j r) (q_dm dm_X12_dayOf 7 rfl) ?_
  refine qr_aload_n o (q_dm dm_X12_dayOf 8 rfl) rfl ?_
  refine qr_getr (kf := 0) o cf_X12 (sh77 j r) rfl (Nat.le_of_ble_eq_true rfl) fl_X12_7 (q_dm dm_X12_dayOf 9 rfl) ?_
  refine qr_sipush o (q_dm dm_X12_dayOf 10 rfl) si_296 ?_
  refine qr_iload_n o (q_dm dm_X12_dayOf 11 rfl) rfl ?_
  refine qr_iadd o (q_dm dm_X12_dayOf 12 rfl) ?_
  refine qr_iald o (sh78 j r) (q_dm dm_X12_dayOf 13 rfl) ?_
  refine qr_icmp_ge (tgt := 180) o (q_dm dm_X12_dayOf 14 rfl) (by decide) ?_ ?_
  · exact qr_vret o rfl (q_dm dm_X12_dayOf 101 rfl)
  · refine qr_bipush o (q_dm dm_X12_dayOf 15 rfl) bi_40 ?_
    refine qr_iload_n o (q_dm dm_X12_dayOf 16 rfl) rfl ?_
    refine qr_imul o (q_dm dm_X12_dayOf 17 rfl) ?_
    refine qr_aload_n o (q_dm dm_X12_dayOf 18 rfl) rfl ?_
    refine qr_getr (kf := 0) o cf_X12 (sh77 j r) rfl (Nat.le_of_ble_eq_true rfl) fl_X12_7 (q_dm dm_X12_dayOf 19 rfl) ?_
    refine qr_sipush o (q_dm dm_X12_dayOf 20 rfl) si_304 ?_
    refine qr_iload_n o (q_dm dm_X12_dayOf 21 rfl) rfl ?_
    refine qr_iadd o (q_dm dm_X12_dayOf 22 rfl) ?_
    refine qr_iald o (sh78 j r) (q_dm dm_X12_dayOf 23 rfl) ?_
    refine qr_iadd o (q_dm dm_X12_dayOf 24 rfl) ?_
    refine qr_lt (fun x1 => ?_)
    refine qs_istore_n (L' := [some (.inr (some 77)), some (.inl a1), some (.inl a2), some (.inl x1), none, none, none]) o (q_dm dm_X12_dayOf 25 rfl) (Nat.le_of_ble_eq_true rfl) rfl ?_
    refine qr_aload_n o (q_dm dm_X12_dayOf 26 rfl) rfl ?_
    refine qr_getr (kf := 0) o cf_X12 (sh77 j r) rfl (Nat.le_of_ble_eq_true rfl) fl_X12_7 (q_dm dm_X12_dayOf 27 rfl) ?_
    refine qr_sipush o (q_dm dm_X12_dayOf 28 rfl) si_314 ?_
    refine qr_iload_n o (q_dm dm_X12_dayOf 29 rfl) rfl ?_
    refine qr_iadd o (q_dm dm_X12_dayOf 30 rfl) ?_
    refine qr_iald o (sh78 j r) (q_dm dm_X12_dayOf 31 rfl) ?_
    refine qr_lt (fun x2 => ?_)
    refine qs_istore (L' := [some (.inr (some 77)), some (.inl a1), some (.inl a2), some (.inl x1), some (.inl x2), none, none]) o (q_dm dm_X12_dayOf 32 rfl) (Nat.le_of_ble_eq_true rfl) rfl ?_
    refine qr_aload_n o (q_dm dm_X12_dayOf 33 rfl) rfl ?_
    refine qr_getr (kf := 0) o cf_X12 (sh77 j r) rfl (Nat.le_of_ble_eq_true rfl) fl_X12_7 (q_dm dm_X12_dayOf 34 rfl) ?_
    refine qr_sipush o (q_dm dm_X12_dayOf 35 rfl) si_634 ?_
    refine qr_iload_n o (q_dm dm_X12_dayOf 36 rfl) rfl ?_
    refine qr_iadd o (q_dm dm_X12_dayOf 37 rfl) ?_
    refine qr_iald o (sh78 j r) (q_dm dm_X12_dayOf 38 rfl) ?_
    refine qr_lt (fun x3 => ?_)
    refine qs_istore (L' := [some (.inr (some 77)), some (.inl a1), some (.inl a2), some (.inl x1), some (.inl x2), some (.inl x3), none]) o (q_dm dm_X12_dayOf 39 rfl) (Nat.le_of_ble_eq_true rfl) rfl ?_
    refine qr_aload_n o (q_dm dm_X12_dayOf 40 rfl) rfl ?_
    refine qr_iload o (q_dm dm_X12_dayOf 41 rfl) rfl ?_
    refine qr_callv_i (As := [.inl x2]) (S := []) o (a_X12_isKind g k.2.1 n j r hj hr x2 M) (Nat.le_of_ble_eq_true rfl) zv_X12_isKind rfl cf_X12 (sh77 j r) ml_X12_157 (Nat.le_of_ble_eq_true rfl) (q_dm dm_X12_dayOf 42 rfl) (fun r4 m5 => ?_)
    refine qr_if_eq (tgt := 101) o (q_dm dm_X12_dayOf 43 rfl) (by decide) ?_ ?_
    · exact qr_loc (q_leS (q_leS (q_leS (q_leN (q_leS (q_leS (q_leN q_le0))))))) (w_X12_dayOf_101 n j r hj hr o K3 hK3 a1 a2 x2 x3 m5)
    · refine qr_iload o (q_dm dm_X12_dayOf 44 rfl) rfl ?_
      refine qr_iload_n o (q_dm dm_X12_dayOf 45 rfl) rfl ?_
      refine qr_icmp_eq (tgt := 101) o (q_dm dm_X12_dayOf 46 rfl) (by decide) ?_ ?_
      · exact qr_loc (q_leS (q_leS (q_leS (q_leN (q_leS (q_leS (q_leN q_le0))))))) (w_X12_dayOf_101 n j r hj hr o K3 hK3 a1 a2 x2 x3 m5)
      · refine qr_iload o (q_dm dm_X12_dayOf 47 rfl) rfl ?_
        refine qr_bipush o (q_dm dm_X12_dayOf 48 rfl) bi_8 ?_
        refine qr_icmp_eq (tgt := 97) o (q_dm dm_X12_dayOf 49 rfl) (by decide) ?_ ?_
        · refine qr_iconst o (q_dm dm_X12_dayOf 54 rfl) ic_1 ?_
          refine qr_goto (tgt := 102) o (q_dm dm_X12_dayOf 55 rfl) (by decide) ?_
          exact qr_loc (q_leS (q_leS (q_leS (q_leN (q_leS (q_leS (q_leN q_le0))))))) (w_X12_dayOf_102 n j r hj hr o K3 hK3 a1 a2 x2 x3 (1 : Int32) m5)
        · refine qr_aload_n o (q_dm dm_X12_dayOf 50 rfl) rfl ?_
          refine qr_iload o (q_dm dm_X12_dayOf 51 rfl) rfl ?_
          refine qr_callv_i (As := [.inl x3]) (S := []) o (a_X12_isPerson g k.2.1 n j r hj hr x3 m5) (Nat.le_of_ble_eq_true rfl) zv_X12_isPerson rfl cf_X12 (sh77 j r) ml_X12_310 (Nat.le_of_ble_eq_true rfl) (q_dm dm_X12_dayOf 52 rfl) (fun r6 m7 => ?_)
          refine qr_if_eq (tgt := 101) o (q_dm dm_X12_dayOf 53 rfl) (by decide) ?_ ?_
          · exact qr_loc (q_leS (q_leS (q_leS (q_leN (q_leS (q_leS (q_leN q_le0))))))) (w_X12_dayOf_101 n j r hj hr o K3 hK3 a1 a2 x2 x3 m7)
          · refine qr_iconst o (q_dm dm_X12_dayOf 54 rfl) ic_1 ?_
            refine qr_goto (tgt := 102) o (q_dm dm_X12_dayOf 55 rfl) (by decide) ?_
            exact qr_loc (q_leS (q_leS (q_leS (q_leN (q_leS (q_leS (q_leN q_le0))))))) (w_X12_dayOf_102 n j r hj hr o K3 hK3 a1 a2 x2 x3 (1 : Int32) m7)

def f_X12_dayOf_3 (n : Nat) : Nat → Int32 → Int32 → qM → qR
  | 0, _, _, _ => none
  | m + 1, a1, a2, M => b_X12_dayOf_3 n (f_X12_dayOf_3 n m) a1 a2 M
theorem w_X12_dayOf_3 {g : qG} {k : qK} (n : Nat) (j r : Nat) (hj : q_isLaw j) (hr : q_isLaw r) (o : qOk g 5 zX12_dayOf k) : ∀ (m : Nat) (a1 a2 : Int32) (M : qM), qAE g k zX12_dayOf (qL j r) 3 [some (.inr (some 77)), some (.inl a1), some (.inl a2), none, none, none, none] [] (qL j r, M) (f_X12_dayOf_3 n m a1 a2 M) := by
  intro m
  induction m with
  | zero =>
    intro a1 a2 M
    exact qr_none
  | succ m ih =>
    intro a1 a2 M
    exact wb_X12_dayOf_3 n j r hj hr o (f_X12_dayOf_3 n m) ih a1 a2 M
def f_X12_dayOf (n : Nat) (a1 : Int32) (M : qM) : qR :=
  f_X12_dayOf_3 n n a1 (12 : Int32) M
set_option maxRecDepth 4000 in
theorem w_X12_dayOf {g : qG} {k : qK} (n : Nat) (j r : Nat) (hj : q_isLaw j) (hr : q_isLaw r) (o : qOk g 5 zX12_dayOf k) (a1 : Int32) (M : qM) : qAE g k zX12_dayOf (qL j r) 0 [some (.inr (some 77)), some (.inl a1), none, none, none, none, none] [] (qL j r, M) (f_X12_dayOf n a1 M) := by
  unfold f_X12_dayOf
  refine qr_bipush o (q_dm dm_X12_dayOf 0 rfl) bi_12 ?_
  refine qs_istore_n (L' := [some (.inr (some 77)), some (.inl a1), some (.inl (12 : Int32)), none, none, none, none]) o (q_dm dm_X12_dayOf 1 rfl) (Nat.le_of_ble_eq_true rfl) rfl ?_
  exact qr_loc (q_leS (q_leS (q_leS (q_leN (q_leN (q_leN (q_leN q_le0))))))) (w_X12_dayOf_3 n j r hj hr o n a1 (12 : Int32) M)

theorem a_X12_dayOf (g : qG) (l : Launch) (n : Nat) (j r : Nat) (hj : q_isLaw j) (hr : q_isLaw r) (a1 : Int32) (M : qM) : qAM g l 5 zX12_dayOf (qL j r) [.inr (some 77), .inl a1] (qL j r, M) (f_X12_dayOf n a1 M) :=
  qAM.of zv_X12_dayOf.1 (by show 2 ≤ 7; decide) (fun k hk o => w_X12_dayOf n j r hj hr o a1 M)

