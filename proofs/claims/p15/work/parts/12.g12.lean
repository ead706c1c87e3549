def tb_X12_begins : List (Nat × Instr × Nat) := [(0, (.iload_n 1, 1)), (1, (.istore_n 2, 1)), (2, (.aload_n 0, 1)), (3, (.getfield 454, 3)), (6, (.iconst 1, 1)), (7, (.isub, 1)), (8, (.istore_n 3, 1)), (9, (.iload_n 3, 1)), (10, (.ifCond .lt 22, 3)), (13, (.aload_n 0, 1)), (14, (.getfield 133, 3)), (17, (.iload_n 3, 1)), (18, (.iload_n 2, 1)), (19, (.iconst 4, 1)), (20, (.irem, 1)), (21, (.iastore, 1)), (22, (.iload_n 2, 1)), (23, (.iconst 4, 1)), (24, (.idiv, 1)), (25, (.istore_n 2, 1)), (26, (.iinc 3 (-1), 3)), (29, (.goto (-20), 3)), (32, (.return_, 1))]
theorem dm_X12_begins : ∀ q ∈ tb_X12_begins, decode zX12_begins.2.1 q.1 = .ok q.2 := by decide +kernel
def b_X12_begins_9 (n : Nat) (K9 : Int32 → Int32 → qM → qR) (a2 a3 : Int32) (M : qM) : qR :=
  (if a3 < (0 : Int32) then some (0, M) else qg a3 4 (qlm (mu M 118 a3.toNatClampNeg (a2 - a2 / (4 : Int32) * (4 : Int32))) (fun m1 => ql (a2 / (4 : Int32)) (fun x2 => ql (a3 + (-1 : Int32)) (fun x3 => K9 x2 x3 m1)))))
set_option maxRecDepth 4000 in
theorem wb_X12_begins_9 {g : qG} {k : qK} (n : Nat) (j r : Nat) (hj : q_isLaw j) (hr : q_isLaw r) (o : qOk g 0 zX12_begins k) (K9 : Int32 → Int32 → qM → qR) (hK9 : ∀ (a2 a3 : Int32) (M : qM), qAE g k zX12_begins (qL j r) 9 [some (.inr (some 77)), none, some (.inl a2), some (.inl a3)] [] (qL j r, M) (K9 a2 a3 M)) (a2 a3 : Int32) (M : qM) : qAE g k zX12_begins (qL j r) 9 [some (.inr (some 77)), none, some (.inl a2), some (.inl a3)] [] (qL j r, M) (b_X12_begins_9 n K9 a2 a3 M) := by
  unfold b_X12_begins_9
  refine qr_iload_n o (q_dm dm_X12_begins 7 rfl) rfl ?_
  refine qr_if_lt (tgt := 32) o (q_dm dm_X12_begins 8 rfl) (by decide) ?_ ?_
  · exact qr_vret o rfl (q_dm dm_X12_begins 22 rfl)
  · refine qr_aload_n o (q_dm dm_X12_begins 9 rfl) rfl ?_
    refine qr_getr (kf := 64) o cf_X12 (sh77 j r) rfl (Nat.le_of_ble_eq_true rfl) fl_X12_133 (q_dm dm_X12_begins 10 rfl) ?_
    refine qr_iload_n o (q_dm dm_X12_begins 11 rfl) rfl ?_
    refine qr_iload_n o (q_dm dm_X12_begins 12 rfl) rfl ?_
    refine qr_iconst o (q_dm dm_X12_begins 13 rfl) ic_4 ?_
    refine qr_iremc o (q_dm dm_X12_begins 14 rfl) (by decide) ?_
    refine qr_iast o (sh118 j r) (q_dm dm_X12_begins 15 rfl) ?_
    refine qr_letm (fun m1 => ?_)
    refine qr_iload_n o (q_dm dm_X12_begins 16 rfl) rfl ?_
    refine qr_iconst o (q_dm dm_X12_begins 17 rfl) ic_4 ?_
    refine qr_idivc o (q_dm dm_X12_begins 18 rfl) (by decide) ?_
    refine qr_lt (fun x2 => ?_)
    refine qs_istore_n (L' := [some (.inr (some 77)), none, some (.inl x2), some (.inl a3)]) o (q_dm dm_X12_begins 19 rfl) (Nat.le_of_ble_eq_true rfl) rfl ?_
    refine qs_iincl2 (L' := fun x3 => [some (.inr (some 77)), none, some (.inl x2), some (.inl x3)]) o (q_dm dm_X12_begins 20 rfl) rfl ic_m1 (Nat.le_of_ble_eq_true rfl) (fun _ => rfl) (fun x3 => ?_)
    refine qr_goto (tgt := 9) o (q_dm dm_X12_begins 21 rfl) (by decide) ?_
    exact qr_loc (q_leS (q_leN (q_leS (q_leS q_le0)))) (hK9 x2 x3 m1)

def f_X12_begins_9 (n : Nat) : Nat → Int32 → Int32 → qM → qR
  | 0, _, _, _ => none
  | m + 1, a2, a3, M => b_X12_begins_9 n (f_X12_begins_9 n m) a2 a3 M
theorem w_X12_begins_9 {g : qG} {k : qK} (n : Nat) (j r : Nat) (hj : q_isLaw j) (hr : q_isLaw r) (o : qOk g 0 zX12_begins k) : ∀ (m : Nat) (a2 a3 : Int32) (M : qM), qAE g k zX12_begins (qL j r) 9 [some (.inr (some 77)), none, some (.inl a2), some (.inl a3)] [] (qL j r, M) (f_X12_begins_9 n m a2 a3 M) := by
  intro m
  induction m with
  | zero =>
    intro a2 a3 M
    exact qr_none
  | succ m ih =>
    intro a2 a3 M
    exact wb_X12_begins_9 n j r hj hr o (f_X12_begins_9 n m) ih a2 a3 M
def f_X12_begins (n : Nat) (a1 : Int32) (M : qM) : qR :=
  ql ((M 77 61) - (1 : Int32)) (fun x1 => f_X12_begins_9 n n a1 x1 M)
set_option maxRecDepth 4000 in
theorem w_X12_begins {g : qG} {k : qK} (n : Nat) (j r : Nat) (hj : q_isLaw j) (hr : q_isLaw r) (o : qOk g 0 zX12_begins k) (a1 : Int32) (M : qM) : qAE g k zX12_begins (qL j r) 0 [some (.inr (some 77)), some (.inl a1), none, none] [] (qL j r, M) (f_X12_begins n a1 M) := by
  unfold f_X12_begins
  refine qr_iload_n o (q_dm dm_X12_begins 0 rfl) rfl ?_
  refine qs_istore_n (L' := [some (.inr (some 77)), some (.inl a1), some (.inl a1), none]) o (q_dm dm_X12_begins 1 rfl) (Nat.le_of_ble_eq_true rfl) rfl ?_
  refine qr_aload_n o (q_dm dm_X12_begins 2 rfl) rfl ?_
  refine qr_getf (kf := 61) o cf_X12 (sh77 j r) rfl (Nat.le_of_ble_eq_true rfl) fl_X12_454 (q_dm dm_X12_begins 3 rfl) ?_
  refine qr_iconst o (q_dm dm_X12_begins 4 rfl) ic_1 ?_
  refine qr_isub o (q_dm dm_X12_begins 5 rfl) ?_
  refine qr_lt (fun x1 => ?_)
  refine qs_istore_n (L' := [some (.inr (some 77)), some (.inl a1), some (.inl a1), some (.inl x1)]) o (q_dm dm_X12_begins 6 rfl) (Nat.le_of_ble_eq_true rfl) rfl ?_
  exact qr_loc (q_leS (q_leN (q_leS (q_leS q_le0)))) (w_X12_begins_9 n j r hj hr o n a1 x1 M)

theorem a_X12_begins (g : qG) (l : Launch) (n : Nat) (j r : Nat) (hj : q_isLaw j) (hr : q_isLaw r) (a1 : Int32) (M : qM) : qAM g l 0 zX12_begins (qL j r) [.inr (some 77), .inl a1] (qL j r, M) (f_X12_begins n a1 M) :=
  qAM.of zv_X12_begins.1 (by show 2 ≤ 4; decide) (fun k hk o => w_X12_begins n j r hj hr o a1 M)
def tb_X12_byLaw : List (Nat × Instr × Nat) := [(0, (.iload_n 3, 1)), (1, (.istore 4, 2)), (3, (.iconst 0, 1)), (4, (.istore 5, 2)), (6, (.iload 5, 2)), (8, (.aload_n 0, 1)), (9, (.getfield 262, 3)), (12, (.if_icmp .ge 93, 3)), (15, (.aload_n 0, 1)), (16, (.getfield 53, 3)), (19, (.iload 5, 2)), (21, (.iaload, 1)), (22, (.iload_n 1, 1)), (23, (.if_icmp .eq 6, 3)), (26, (.goto 73, 3)), (29, (.iconst 0, 1)), (30, (.istore 4, 2)), (32, (.aload_n 0, 1)), (33, (.aload_n 0, 1)), (34, (.getfield 59, 3)), (37, (.iload 5, 2)), (39, (.iaload, 1)), (40, (.aload_n 0, 1)), (41, (.getfield 62, 3)), (44, (.iload 5, 2)), (46, (.iaload, 1)), (47, (.invokevirtual 269, 3)), (50, (.iconst 1, 1)), (51, (.if_icmp .eq 6, 3)), (54, (.goto 45, 3)), (57, (.aload_n 0, 1)), (58, (.aload_n 0, 1)), (59, (.getfield 56, 3)), (62, (.iload 5, 2)), (64, (.iaload, 1)), (65, (.aload_n 0, 1)), (66, (.getfield 59, 3)), (69, (.iload 5, 2)), (71, (.iaload, 1)), (72, (.invokevirtual 269, 3)), (75, (.istore 6, 2)), (77, (.iload 6, 2)), (79, (.ifCond .ge 7, 3)), (82, (.iconst 0, 1)), (83, (.goto 15, 3)), (86, (.iload 6, 2)), (88, (.iload_n 2, 1)), (89, (.if_icmp .le 7, 3)), (92, (.iload_n 2, 1)), (93, (.goto 5, 3)), (96, (.iload 6, 2)), (98, (.ireturn, 1)), (99, (.iinc 5 1, 3)), (102, (.goto (-96), 3)), (105, (.iload 4, 2)), (107, (.ireturn, 1))]
theorem dm_X12_byLaw : ∀ q ∈ tb_X12_byLaw, decode zX12_byLaw.2.1 q.1 = .ok q.2 := by decide +kernel
def b_X12_byLaw_6 (n : Nat) (K6 : Int32 → Int32 → Int32 → Int32 → qM → qR) (a1 a2 a4 a5 : Int32) (M : qM) : qR :=
  (if (M 77 17) ≤ a5 then some (a4, M) else qg a5 16 ((if (M 92 a5.toNatClampNeg) = a1 then qg a5 16 (qg a5 16 (qc (f_X12_comesTo n (M 94 a5.toNatClampNeg) (M 95 a5.toNatClampNeg) M) (fun r1 m2 => (if r1 = (1 : Int32) then qg a5 16 (qg a5 16 (qc (f_X12_comesTo n (m2 93 a5.toNatClampNeg) (m2 94 a5.toNatClampNeg) m2) (fun r3 m4 => (if (0 : Int32) ≤ r3 then (if r3 ≤ a2 then some (r3, m4) else some (a2, m4)) else some ((0 : Int32), m4))))) else ql (a5 + (1 : Int32)) (fun x5 => K6 a1 a2 (0 : Int32) x5 m2))))) else ql (a5 + (1 : Int32)) (fun x6 => K6 a1 a2 a4 x6 M))))
set_option maxRecDepth 4000 in
theorem wb_X12_byLaw_6 {g : qG} {k : qK} (n : Nat) (j r : Nat) (hj : q_isLaw j) (hr : q_isLaw r) (o : qOk g 2 zX12_byLaw k) (K6 : Int32 → Int32 → Int32 → Int32 → qM → qR) (hK6 : ∀ (a1 a2 a4 a5 : Int32) (M : qM), qAE g k zX12_byLaw (qL j r) 6 [some (.inr (some 77)), some (.inl a1), some (.inl a2), none, some (.inl a4), some (.inl a5), none] [] (qL j r, M) (K6 a1 a2 a4 a5 M)) (a1 a2 a4 a5 : Int32) (M : qM) : qAE g k zX12_byLaw (qL j r) 6 [some (.inr (some 77)), some (.inl a1), some (.inl a2), none, some (.inl a4), some (.inl a5), none] [] (qL j r, M) (b_X12_byLaw_6 n K6 a1 a2 a4 a5 M) := by
  unfold b_X12_byLaw_6
  refine qr_iload o (q_dm dm_X12_byLaw 4 rfl) rfl ?_
  refine qr_aload_n o (q_dm dm_X12_byLaw 5 rfl) rfl ?_
  refine qr_getf (kf := 17) o cf_X12 (sh77 j r) rfl (Nat.le_of_ble_eq_true rfl) fl_X12_262 (q_dm dm_X12_byLaw 6 rfl) ?_
  refine qr_icmp_ge (tgt := 105) o (q_dm dm_X12_byLaw 7 rfl) (by decide) ?_ ?_
  · refine qr_iload o (q_dm dm_X12_byLaw 54 rfl) rfl ?_
    exact qr_iret o rfl rfl (q_dm dm_X12_byLaw 55 rfl)
  · refine qr_aload_n o (q_dm dm_X12_byLaw 8 rfl) rfl ?_
    refine qr_getr (kf := 25) o cf_X12 (sh77 j r) rfl (Nat.le_of_ble_eq_true rfl) fl_X12_53 (q_dm dm_X12_byLaw 9 rfl) ?_
    refine qr_iload o (q_dm dm_X12_byLaw 10 rfl) rfl ?_
    refine qr_iald o (sh92 j r) (q_dm dm_X12_byLaw 11 rfl) ?_
    refine qr_iload_n o (q_dm dm_X12_byLaw 12 rfl) rfl ?_
    refine qr_icmp_eq (tgt := 29) o (q_dm dm_X12_byLaw 13 rfl) (by decide) ?_ ?_
    · refine qr_iconst o (q_dm dm_X12_byLaw 15 rfl) ic_0 ?_
      refine qs_istore (L' := [some (.inr (some 77)), some (.inl a1), some (.inl a2), none, some (.inl (0 : Int32)), some (.inl a5), none]) o (q_dm dm_X12_byLaw 16 rfl) (Nat.le_of_ble_eq_true rfl) rfl ?_
      refine qr_aload_n o (q_dm dm_X12_byLaw 17 rfl) rfl ?_
      refine qr_aload_n o (q_dm dm_X12_byLaw 18 rfl) rfl ?_
      refine qr_getr (kf := 27) o cf_X12 (sh77 j r) rfl (Nat.le_of_ble_eq_true rfl) fl_X12_59 (q_dm dm_X12_byLaw 19 rfl) ?_
      refine qr_iload o (q_dm dm_X12_byLaw 20 rfl) rfl ?_
      refine qr_iald o (sh94 j r) (q_dm dm_X12_byLaw 21 rfl) ?_
      refine qr_aload_n o (q_dm dm_X12_byLaw 22 rfl) rfl ?_
      refine qr_getr (kf := 28) o cf_X12 (sh77 j r) rfl (Nat.le_of_ble_eq_true rfl) fl_X12_62 (q_dm dm_X12_byLaw 23 rfl) ?_
      refine qr_iload o (q_dm dm_X12_byLaw 24 rfl) rfl ?_
      refine qr_iald o (sh95 j r) (q_dm dm_X12_byLaw 25 rfl) ?_
      refine qr_callv_i (As := [.inl (M 94 a5.toNatClampNeg), .inl (M 95 a5.toNatClampNeg)]) (S := []) o (a_X12_comesTo g k.2.1 n j r hj hr (M 94 a5.toNatClampNeg) (M 95 a5.toNatClampNeg) M) (Nat.le_of_ble_eq_true rfl) zv_X12_comesTo rfl cf_X12 (sh77 j r) ml_X12_269 (Nat.le_of_ble_eq_true rfl) (q_dm dm_X12_byLaw 26 rfl) (fun r1 m2 => ?_)
      refine qr_iconst o (q_dm dm_X12_byLaw 27 rfl) ic_1 ?_
      refine qr_icmp_eq (tgt := 57) o (q_dm dm_X12_byLaw 28 rfl) (by decide) ?_ ?_
      · refine qr_aload_n o (q_dm dm_X12_byLaw 30 rfl) rfl ?_
        refine qr_aload_n o (q_dm dm_X12_byLaw 31 rfl) rfl ?_
        refine qr_getr (kf := 26) o cf_X12 (sh77 j r) rfl (Nat.le_of_ble_eq_true rfl) fl_X12_56 (q_dm dm_X12_byLaw 32 rfl) ?_
        refine qr_iload o (q_dm dm_X12_byLaw 33 rfl) rfl ?_
        refine qr_iald o (sh93 j r) (q_dm dm_X12_byLaw 34 rfl) ?_
        refine qr_aload_n o (q_dm dm_X12_byLaw 35 rfl) rfl ?_
        refine qr_getr (kf := 27) o cf_X12 (sh77 j r) rfl (Nat.le_of_ble_eq_true rfl) fl_X12_59 (q_dm dm_X12_byLaw 36 rfl) ?_
        refine qr_iload o (q_dm dm_X12_byLaw 37 rfl) rfl ?_
        refine qr_iald o (sh94 j r) (q_dm dm_X12_byLaw 38 rfl) ?_
        refine qr_callv_i (As := [.inl (m2 93 a5.toNatClampNeg), .inl (m2 94 a5.toNatClampNeg)]) (S := []) o (a_X12_comesTo g k.2.1 n j r hj hr (m2 93 a5.toNatClampNeg) (m2 94 a5.toNatClampNeg) m2) (Nat.le_of_ble_eq_true rfl) zv_X12_comesTo rfl cf_X12 (sh77 j r) ml_X12_269 (Nat.le_of_ble_eq_true rfl) (q_dm dm_X12_byLaw 39 rfl) (fun r3 m4 => ?_)
        refine qs_istore (L' := [some (.inr (some 77)), some (.inl a1), some (.inl a2), none, some (.inl (0 : Int32)), some (.inl a5), some (.inl r3)]) o (q_dm dm_X12_byLaw 40 rfl) (Nat.le_of_ble_eq_true rfl) rfl ?_
        refine qr_iload o (q_dm dm_X12_byLaw 41 rfl) rfl ?_
        refine qr_if_ge (tgt := 86) o (q_dm dm_X12_byLaw 42 rfl) (by decide) ?_ ?_
        · refine qr_iload o (q_dm dm_X12_byLaw 45 rfl) rfl ?_
          refine qr_iload_n o (q_dm dm_X12_byLaw 46 rfl) rfl ?_
          refine qr_icmp_le (tgt := 96) o (q_dm dm_X12_byLaw 47 rfl) (by decide) ?_ ?_
          · refine qr_iload o (q_dm dm_X12_byLaw 50 rfl) rfl ?_
            exact qr_iret o rfl rfl (q_dm dm_X12_byLaw 51 rfl)
          · refine qr_iload_n o (q_dm dm_X12_byLaw 48 rfl) rfl ?_
            refine qr_goto (tgt := 98) o (q_dm dm_X12_byLaw 49 rfl) (by decide) ?_
            exact qr_iret o rfl rfl (q_dm dm_X12_byLaw 51 rfl)
        · refine qr_iconst o (q_dm dm_X12_byLaw 43 rfl) ic_0 ?_
          refine qr_goto (tgt := 98) o (q_dm dm_X12_byLaw 44 rfl) (by decide) ?_
          exact qr_iret o rfl rfl (q_dm dm_X12_byLaw 51 rfl)
      · refine qr_goto (tgt := 99) o (q_dm dm_X12_byLaw 29 rfl) (by decide) ?_
        refine qs_iincl2 (L' := fun x5 => [some (.inr (some 77)), some (.inl a1), some (.inl a2), none, some (.inl (0 : Int32)), some (.inl x5), none]) o (q_dm dm_X12_byLaw 52 rfl) rfl ic_1 (Nat.le_of_ble_eq_true rfl) (fun _ => rfl) (fun x5 => ?_)
        refine qr_goto (tgt := 6) o (q_dm dm_X12_byLaw 53 rfl) (by decide) ?_
        exact qr_loc (q_leS (q_leS (q_leS (q_leN (q_leS (q_leS (q_leN q_le0))))))) (hK6 a1 a2 (0 : Int32) x5 m2)
    · refine qr_goto (tgt := 99) o (q_dm dm_X12_byLaw 14 rfl) (by decide) ?_
      refine qs_iincl2 (L' := fun x6 => [some (.inr (some 77)), some (.inl a1), some (.inl a2), none, some (.inl a4), some (.inl x6), none]) o (q_dm dm_X12_byLaw 52 rfl) rfl ic_1 (Nat.le_of_ble_eq_true rfl) (fun _ => rfl) (fun x6 => ?_)
      refine qr_goto (tgt := 6) o (q_dm dm_X12_byLaw 53 rfl) (by decide) ?_
      exact qr_loc (q_leS (q_leS (q_leS (q_leN (q_leS (q_leS (q_leN q_le0))))))) (hK6 a1 a2 a4 x6 M)

def f_X12_byLaw_6 (n : Nat) : Nat → Int32 → Int32 → Int32 → Int32 → qM → qR
  | 0, _, _, _, _, _ => none
  | m + 1, a1, a2, a4, a5, M => b_X12_byLaw_6 n (f_X12_byLaw_6 n m) a1 a2 a4 a5 M
theorem w_X12_byLaw_6 {g : qG} {k : qK} (n : Nat) (j r : Nat) (hj : q_isLaw j) (hr : q_isLaw r) (o : qOk g 2 zX12_byLaw k) : ∀ (m : Nat) (a1 a2 a4 a5 : Int32) (M : qM), qAE g k zX12_byLaw (qL j r) 6 [some (.inr (some 77)), some (.inl a1), some (.inl a2), none, some (.inl a4), some (.inl a5), none] [] (qL j r, M) (f_X12_byLaw_6 n m a1 a2 a4 a5 M) := by
  intro m
  induction m with
  | zero =>
    intro a1 a2 a4 a5 M
    exact qr_none
  | succ m ih =>
    intro a1 a2 a4 a5 M
    exact wb_X12_byLaw_6 n j r hj hr o (f_X12_byLaw_6 n m) ih a1 a2 a4 a5 M
def f_X12_byLaw (n : Nat) (a1 a2 a3 : Int32) (M : qM) : qR :=
  f_X12_byLaw_6 n n a1 a2 a3 (0 : Int32) M
set_option maxRecDepth 4000 in
theorem w_X12_byLaw {g : qG} {k : qK} (n : Nat) (j r : Nat) (hj : q_isLaw j) (hr : q_isLaw r) (o : qOk g 2 zX12_byLaw k) (a1 a2 a3 : Int32) (M : qM) : qAE g k zX12_byLaw (qL j r) 0 [some (.inr (some 77)), some (.inl a1), some (.inl a2), some (.inl a3), none, none, none] [] (qL j r, M) (f_X12_byLaw n a1 a2 a3 M) := by
  unfold f_X12_byLaw
  refine qr_iload_n o (q_dm dm_X12_byLaw 0 rfl) rfl ?_
  refine qs_istore (L' := [some (.inr (some 77)), some (.inl a1), some (.inl a2), some (.inl a3), some (.inl a3), none, none]) o (q_dm dm_X12_byLaw 1 rfl) (Nat.le_of_ble_eq_true rfl) rfl ?_
  refine qr_iconst o (q_dm dm_X12_byLaw 2 rfl) ic_0 ?_
  refine qs_istore (L' := [some (.inr (some 77)), some (.inl a1), some (.inl a2), some (.inl a3), some (.inl a3), some (.inl (0 : Int32)), none]) o (q_dm dm_X12_byLaw 3 rfl) (Nat.le_of_ble_eq_true rfl) rfl ?_
  exact qr_loc (q_leS (q_leS (q_leS (q_leN (q_leS (q_leS (q_leN q_le0))))))) (w_X12_byLaw_6 n j r hj hr o n a1 a2 a3 (0 : Int32) M)

theorem a_X12_byLaw (g : qG) (l : Launch) (n : Nat) (j r : Nat) (hj : q_isLaw j) (hr : q_isLaw r) (a1 a2 a3 : Int32) (M : qM) : qAM g l 2 zX12_byLaw (qL j r) [.inr (some 77), .inl a1, .inl a2, .inl a3] (qL j r, M) (f_X12_byLaw n a1 a2 a3 M) :=
  qAM.of zv_X12_byLaw.1 (by show 4 ≤ 7; decide) (fun k hk o => w_X12_byLaw n j r hj hr o a1 a2 a3 M)
def tb_X12_feels : List (Nat × Instr × Nat) := [(0, (.aload_n 0, 1)), (1, (.iload_n 2, 1)), (2, (.invokevirtual 273, 3)), (5, (.aload_n 0, 1)), (6, (.getfield 68, 3)), (9, (.bipush 7, 2)), (11, (.iload_n 1, 1)), (12, (.iastore, 1)), (13, (.aload_n 0, 1)), (14, (.getfield 68, 3)), (17, (.bipush 8, 2)), (19, (.iload_n 3, 1)), (20, (.iastore, 1)), (21, (.aload_n 0, 1)), (22, (.getfield 68, 3)), (25, (.bipush 9, 2)), (27, (.aload_n 0, 1)), (28, (.getfield 7, 3)), (31, (.iconst 0, 1)), (32, (.iload_n 1, 1)), (33, (.iload_n 2, 1)), (34, (.invokestatic 282, 3)), (37, (.iadd, 1)), (38, (.iaload, 1)), (39, (.iastore, 1)), (40, (.aload_n 0, 1)), (41, (.getfield 68, 3)), (44, (.bipush 10, 2)), (46, (.aload_n 0, 1)), (47, (.iload_n 2, 1)), (48, (.invokevirtual 285, 3)), (51, (.iastore, 1)), (52, (.aload_n 0, 1)), (53, (.getfield 68, 3)), (56, (.bipush 11, 2)), (58, (.aload_n 0, 1)), (59, (.getfield 7, 3)), (62, (.sipush 192, 3)), (65, (.iload_n 1, 1)), (66, (.iload_n 2, 1)), (67, (.invokestatic 282, 3)), (70, (.iadd, 1)), (71, (.iaload, 1)), (72, (.iastore, 1)), (73, (.return_, 1))]
theorem dm_X12_feels : ∀ q ∈ tb_X12_feels, decode zX12_feels.2.1 q.1 = .ok q.2 := by decide +kernel
def f_X12_feels (n : Nat) (a1 a2 a3 : Int32) (M : qM) : qR :=
  qc (f_X12_feelsKind n a2 M) (fun _ m1 => qlm (mu m1 97 7 a1) (fun m2 => qlm (mu m2 97 8 a3) (fun m3 => qc (f_X12_at n a1 a2 m3) (fun r4 m5 => qg ((0 : Int32) + r4) 954 (qlm (mu m5 97 9 (m5 78 ((0 : Int32) + r4).toNatClampNeg)) (fun m6 => qc (f_X12_allTries n a2 m6) (fun r7 m8 => qlm (mu m8 97 10 r7) (fun m9 => qc (f_X12_at n a1 a2 m9) (fun r10 m11 => qg ((192 : Int32) + r10) 954 (qlm (mu m11 97 11 (m11 78 ((192 : Int32) + r10).toNatClampNeg)) (fun m12 => some (0, m12))))))))))))
set_option maxRecDepth 4000 in
theorem w_X12_feels {g : qG} {k : qK} (n : Nat) (j r : Nat) (hj : q_isLaw j) (hr : q_isLaw r) (o : qOk g 2 zX12_feels k) (a1 a2 a3 : Int32) (M : qM) : qAE g k zX12_feels (qL j r) 0 [some (.inr (some 77)), some (.inl a1), some (.inl a2), some (.inl a3)] [] (qL j r, M) (f_X12_feels n a1 a2 a3 M) := by
  unfold f_X12_feels
  refine qr_aload_n o (q_dm dm_X12_feels 0 rfl) rfl ?_
  refine qr_iload_n o (q_dm dm_X12_feels 1 rfl) rfl ?_
  refine qr_callv_v (As := [.inl a2]) (S := []) o (a_X12_feelsKind g k.2.1 n j r hj hr a2 M) (Nat.le_of_ble_eq_true rfl) zv_X12_feelsKind rfl cf_X12 (sh77 j r) ml_X12_273 (Nat.le_of_ble_eq_true rfl) (q_dm dm_X12_feels 2 rfl) (fun _ m1 => ?_)
  refine qr_aload_n o (q_dm dm_X12_feels 3 rfl) rfl ?_
  refine qr_getr (kf := 30) o cf_X12 (sh77 j r) rfl (Nat.le_of_ble_eq_true rfl) fl_X12_68 (q_dm dm_X12_feels 4 rfl) ?_
  refine qr_bipush o (q_dm dm_X12_feels 5 rfl) bi_7 ?_
  refine qr_iload_n o (q_dm dm_X12_feels 6 rfl) rfl ?_
  refine qr_iast0 (c := 7) o (sh97 j r) (by decide) (by decide) (q_dm dm_X12_feels 7 rfl) ?_
  refine qr_letm (fun m2 => ?_)
  refine qr_aload_n o (q_dm dm_X12_feels 8 rfl) rfl ?_
  refine qr_getr (kf := 30) o cf_X12 (sh77 j r) rfl (Nat.le_of_ble_eq_true rfl) fl_X12_68 (q_dm dm_X12_feels 9 rfl) ?_
  refine qr_bipush o (q_dm dm_X12_feels 10 rfl) bi_8 ?_
  refine qr_iload_n o (q_dm dm_X12_feels 11 rfl) rfl ?_
  refine qr_iast0 (c := 8) o (sh97 j r) (by decide) (by decide) (q_dm dm_X12_feels 12 rfl) ?_
  refine qr_letm (fun m3 => ?_)
  refine qr_aload_n o (q_dm dm_X12_feels 13 rfl) rfl ?_
  refine qr_getr (kf := 30) o cf_X12 (sh77 j r) rfl (Nat.le_of_ble_eq_true rfl) fl_X12_68 (q_dm dm_X12_feels 14 rfl) ?_
  refine qr_bipush o (q_dm dm_X12_feels 15 rfl) bi_9 ?_
  refine qr_aload_n o (q_dm dm_X12_feels 16 rfl) rfl ?_
  refine qr_getr (kf := 0) o cf_X12 (sh77 j r) rfl (Nat.le_of_ble_eq_true rfl) fl_X12_7 (q_dm dm_X12_feels 17 rfl) ?_
  refine qr_iconst o (q_dm dm_X12_feels 18 rfl) ic_0 ?_
  refine qr_iload_n o (q_dm dm_X12_feels 19 rfl) rfl ?_
  refine qr_iload_n o (q_dm dm_X12_feels 20 rfl) rfl ?_
  refine qr_calls_i (As := [.inl a1, .inl a2]) (S := [.inl (0 : Int32), .inr (some 78), .inl (9 : Int32), .inr (some 97)]) o (a_X12_at g k.2.1 n j r hj hr a1 a2 m3) (Nat.le_of_ble_eq_true rfl) zs_X12_at rfl ml_X12_282 (Nat.le_of_ble_eq_true rfl) (q_dm dm_X12_feels 21 rfl) (fun r4 m5 => ?_)
  refine qr_iadd o (q_dm dm_X12_feels 22 rfl) ?_
  refine qr_iald o (sh78 j r) (q_dm dm_X12_feels 23 rfl) ?_
  refine qr_iast0 (c := 9) o (sh97 j r) (by decide) (by decide) (q_dm dm_X12_feels 24 rfl) ?_
  refine qr_letm (fun m6 => ?_)
  refine qr_aload_n o (q_dm dm_X12_feels 25 rfl) rfl ?_
  refine qr_getr (kf := 30) o cf_X12 (sh77 j r) rfl (Nat.le_of_ble_eq_true rfl) fl_X12_68 (q_dm dm_X12_feels 26 rfl) ?_
  refine qr_bipush o (q_dm dm_X12_feels 27 rfl) bi_10 ?_
  refine qr_aload_n o (q_dm dm_X12_feels 28 rfl) rfl ?_
  refine qr_iload_n o (q_dm dm_X12_feels 29 rfl) rfl ?_
  refine qr_callv_i (As := [.inl a2]) (S := [.inl (10 : Int32), .inr (some 97)]) o (a_X12_allTries g k.2.1 n j r hj hr a2 m6) (Nat.le_of_ble_eq_true rfl) zv_X12_allTries rfl cf_X12 (sh77 j r) ml_X12_285 (Nat.le_of_ble_eq_true rfl) (q_dm dm_X12_feels 30 rfl) (fun r7 m8 => ?_)
  refine qr_iast0 (c := 10) o (sh97 j r) (by decide) (by decide) (q_dm dm_X12_feels 31 rfl) ?_
  refine qr_letm (fun m9 => ?_)
  refine qr_aload_n o (q_dm dm_X12_feels 32 rfl) rfl ?_
  refine qr_getr (kf := 30) o cf_X12 (sh77 j r) rfl (Nat.le_of_ble_eq_true rfl) fl_X12_68 (q_dm dm_X12_feels 33 rfl) ?_
  refine qr_bipush o (q_dm dm_X12_feels 34 rfl) bi_11 ?_
  refine qr_aload_n o (q_dm dm_X12_feels 35 rfl) rfl ?_
  refine qr_getr (kf := 0) o cf_X12 (sh77 j r) rfl (Nat.le_of_ble_eq_true rfl) fl_X12_7 (q_dm dm_X12_feels 36 rfl) ?_
  refine qr_sipush o (q_dm dm_X12_feels 37 rfl) si_192 ?_
  refine qr_iload_n o (q_dm dm_X12_feels 38 rfl) rfl ?_
  refine qr_iload_n o (q_dm dm_X12_feels 39 rfl) rfl ?_
  refine qr_calls_i (As := [.inl a1, .inl a2]) (S := [.inl (192 : Int32), .inr (some 78), .inl (11 : Int32), .inr (some 97)]) o (a_X12_at g k.2.1 n j r hj hr a1 a2 m9) (Nat.le_of_ble_eq_true rfl) zs_X12_at rfl ml_X12_282 (Nat.le_of_ble_eq_true rfl) (q_dm dm_X12_feels 40 rfl) (fun r10 m11 => ?_)
  refine qr_iadd o (q_dm dm_X12_feels 41 rfl) ?_
  refine qr_iald o (sh78 j r) (q_dm dm_X12_feels 42 rfl) ?_
  refine qr_iast0 (c := 11) o (sh97 j r) (by decide) (by decide) (q_dm dm_X12_feels 43 rfl) ?_
  refine qr_letm (fun m12 => ?_)
  exact qr_vret o rfl (q_dm dm_X12_feels 44 rfl)

theorem a_X12_feels (g : qG) (l : Launch) (n : Nat) (j r : Nat) (hj : q_isLaw j) (hr : q_isLaw r) (a1 a2 a3 : Int32) (M : qM) : qAM g l 2 zX12_feels (qL j r) [.inr (some 77), .inl a1, .inl a2, .inl a3] (qL j r, M) (f_X12_feels n a1 a2 a3 M) :=
  qAM.of zv_X12_feels.1 (by show 4 ≤ 4; decide) (fun k hk o => w_X12_feels n j r hj hr o a1 a2 a3 M)
def tb_X12_costOf : List (Nat × Instr × Nat) := [(0, (.aload_n 0, 1)), (1, (.iload_n 1, 1)), (2, (.iload_n 2, 1)), (3, (.iload_n 3, 1)), (4, (.invokevirtual 288, 3)), (7, (.aload_n 0, 1)), (8, (.bipush 99, 2)), (10, (.sipush 999, 3)), (13, (.iconst 0, 1)), (14, (.invokevirtual 292, 3)), (17, (.ireturn, 1))]
theorem dm_X12_costOf : ∀ q ∈ tb_X12_costOf, decode zX12_costOf.2.1 q.1 = .ok q.2 := by decide +kernel
def f_X12_costOf (n : Nat) (a1 a2 a3 : Int32) (M : qM) : qR :=
  qc (f_X12_feels n a1 a2 a3 M) (fun _ m1 => qc (f_X12_byLaw n (99 : Int32) (999 : Int32) (0 : Int32) m1) (fun r2 m3 => some (r2, m3)))
set_option maxRecDepth 4000 in
theorem w_X12_costOf {g : qG} {k : qK} (n : Nat) (j r : Nat) (hj : q_isLaw j) (hr : q_isLaw r) (o : qOk g 3 zX12_costOf k) (a1 a2 a3 : Int32) (M : qM) : qAE g k zX12_costOf (qL j r) 0 [some (.inr (some 77)), some (.inl a1), some (.inl a2), some (.inl a3)] [] (qL j r, M) (f_X12_costOf n a1 a2 a3 M) := by
  unfold f_X12_costOf
  refine qr_aload_n o (q_dm dm_X12_costOf 0 rfl) rfl ?_
  refine qr_iload_n o (q_dm dm_X12_costOf 1 rfl) rfl ?_
  refine qr_iload_n o (q_dm dm_X12_costOf 2 rfl) rfl ?_
  refine qr_iload_n o (q_dm dm_X12_costOf 3 rfl) rfl ?_
  refine qr_callv_v (As := [.inl a1, .inl a2, .inl a3]) (S := []) o (a_X12_feels g k.2.1 n j r hj hr a1 a2 a3 M) (Nat.le_of_ble_eq_true rfl) zv_X12_feels rfl cf_X12 (sh77 j r) ml_X12_288 (Nat.le_of_ble_eq_true rfl) (q_dm dm_X12_costOf 4 rfl) (fun _ m1 => ?_)
  refine qr_aload_n o (q_dm dm_X12_costOf 5 rfl) rfl ?_
  refine qr_bipush o (q_dm dm_X12_costOf 6 rfl) bi_99 ?_
  refine qr_sipush o (q_dm dm_X12_costOf 7 rfl) si_999 ?_
  refine qr_iconst o (q_dm dm_X12_costOf 8 rfl) ic_0 ?_
  refine qr_callv_i (As := [.inl (99 : Int32), .inl (999 : Int32), .inl (0 : Int32)]) (S := []) o (a_X12_byLaw g k.2.1 n j r hj hr (99 : Int32) (999 : Int32) (0 : Int32) m1) (Nat.le_of_ble_eq_true rfl) zv_X12_byLaw rfl cf_X12 (sh77 j r) ml_X12_292 (Nat.le_of_ble_eq_true rfl) (q_dm dm_X12_costOf 9 rfl) (fun r2 m3 => ?_)
  exact qr_iret o rfl rfl (q_dm dm_X12_costOf 10 rfl)

theorem a_X12_costOf (g : qG) (l : Launch) (n : Nat) (j r : Nat) (hj : q_isLaw j) (hr : q_isLaw r) (a1 a2 a3 : Int32) (M : qM) : qAM g l 3 zX12_costOf (qL j r) [.inr (some 77), .inl a1, .inl a2, .inl a3] (qL j r, M) (f_X12_costOf n a1 a2 a3 M) :=
  qAM.of zv_X12_costOf.1 (by show 4 ≤ 4; decide) (fun k hk o => w_X12_costOf n j r hj hr o a1 a2 a3 M)
def tb_X12_min : List (Nat × Instr × Nat) := [(0, (.iload_n 0, 1)), (1, (.iload_n 1, 1)), (2, (.if_icmp .ge 7, 3)), (5, (.iload_n 0, 1)), (6, (.goto 4, 3)), (9, (.iload_n 1, 1)), (10, (.ireturn, 1))]
theorem dm_X12_min : ∀ q ∈ tb_X12_min, decode zX12_min.2.1 q.1 = .ok q.2 := by decide +kernel
def f_X12_min (n : Nat) (a0 a1 : Int32) (M : qM) : qR :=
  (if a1 ≤ a0 then some (a1, M) else some (a0, M))
set_option maxRecDepth 4000 in
theorem w_X12_min {g : qG} {k : qK} (n : Nat) (j r : Nat) (hj : q_isLaw j) (hr : q_isLaw r) (o : qOk g 0 zX12_min k) (a0 a1 : Int32) (M : qM) : qAE g k zX12_min (qL j r) 0 [some (.inl a0), some (.inl a1)] [] (qL j r, M) (f_X12_min n a0 a1 M) := by
  unfold f_X12_min
  refine qr_iload_n o (q_dm dm_X12_min 0 rfl) rfl ?_
  refine qr_iload_n o (q_dm dm_X12_min 1 rfl) rfl ?_
  refine qr_icmp_ge (tgt := 9) o (q_dm dm_X12_min 2 rfl) (by decide) ?_ ?_
  · refine qr_iload_n o (q_dm dm_X12_min 5 rfl) rfl ?_
    exact qr_iret o rfl rfl (q_dm dm_X12_min 6 rfl)
  · refine qr_iload_n o (q_dm dm_X12_min 3 rfl) rfl ?_
    refine qr_goto (tgt := 10) o (q_dm dm_X12_min 4 rfl) (by decide) ?_
    exact qr_iret o rfl rfl (q_dm dm_X12_min 6 rfl)

theorem a_X12_min (g : qG) (l : Launch) (n : Nat) (j r : Nat) (hj : q_isLaw j) (hr : q_isLaw r) (a0 a1 : Int32) (M : qM) : qAM g l 0 zX12_min (qL j r) [.inl a0, .inl a1] (qL j r, M) (f_X12_min n a0 a1 M) :=
  qAM.of zs_X12_min.1 (by show 2 ≤ 2; decide) (fun k hk o => w_X12_min n j r hj hr o a0 a1 M)
def tb_X12_buys : List (Nat × Instr × Nat) := [(0, (.aload_n 0, 1)), (1, (.iload_n 1, 1)), (2, (.invokevirtual 310, 3)), (5, (.ifCond .eq 24, 3)), (8, (.aload_n 0, 1)), (9, (.iload_n 2, 1)), (10, (.invokevirtual 157, 3)), (13, (.ifCond .eq 16, 3)), (16, (.aload_n 0, 1)), (17, (.iload_n 3, 1)), (18, (.invokevirtual 310, 3)), (21, (.ifCond .eq 8, 3)), (24, (.iload_n 1, 1)), (25, (.iload_n 3, 1)), (26, (.if_icmp .ne 5, 3)), (29, (.iconst (-1), 1)), (30, (.ireturn, 1)), (31, (.iload_n 3, 1)), (32, (.iload_n 2, 1)), (33, (.invokestatic 282, 3)), (36, (.istore 4, 2)), (38, (.iload_n 1, 1)), (39, (.iload_n 2, 1)), (40, (.invokestatic 282, 3)), (43, (.istore 5, 2)), (45, (.aload_n 0, 1)), (46, (.getfield 7, 3)), (49, (.iconst 0, 1)), (50, (.iload 4, 2)), (52, (.iadd, 1)), (53, (.iaload, 1)), (54, (.ifCond .ne 6, 3)), (57, (.bipush (-3), 2)), (59, (.ireturn, 1)), (60, (.aload_n 0, 1)), (61, (.iload_n 1, 1)), (62, (.iload_n 2, 1)), (63, (.iload_n 3, 1)), (64, (.invokevirtual 316, 3)), (67, (.istore 6, 2)), (69, (.aload_n 0, 1)), (70, (.getfield 7, 3)), (73, (.sipush 288, 3)), (76, (.iload_n 1, 1)), (77, (.iadd, 1)), (78, (.iaload, 1)), (79, (.iload 6, 2)), (81, (.if_icmp .ge 6, 3)), (84, (.bipush (-2), 2)), (86, (.ireturn, 1)), (87, (.aload_n 0, 1)), (88, (.getfield 7, 3)), (91, (.sipush 288, 3)), (94, (.iload_n 1, 1)), (95, (.iadd, 1)), (96, (.aload_n 0, 1)), (97, (.getfield 7, 3)), (100, (.sipush 288, 3)), (103, (.iload_n 1, 1)), (104, (.iadd, 1)), (105, (.iaload, 1)), (106, (.iload 6, 2)), (108, (.isub, 1)), (109, (.iastore, 1)), (110, (.aload_n 0, 1)), (111, (.getfield 7, 3)), (114, (.sipush 288, 3)), (117, (.iload_n 3, 1)), (118, (.iadd, 1)), (119, (.ldc 161, 2)), (121, (.aload_n 0, 1)), (122, (.getfield 7, 3)), (125, (.sipush 288, 3)), (128, (.iload_n 3, 1)), (129, (.iadd, 1)), (130, (.iaload, 1)), (131, (.iload 6, 2)), (133, (.iadd, 1)), (134, (.invokestatic 307, 3)), (137, (.iastore, 1)), (138, (.aload_n 0, 1)), (139, (.getfield 7, 3)), (142, (.iconst 0, 1)), (143, (.iload 4, 2)), (145, (.iadd, 1)), (146, (.aload_n 0, 1)), (147, (.getfield 7, 3)), (150, (.iconst 0, 1)), (151, (.iload 4, 2)), (153, (.iadd, 1)), (154, (.iaload, 1)), (155, (.iconst 1, 1)), (156, (.isub, 1)), (157, (.iastore, 1)), (158, (.aload_n 0, 1)), (159, (.getfield 7, 3)), (162, (.iconst 0, 1)), (163, (.iload 4, 2)), (165, (.iadd, 1)), (166, (.iaload, 1)), (167, (.ifCond .ne 15, 3)), (170, (.aload_n 0, 1)), (171, (.getfield 7, 3)), (174, (.bipush 96, 2)), (176, (.iload 4, 2)), (178, (.iadd, 1)), (179, (.bipush (-2), 2)), (181, (.iastore, 1)), (182, (.aload_n 0, 1)), (183, (.getfield 7, 3)), (186, (.iconst 0, 1)), (187, (.iload 5, 2)), (189, (.iadd, 1)), (190, (.sipush 999, 3)), (193, (.aload_n 0, 1)), (194, (.getfield 7, 3)), (197, (.iconst 0, 1)), (198, (.iload 5, 2)), (200, (.iadd, 1)), (201, (.iaload, 1)), (202, (.iconst 1, 1)), (203, (.iadd, 1)), (204, (.invokestatic 307, 3)), (207, (.iastore, 1)), (208, (.aload_n 0, 1)), (209, (.getfield 7, 3)), (212, (.bipush 96, 2)), (214, (.iload 5, 2)), (216, (.iadd, 1)), (217, (.aload_n 0, 1)), (218, (.getfield 7, 3)), (221, (.sipush 313, 3)), (224, (.iaload, 1)), (225, (.iastore, 1)), (226, (.iload 6, 2)), (228, (.ireturn, 1))]
theorem dm_X12_buys : ∀ q ∈ tb_X12_buys, decode zX12_buys.2.1 q.1 = .ok q.2 := by decide +kernel
def f_X12_buys_182 (n : Nat) (a5 a6 : Int32) (M : qM) : qR :=
  qg ((0 : Int32) + a5) 954 (qc (f_X12_min n (999 : Int32) ((M 78 ((0 : Int32) + a5).toNatClampNeg) + (1 : Int32)) M) (fun r1 m2 => qg ((0 : Int32) + a5) 954 (qlm (mu m2 78 ((0 : Int32) + a5).toNatClampNeg r1) (fun m3 => qg ((96 : Int32) + a5) 954 (qlm (mu m3 78 ((96 : Int32) + a5).toNatClampNeg (m3 78 313)) (fun m4 => some (a6, m4)))))))
set_option maxRecDepth 4000 in
theorem w_X12_buys_182 {g : qG} {k : qK} (n : Nat) (j r : Nat) (hj : q_isLaw j) (hr : q_isLaw r) (o : qOk g 4 zX12_buys k) (a5 a6 : Int32) (M : qM) : qAE g k zX12_buys (qL j r) 182 [some (.inr (some 77)), none, none, none, none, some (.inl a5), some (.inl a6)] [] (qL j r, M) (f_X12_buys_182 n a5 a6 M) := by
  unfold f_X12_buys_182
  refine qr_aload_n o (q_dm dm_X12_buys 108 rfl) rfl ?_
  refine qr_getr (kf := 0) o cf_X12 (sh77 j r) rfl (Nat.le_of_ble_eq_true rfl) fl_X12_7 (q_dm dm_X12_buys 109 rfl) ?_
  refine qr_iconst o (q_dm dm_X12_buys 110 rfl) ic_0 ?_
  refine qr_iload o (q_dm dm_X12_buys 111 rfl) rfl ?_
  refine qr_iadd o (q_dm dm_X12_buys 112 rfl) ?_
  refine qr_sipush o (q_dm dm_X12_buys 113 rfl) si_999 ?_
  refine qr_aload_n o (q_dm dm_X12_buys 114 rfl) rfl ?_
  refine qr_getr (kf := 0) o cf_X12 (sh77 j r) rfl (Nat.le_of_ble_eq_true rfl) fl_X12_7 (q_dm dm_X12_buys 115 rfl) ?_
  refine qr_iconst o (q_dm dm_X12_buys 116 rfl) ic_0 ?_
  refine qr_iload o (q_dm dm_X12_buys 117 rfl) rfl ?_
  refine qr_iadd o (q_dm dm_X12_buys 118 rfl) ?_
  refine qr_iald o (sh78 j r) (q_dm dm_X12_buys 119 rfl) ?_
  refine qr_iconst o (q_dm dm_X12_buys 120 rfl) ic_1 ?_
  refine qr_iadd o (q_dm dm_X12_buys 121 rfl) ?_
  refine qr_calls_i (As := [.inl (999 : Int32), .inl ((M 78 ((0 : Int32) + a5).toNatClampNeg) + (1 : Int32))]) (S := [.inl ((0 : Int32) + a5), .inr (some 78)]) o (a_X12_min g k.2.1 n j r hj hr (999 : Int32) ((M 78 ((0 : Int32) + a5).toNatClampNeg) + (1 : Int32)) M) (Nat.le_of_ble_eq_true rfl) zs_X12_min rfl ml_X12_307 (Nat.le_of_ble_eq_true rfl) (q_dm dm_X12_buys 122 rfl) (fun r1 m2 => ?_)
  refine qr_iast o (sh78 j r) (q_dm dm_X12_buys 123 rfl) ?_
  refine qr_letm (fun m3 => ?_)
  refine qr_aload_n o (q_dm dm_X12_buys 124 rfl) rfl ?_
  refine qr_getr (kf := 0) o cf_X12 (sh77 j r) rfl (Nat.le_of_ble_eq_true rfl) fl_X12_7 (q_dm dm_X12_buys 125 rfl) ?_
  refine qr_bipush o (q_dm dm_X12_buys 126 rfl) bi_96 ?_
  refine qr_iload o (q_dm dm_X12_buys 127 rfl) rfl ?_
  refine qr_iadd o (q_dm dm_X12_buys 128 rfl) ?_
  refine qr_aload_n o (q_dm dm_X12_buys 129 rfl) rfl ?_
  refine qr_getr (kf := 0) o cf_X12 (sh77 j r) rfl (Nat.le_of_ble_eq_true rfl) fl_X12_7 (q_dm dm_X12_buys 130 rfl) ?_
  refine qr_sipush o (q_dm dm_X12_buys 131 rfl) si_313 ?_
  refine qr_iald0 (c := 313) o (sh78 j r) (by decide) (by decide) (q_dm dm_X12_buys 132 rfl) ?_
  refine qr_iast o (sh78 j r) (q_dm dm_X12_buys 133 rfl) ?_
  refine qr_letm (fun m4 => ?_)
  refine qr_iload o (q_dm dm_X12_buys 134 rfl) rfl ?_
  exact qr_iret o rfl rfl (q_dm dm_X12_buys 135 rfl)

def f_X12_buys (n : Nat) (a1 a2 a3 : Int32) (M : qM) : qR :=
  qc (f_X12_isPerson n a1 M) (fun r1 m2 => (if r1 = (0 : Int32) then some ((-1 : Int32), m2) else qc (f_X12_isKind n a2 m2) (fun r3 m4 => (if r3 = (0 : Int32) then some ((-1 : Int32), m4) else qc (f_X12_isPerson n a3 m4) (fun r5 m6 => (if r5 = (0 : Int32) then some ((-1 : Int32), m6) else (if a1 = a3 then some ((-1 : Int32), m6) else qc (f_X12_at n a3 a2 m6) (fun r7 m8 => qc (f_X12_at n a1 a2 m8) (fun r9 m10 => qg ((0 : Int32) + r7) 954 ((if (m10 78 ((0 : Int32) + r7).toNatClampNeg) = (0 : Int32) then some ((-3 : Int32), m10) else qc (f_X12_costOf n a1 a2 a3 m10) (fun r11 m12 => qg ((288 : Int32) + a1) 954 ((if r11 ≤ (m12 78 ((288 : Int32) + a1).toNatClampNeg) then qg ((288 : Int32) + a1) 954 (qg ((288 : Int32) + a1) 954 (qlm (mu m12 78 ((288 : Int32) + a1).toNatClampNeg ((m12 78 ((288 : Int32) + a1).toNatClampNeg) - r11)) (fun m13 => qg ((288 : Int32) + a3) 954 (qc (f_X12_min n (99999 : Int32) ((m13 78 ((288 : Int32) + a3).toNatClampNeg) + r11) m13) (fun r14 m15 => qg ((288 : Int32) + a3) 954 (qlm (mu m15 78 ((288 : Int32) + a3).toNatClampNeg r14) (fun m16 => qg ((0 : Int32) + r7) 954 (qg ((0 : Int32) + r7) 954 (qlm (mu m16 78 ((0 : Int32) + r7).toNatClampNeg ((m16 78 ((0 : Int32) + r7).toNatClampNeg) - (1 : Int32))) (fun m17 => qg ((0 : Int32) + r7) 954 ((if (m17 78 ((0 : Int32) + r7).toNatClampNeg) = (0 : Int32) then qg ((96 : Int32) + r7) 954 (qlm (mu m17 78 ((96 : Int32) + r7).toNatClampNeg (-2 : Int32)) (fun m18 => f_X12_buys_182 n r9 r11 m18)) else f_X12_buys_182 n r9 r11 m17)))))))))))) else some ((-2 : Int32), m12)))))))))))))))
set_option maxRecDepth 4000 in
theorem w_X12_buys {g : qG} {k : qK} (n : Nat) (j r : Nat) (hj : q_isLaw j) (hr : q_isLaw r) (o : qOk g 4 zX12_buys k) (a1 a2 a3 : Int32) (M : qM) : qAE g k zX12_buys (qL j r) 0 [some (.inr (some 77)), some (.inl a1), some (.inl a2), some (.inl a3), none, none, none] [] (qL j r, M) (f_X12_buys n a1 a2 a3 M) := by
  unfold f_X12_buys
  refine qr_aload_n o (q_dm dm_X12_buys 0 rfl) rfl ?_
  refine qr_iload_n o (q_dm dm_X12_buys 1 rfl) rfl ?_
  refine qr_callv_i (As := [.inl a1]) (S := []) o (a_X12_isPerson g k.2.1 n j r hj hr a1 M) (Nat.le_of_ble_eq_true rfl) zv_X12_isPerson rfl cf_X12 (sh77 j r) ml_X12_310 (Nat.le_of_ble_eq_true rfl) (q_dm dm_X12_buys 2 rfl) (fun r1 m2 => ?_)
  refine qr_if_eq (tgt := 29) o (q_dm dm_X12_buys 3 rfl) (by decide) ?_ ?_
  · refine qr_iconst o (q_dm dm_X12_buys 15 rfl) ic_m1 ?_
    exact qr_iret o rfl rfl (q_dm dm_X12_buys 16 rfl)
  · refine qr_aload_n o (q_dm dm_X12_buys 4 rfl) rfl ?_
    refine qr_iload_n o (q_dm dm_X12_buys 5 rfl) rfl ?_
    refine qr_callv_i (As := [.inl a2]) (S := []) o (a_X12_isKind g k.2.1 n j r hj hr a2 m2) (Nat.le_of_ble_eq_true rfl) zv_X12_isKind rfl cf_X12 (sh77 j r) ml_X12_157 (Nat.le_of_ble_eq_true rfl) (q_dm dm_X12_buys 6 rfl) (fun r3 m4 => ?_)
    refine qr_if_eq (tgt := 29) o (q_dm dm_X12_buys 7 rfl) (by decide) ?_ ?_
    · refine qr_iconst o (q_dm dm_X12_buys 15 rfl) ic_m1 ?_
      exact qr_iret o rfl rfl (q_dm dm_X12_buys 16 rfl)
    · refine qr_aload_n o (q_dm dm_X12_buys 8 rfl) rfl ?_
      refine qr_iload_n o (q_dm dm_X12_buys 9 rfl) rfl ?_
      refine qr_callv_i (As := [.inl a3]) (S := []) o (a_X12_isPerson g k.2.1 n j r hj hr a3 m4) (Nat.le_of_ble_eq_true rfl) zv_X12_isPerson rfl cf_X12 (sh77 j r) ml_X12_310 (Nat.le_of_ble_eq_true rfl) (q_dm dm_X12_buys 10 rfl) (fun r5 m6 => ?_)
      refine qr_if_eq (tgt := 29) o (q_dm dm_X12_buys 11 rfl) (by decide) ?_ ?_
      · refine qr_iconst o (q_dm dm_X12_buys 15 rfl) ic_m1 ?_
        exact qr_iret o rfl rfl (q_dm dm_X12_buys 16 rfl)
      · refine qr_iload_n o (q_dm dm_X12_buys 12 rfl) rfl ?_
        refine qr_iload_n o (q_dm dm_X12_buys 13 rfl) rfl ?_
        refine qr_icmp_ne (tgt := 31) o (q_dm dm_X12_buys 14 rfl) (by decide) ?_ ?_
        · refine qr_iload_n o (q_dm dm_X12_buys 17 rfl) rfl ?_
          refine qr_iload_n o (q_dm dm_X12_buys 18 rfl) rfl ?_
          refine qr_calls_i (As := [.inl a3, .inl a2]) (S := []) o (a_X12_at g k.2.1 n j r hj hr a3 a2 m6) (Nat.le_of_ble_eq_true rfl) zs_X12_at rfl ml_X12_282 (Nat.le_of_ble_eq_true rfl) (q_dm dm_X12_buys 19 rfl) (fun r7 m8 => ?_)
          refine qs_istore (L' := [some (.inr (some 77)), some (.inl a1), some (.inl a2), some (.inl a3), some (.inl r7), none, none]) o (q_dm dm_X12_buys 20 rfl) (Nat.le_of_ble_eq_true rfl) rfl ?_
          refine qr_iload_n o (q_dm dm_X12_buys 21 rfl) rfl ?_
          refine qr_iload_n o (q_dm dm_X12_buys 22 rfl) rfl ?_
          refine qr_calls_i (As := [.inl a1, .inl a2]) (S := []) o (a_X12_at g k.2.1 n j r hj hr a1 a2 m8) (Nat.le_of_ble_eq_true rfl) zs_X12_at rfl ml_X12_282 (Nat.le_of_ble_eq_true rfl) (q_dm dm_X12_buys 23 rfl) (fun r9 m10 => ?_)
          refine qs_istore (L' := [some (.inr (some 77)), some (.inl a1), some (.inl a2), some (.inl a3), some (.inl r7), some (.inl r9), none]) o (q_dm dm_X12_buys 24 rfl) (Nat.le_of_ble_eq_true rfl) rfl ?_
          refine qr_aload_n o (q_dm dm_X12_buys 25 rfl) rfl ?_
          refine qr_getr (kf := 0) o cf_X12 (sh77 j r) rfl (Nat.le_of_ble_eq_true rfl) fl_X12_7 (q_dm dm_X12_buys 26 rfl) ?_
          refine qr_iconst o (q_dm dm_X12_buys 27 rfl) ic_0 ?_
          refine qr_iload o (q_dm dm_X12_buys 28 rfl) rfl ?_
          refine qr_iadd o (q_dm dm_X12_buys 29 rfl) ?_
          refine qr_iald o (sh78 j r) (q_dm dm_X12_buys 30 rfl) ?_
          refine qr_if_ne (tgt := 60) o (q_dm dm_X12_buys 31 rfl) (by decide) ?_ ?_
          · refine qr_aload_n o (q_dm dm_X12_buys 34 rfl) rfl ?_
            refine qr_iload_n o (q_dm dm_X12_buys 35 rfl) rfl ?_
            refine qr_iload_n o (q_dm dm_X12_buys 36 rfl) rfl ?_
            refine qr_iload_n o (q_dm dm_X12_buys 37 rfl) rfl ?_
            refine qr_callv_i (As := [.inl a1, .inl a2, .inl a3]) (S := []) o (a_X12_costOf g k.2.1 n j r hj hr a1 a2 a3 m10) (Nat.le_of_ble_eq_true rfl) zv_X12_costOf rfl cf_X12 (sh77 j r) ml_X12_316 (Nat.le_of_ble_eq_true rfl) (q_dm dm_X12_buys 38 rfl) (fun r11 m12 => ?_)
            refine qs_istore (L' := [some (.inr (some 77)), some (.inl a1), some (.inl a2), some (.inl a3), some (.inl r7), some (.inl r9), some (.inl r11)]) o (q_dm dm_X12_buys 39 rfl) (Nat.le_of_ble_eq_true rfl) rfl ?_
            refine qr_aload_n o (q_dm dm_X12_buys 40 rfl) rfl ?_
            refine qr_getr (kf := 0) o cf_X12 (sh77 j r) rfl (Nat.le_of_ble_eq_true rfl) fl_X12_7 (q_dm dm_X12_buys 41 rfl) ?_
            refine qr_sipush o (q_dm dm_X12_buys 42 rfl) si_288 ?_
            refine qr_iload_n o (q_dm dm_X12_buys 43 rfl) rfl ?_
            refine qr_iadd o (q_dm dm_X12_buys 44 rfl) ?_
            refine qr_iald o (sh78 j r) (q_dm dm_X12_buys 45 rfl) ?_
            refine qr_iload o (q_dm dm_X12_buys 46 rfl) rfl ?_
            refine qr_icmp_ge (tgt := 87) o (q_dm dm_X12_buys 47 rfl) (by decide) ?_ ?_
            · refine qr_aload_n o (q_dm dm_X12_buys 50 rfl) rfl ?_
              refine qr_getr (kf := 0) o cf_X12 (sh77 j r) rfl (Nat.le_of_ble_eq_true rfl) fl_X12_7 (q_dm dm_X12_buys 51 rfl) ?_
              refine qr_sipush o (q_dm dm_X12_buys 52 rfl) si_288 ?_
              refine qr_iload_n o (q_dm dm_X12_buys 53 rfl) rfl ?_
              refine qr_iadd o (q_dm dm_X12_buys 54 rfl) ?_
              refine qr_aload_n o (q_dm dm_X12_buys 55 rfl) rfl ?_
              refine qr_getr (kf := 0) o cf_X12 (sh77 j r) rfl (Nat.le_of_ble_eq_true rfl) fl_X12_7 (q_dm dm_X12_buys 56 rfl) ?_
              refine qr_sipush o (q_dm dm_X12_buys 57 rfl) si_288 ?_
              refine qr_iload_n o (q_dm dm_X12_buys 58 rfl) rfl ?_
              refine qr_iadd o (q_dm dm_X12_buys 59 rfl) ?_
              refine qr_iald o (sh78 j r) (q_dm dm_X12_buys 60 rfl) ?_
              refine qr_iload o (q_dm dm_X12_buys 61 rfl) rfl ?_
              refine qr_isub o (q_dm dm_X12_buys 62 rfl) ?_
              refine qr_iast o (sh78 j r) (q_dm dm_X12_buys 63 rfl) ?_
              refine qr_letm (fun m13 => ?_)
              refine qr_aload_n o (q_dm dm_X12_buys 64 rfl) rfl ?_
              refine qr_getr (kf := 0) o cf_X12 (sh77 j r) rfl (Nat.le_of_ble_eq_true rfl) fl_X12_7 (q_dm dm_X12_buys 65 rfl) ?_
              refine qr_sipush o (q_dm dm_X12_buys 66 rfl) si_288 ?_
              refine qr_iload_n o (q_dm dm_X12_buys 67 rfl) rfl ?_
              refine qr_iadd o (q_dm dm_X12_buys 68 rfl) ?_
              refine qr_ldc o (q_dm dm_X12_buys 69 rfl) kc_X12_161 ?_
              refine qr_aload_n o (q_dm dm_X12_buys 70 rfl) rfl ?_
              refine qr_getr (kf := 0) o cf_X12 (sh77 j r) rfl (Nat.le_of_ble_eq_true rfl) fl_X12_7 (q_dm dm_X12_buys 71 rfl) ?_
              refine qr_sipush o (q_dm dm_X12_buys 72 rfl) si_288 ?_
              refine qr_iload_n o (q_dm dm_X12_buys 73 rfl) rfl ?_
              refine qr_iadd o (q_dm dm_X12_buys 74 rfl) ?_
              refine qr_iald o (sh78 j r) (q_dm dm_X12_buys 75 rfl) ?_
              refine qr_iload o (q_dm dm_X12_buys 76 rfl) rfl ?_
              refine qr_iadd o (q_dm dm_X12_buys 77 rfl) ?_
              refine qr_calls_i (As := [.inl (99999 : Int32), .inl ((m13 78 ((288 : Int32) + a3).toNatClampNeg) + r11)]) (S := [.inl ((288 : Int32) + a3), .inr (some 78)]) o (a_X12_min g k.2.1 n j r hj hr (99999 : Int32) ((m13 78 ((288 : Int32) + a3).toNatClampNeg) + r11) m13) (Nat.le_of_ble_eq_true rfl) zs_X12_min rfl ml_X12_307 (Nat.le_of_ble_eq_true rfl) (q_dm dm_X12_buys 78 rfl) (fun r14 m15 => ?_)
              refine qr_iast o (sh78 j r) (q_dm dm_X12_buys 79 rfl) ?_
              refine qr_letm (fun m16 => ?_)
              refine qr_aload_n o (q_dm dm_X12_buys 80 rfl) rfl ?_
              refine qr_getr (kf := 0) o cf_X12 (sh77 j r) rfl (Nat.le_of_ble_eq_true rfl) fl_X12_7 (q_dm dm_X12_buys 81 rfl) ?_
              refine qr_iconst o (q_dm dm_X12_buys 82 rfl) ic_0 ?_
              refine qr_iload o (q_dm dm_X12_buys 83 rfl) rfl ?_
              refine qr_iadd o (q_dm dm_X12_buys 84 rfl) ?_
              refine qr_aload_n o (q_dm dm_X12_buys 85 rfl) rfl ?_
              refine qr_getr (kf := 0) o cf_X12 (sh77 j r) rfl (Nat.le_of_ble_eq_true rfl) fl_X12_7 (q_dm dm_X12_buys 86 rfl) ?_
              refine qr_iconst o (q_dm dm_X12_buys 87 rfl) ic_0 ?_
              refine qr_iload o (q_dm dm_X12_buys 88 rfl) rfl ?_
              refine qr_iadd o (q_dm dm_X12_buys 89 rfl) ?_
              refine qr_iald o (sh78 j r) (q_dm dm_X12_buys 90 rfl) ?_
              refine qr_iconst o (q_dm dm_X12_buys 91 rfl) ic_1 ?_
              refine qr_isub o (q_dm dm_X12_buys 92 rfl) ?_
              refine qr_iast o (sh78 j r) (q_dm dm_X12_buys 93 rfl) ?_
              refine qr_letm (fun m17 => ?_)
              refine qr_aload_n o (q_dm dm_X12_buys 94 rfl) rfl ?_
              refine qr_getr (kf := 0) o cf_X12 (sh77 j r) rfl (Nat.le_of_ble_eq_true rfl) fl_X12_7 (q_dm dm_X12_buys 95 rfl) ?_
              refine qr_iconst o (q_dm dm_X12_buys 96 rfl) ic_0 ?_
              refine qr_iload o (q_dm dm_X12_buys 97 rfl) rfl ?_
              refine qr_iadd o (q_dm dm_X12_buys 98 rfl) ?_
              refine qr_iald o (sh78 j r) (q_dm dm_X12_buys 99 rfl) ?_
              refine qr_if_ne (tgt := 182) o (q_dm dm_X12_buys 100 rfl) (by decide) ?_ ?_
              · exact qr_loc (q_leS (q_leN (q_leN (q_leN (q_leN (q_leS (q_leS q_le0))))))) (w_X12_buys_182 n j r hj hr o r9 r11 m17)
              · refine qr_aload_n o (q_dm dm_X12_buys 101 rfl) rfl ?_
                refine qr_getr (kf := 0) o cf_X12 (sh77 j r) rfl (Nat.le_of_ble_eq_true rfl) fl_X12_7 (q_dm dm_X12_buys 102 rfl) ?_
                refine qr_bipush o (q_dm dm_X12_buys 103 rfl) bi_96 ?_
                refine qr_iload o (q_dm dm_X12_buys 104 rfl) rfl ?_
                refine qr_iadd o (q_dm dm_X12_buys 105 rfl) ?_
                refine qr_bipush o (q_dm dm_X12_buys 106 rfl) bi_m2 ?_
                refine qr_iast o (sh78 j r) (q_dm dm_X12_buys 107 rfl) ?_
                refine qr_letm (fun m18 => ?_)
                exact qr_loc (q_leS (q_leN (q_leN (q_leN (q_leN (q_leS (q_leS q_le0))))))) (w_X12_buys_182 n j r hj hr o r9 r11 m18)
            · refine qr_bipush o (q_dm dm_X12_buys 48 rfl) bi_m2 ?_
              exact qr_iret o rfl rfl (q_dm dm_X12_buys 49 rfl)
          · refine qr_bipush o (q_dm dm_X12_buys 32 rfl) bi_m3 ?_
            exact qr_iret o rfl rfl (q_dm dm_X12_buys 33 rfl)
        · refine qr_iconst o (q_dm dm_X12_buys 15 rfl) ic_m1 ?_
          exact qr_iret o rfl rfl (q_dm dm_X12_buys 16 rfl)

theorem a_X12_buys (g : qG) (l : Launch) (n : Nat) (j r : Nat) (hj : q_isLaw j) (hr : q_isLaw r) (a1 a2 a3 : Int32) (M : qM) : qAM g l 4 zX12_buys (qL j r) [.inr (some 77), .inl a1, .inl a2, .inl a3] (qL j r, M) (f_X12_buys n a1 a2 a3 M) :=
  qAM.of zv_X12_buys.1 (by show 4 ≤ 7; decide) (fun k hk o => w_X12_buys n j r hj hr o a1 a2 a3 M)
def tb_X12_coinsNow : List (Nat × Instr × Nat) := [(0, (.iconst 0, 1)), (1, (.istore_n 1, 1)), (2, (.iconst 0, 1)), (3, (.istore_n 2, 1)), (4, (.iload_n 2, 1)), (5, (.aload_n 0, 1)), (6, (.getfield 365, 3)), (9, (.if_icmp .ge 48, 3)), (12, (.iload_n 1, 1)), (13, (.aload_n 0, 1)), (14, (.getfield 86, 3)), (17, (.aload_n 0, 1)), (18, (.getfield 101, 3)), (21, (.iload_n 2, 1)), (22, (.iaload, 1)), (23, (.iaload, 1)), (24, (.ifCond .le 24, 3)), (27, (.aload_n 0, 1)), (28, (.getfield 86, 3)), (31, (.aload_n 0, 1)), (32, (.getfield 101, 3)), (35, (.iload_n 2, 1)), (36, (.iaload, 1)), (37, (.iaload, 1)), (38, (.aload_n 0, 1)), (39, (.getfield 104, 3)), (42, (.iload_n 2, 1)), (43, (.iaload, 1)), (44, (.imul, 1)), (45, (.goto 4, 3)), (48, (.iconst 0, 1)), (49, (.iadd, 1)), (50, (.istore_n 1, 1)), (51, (.iinc 2 1, 3)), (54, (.goto (-50), 3)), (57, (.iload_n 1, 1)), (58, (.ireturn, 1))]
theorem dm_X12_coinsNow : ∀ q ∈ tb_X12_coinsNow, decode zX12_coinsNow.2.1 q.1 = .ok q.2 := by decide +kernel
def f_X12_coinsNow_49 (n : Nat) (K4 : Int32 → Int32 → qM → qR) (a2 s0 s1 : Int32) (M : qM) : qR :=
  ql (s0 + s1) (fun x1 => ql (a2 + (1 : Int32)) (fun x2 => K4 x1 x2 M))
set_option maxRecDepth 4000 in
theorem w_X12_coinsNow_49 {g : qG} {k : qK} (n : Nat) (j r : Nat) (hj : q_isLaw j) (hr : q_isLaw r) (o : qOk g 0 zX12_coinsNow k) (K4 : Int32 → Int32 → qM → qR) (hK4 : ∀ (a1 a2 : Int32) (M : qM), qAE g k zX12_coinsNow (qL j r) 4 [some (.inr (some 77)), some (.inl a1), some (.inl a2)] [] (qL j r, M) (K4 a1 a2 M)) (a2 s0 s1 : Int32) (M : qM) : qAE g k zX12_coinsNow (qL j r) 49 [some (.inr (some 77)), none, some (.inl a2)] [.inl s1, .inl s0] (qL j r, M) (f_X12_coinsNow_49 n K4 a2 s0 s1 M) := by
  unfold f_X12_coinsNow_49
  refine qr_iadd o (q_dm dm_X12_coinsNow 31 rfl) ?_
  refine qr_lt (fun x1 => ?_)
  refine qs_istore_n (L' := [some (.inr (some 77)), some (.inl x1), some (.inl a2)]) o (q_dm dm_X12_coinsNow 32 rfl) (Nat.le_of_ble_eq_true rfl) rfl ?_
  refine qs_iincl2 (L' := fun x2 => [some (.inr (some 77)), some (.inl x1), some (.inl x2)]) o (q_dm dm_X12_coinsNow 33 rfl) rfl ic_1 (Nat.le_of_ble_eq_true rfl) (fun _ => rfl) (fun x2 => ?_)
  refine qr_goto (tgt := 4) o (q_dm dm_X12_coinsNow 34 rfl) (by decide) ?_
  exact qr_loc (q_leS (q_leS (q_leS q_le0))) (hK4 x1 x2 M)

def b_X12_coinsNow_4 (n : Nat) (K4 : Int32 → Int32 → qM → qR) (a1 a2 : Int32) (M : qM) : qR :=
  (if (M 77 43) ≤ a2 then some (a1, M) else qg a2 4 (qg (M 108 a2.toNatClampNeg) 20 ((if (M 103 (M 108 a2.toNatClampNeg).toNatClampNeg) ≤ (0 : Int32) then f_X12_coinsNow_49 n K4 a2 a1 (0 : Int32) M else qg a2 4 (qg (M 108 a2.toNatClampNeg) 20 (qg a2 4 (f_X12_coinsNow_49 n K4 a2 a1 ((M 103 (M 108 a2.toNatClampNeg).toNatClampNeg) * (M 109 a2.toNatClampNeg)) M)))))))
set_option maxRecDepth 4000 in
theorem wb_X12_coinsNow_4 {g : qG} {k : qK} (n : Nat) (j r : Nat) (hj : q_isLaw j) (hr : q_isLaw r) (o : qOk g 0 zX12_coinsNow k) (K4 : Int32 → Int32 → qM → qR) (hK4 : ∀ (a1 a2 : Int32) (M : qM), qAE g k zX12_coinsNow (qL j r) 4 [some (.inr (some 77)), some (.inl a1), some (.inl a2)] [] (qL j r, M) (K4 a1 a2 M)) (a1 a2 : Int32) (M : qM) : qAE g k zX12_coinsNow (qL j r) 4 [some (.inr (some 77)), some (.inl a1), some (.inl a2)] [] (qL j r, M) (b_X12_coinsNow_4 n K4 a1 a2 M) := by
  unfold b_X12_coinsNow_4
  refine qr_iload_n o (q_dm dm_X12_coinsNow 4 rfl) rfl ?_
  refine qr_aload_n o (q_dm dm_X12_coinsNow 5 rfl) rfl ?_
  refine qr_getf (kf := 43) o cf_X12 (sh77 j r) rfl (Nat.le_of_ble_eq_true rfl) fl_X12_365 (q_dm dm_X12_coinsNow 6 rfl) ?_
  refine qr_icmp_ge (tgt := 57) o (q_dm dm_X12_coinsNow 7 rfl) (by decide) ?_ ?_
  · refine qr_iload_n o (q_dm dm_X12_coinsNow 35 rfl) rfl ?_
    exact qr_iret o rfl rfl (q_dm dm_X12_coinsNow 36 rfl)
  · refine qr_iload_n o (q_dm dm_X12_coinsNow 8 rfl) rfl ?_
    refine qr_aload_n o (q_dm dm_X12_coinsNow 9 rfl) rfl ?_
    refine qr_getr (kf := 46) o cf_X12 (sh77 j r) rfl (Nat.le_of_ble_eq_true rfl) fl_X12_86 (q_dm dm_X12_coinsNow 10 rfl) ?_
    refine qr_aload_n o (q_dm dm_X12_coinsNow 11 rfl) rfl ?_
    refine qr_getr (kf := 51) o cf_X12 (sh77 j r) rfl (Nat.le_of_ble_eq_true rfl) fl_X12_101 (q_dm dm_X12_coinsNow 12 rfl) ?_
    refine qr_iload_n o (q_dm dm_X12_coinsNow 13 rfl) rfl ?_
    refine qr_iald o (sh108 j r) (q_dm dm_X12_coinsNow 14 rfl) ?_
    refine qr_iald o (sh103 j r) (q_dm dm_X12_coinsNow 15 rfl) ?_
    refine qr_if_le (tgt := 48) o (q_dm dm_X12_coinsNow 16 rfl) (by decide) ?_ ?_
    · refine qr_iconst o (q_dm dm_X12_coinsNow 30 rfl) ic_0 ?_
      exact qr_loc (q_leS (q_leN (q_leS q_le0))) (w_X12_coinsNow_49 n j r hj hr o K4 hK4 a2 a1 (0 : Int32) M)
    · refine qr_aload_n o (q_dm dm_X12_coinsNow 17 rfl) rfl ?_
      refine qr_getr (kf := 46) o cf_X12 (sh77 j r) rfl (Nat.le_of_ble_eq_true rfl) fl_X12_86 (q_dm dm_X12_coinsNow 18 rfl) ?_
      refine qr_aload_n o (q_dm dm_X12_coinsNow 19 rfl) rfl ?_
      refine qr_getr (kf := 51) o cf_X12 (sh77 j r) rfl (Nat.le_of_ble_eq_true rfl) fl_X12_101 (q_dm dm_X12_coinsNow 20 rfl) ?_
      refine qr_iload_n o (q_dm dm_X12_coinsNow 21 rfl) rfl ?_
      refine qr_iald o (sh108 j r) (q_dm dm_X12_coinsNow 22 rfl) ?_
      refine qr_iald o (sh103 j r) (q_dm dm_X12_coinsNow 23 rfl) ?_
      refine qr_aload_n o (q_dm dm_X12_coinsNow 24 rfl) rfl ?_
      refine qr_getr (kf := 52) o cf_X12 (sh77 j r) rfl (Nat.le_of_ble_eq_true rfl) fl_X12_104 (q_dm dm_X12_coinsNow 25 rfl) ?_
      refine qr_iload_n o (q_dm dm_X12_coinsNow 26 rfl) rfl ?_
      refine qr_iald o (sh109 j r) (q_dm dm_X12_coinsNow 27 rfl) ?_
      refine qr_imul o (q_dm dm_X12_coinsNow 28 rfl) ?_
      refine qr_goto (tgt := 49) o (q_dm dm_X12_coinsNow 29 rfl) (by decide) ?_
      exact qr_loc (q_leS (q_leN (q_leS q_le0))) (w_X12_coinsNow_49 n j r hj hr o K4 hK4 a2 a1 ((M 103 (M 108 a2.toNatClampNeg).toNatClampNeg) * (M 109 a2.toNatClampNeg)) M)

def f_X12_coinsNow_4 (n : Nat) : Nat → Int32 → Int32 → qM → qR
  | 0, _, _, _ => none
  | m + 1, a1, a2, M => b_X12_coinsNow_4 n (f_X12_coinsNow_4 n m) a1 a2 M
theorem w_X12_coinsNow_4 {g : qG} {k : qK} (n : Nat) (j r : Nat) (hj : q_isLaw j) (hr : q_isLaw r) (o : qOk g 0 zX12_coinsNow k) : ∀ (m : Nat) (a1 a2 : Int32) (M : qM), qAE g k zX12_coinsNow (qL j r) 4 [some (.inr (some 77)), some (.inl a1), some (.inl a2)] [] (qL j r, M) (f_X12_coinsNow_4 n m a1 a2 M) := by
  intro m
  induction m with
  | zero =>
    intro a1 a2 M
    exact qr_none
  | succ m ih =>
    intro a1 a2 M
    exact wb_X12_coinsNow_4 n j r hj hr o (f_X12_coinsNow_4 n m) ih a1 a2 M
def f_X12_coinsNow (n : Nat) (M : qM) : qR :=
  f_X12_coinsNow_4 n n (0 : Int32) (0 : Int32) M
set_option maxRecDepth 4000 in
theorem w_X12_coinsNow {g : qG} {k : qK} (n : Nat) (j r : Nat) (hj : q_isLaw j) (hr : q_isLaw r) (o : qOk g 0 zX12_coinsNow k) (M : qM) : qAE g k zX12_coinsNow (qL j r) 0 [some (.inr (some 77)), none, none] [] (qL j r, M) (f_X12_coinsNow n  M) := by
  unfold f_X12_coinsNow
  refine qr_iconst o (q_dm dm_X12_coinsNow 0 rfl) ic_0 ?_
  refine qs_istore_n (L' := [some (.inr (some 77)), some (.inl (0 : Int32)), none]) o (q_dm dm_X12_coinsNow 1 rfl) (Nat.le_of_ble_eq_true rfl) rfl ?_
  refine qr_iconst o (q_dm dm_X12_coinsNow 2 rfl) ic_0 ?_
  refine qs_istore_n (L' := [some (.inr (some 77)), some (.inl (0 : Int32)), some (.inl (0 : Int32))]) o (q_dm dm_X12_coinsNow 3 rfl) (Nat.le_of_ble_eq_true rfl) rfl ?_
  exact qr_loc (q_leS (q_leS (q_leS q_le0))) (w_X12_coinsNow_4 n j r hj hr o n (0 : Int32) (0 : Int32) M)

theorem a_X12_coinsNow (g : qG) (l : Launch) (n : Nat) (j r : Nat) (hj : q_isLaw j) (hr : q_isLaw r) (M : qM) : qAM g l 0 zX12_coinsNow (qL j r) [.inr (some 77)] (qL j r, M) (f_X12_coinsNow n  M) :=
  qAM.of zv_X12_coinsNow.1 (by show 1 ≤ 3; decide) (fun k hk o => w_X12_coinsNow n j r hj hr o  M)
def tb_X12_hoursNow : List (Nat × Instr × Nat) := [(0, (.iconst 0, 1)), (1, (.istore_n 1, 1)), (2, (.iconst 0, 1)), (3, (.istore_n 2, 1)), (4, (.iload_n 2, 1)), (5, (.aload_n 0, 1)), (6, (.getfield 365, 3)), (9, (.if_icmp .ge 35, 3)), (12, (.iload_n 1, 1)), (13, (.aload_n 0, 1)), (14, (.getfield 83, 3)), (17, (.aload_n 0, 1)), (18, (.getfield 101, 3)), (21, (.iload_n 2, 1)), (22, (.iaload, 1)), (23, (.iaload, 1)), (24, (.aload_n 0, 1)), (25, (.getfield 19, 3)), (28, (.aload_n 0, 1)), (29, (.getfield 92, 3)), (32, (.iload_n 2, 1)), (33, (.iaload, 1)), (34, (.iaload, 1)), (35, (.imul, 1)), (36, (.iadd, 1)), (37, (.istore_n 1, 1)), (38, (.iinc 2 1, 3)), (41, (.goto (-37), 3)), (44, (.iload_n 1, 1)), (45, (.ireturn, 1))]
theorem dm_X12_hoursNow : ∀ q ∈ tb_X12_hoursNow, decode zX12_hoursNow.2.1 q.1 = .ok q.2 := by decide +kernel
def b_X12_hoursNow_4 (n : Nat) (K4 : Int32 → Int32 → qM → qR) (a1 a2 : Int32) (M : qM) : qR :=
  (if (M 77 43) ≤ a2 then some (a1, M) else qg a2 4 (qg (M 108 a2.toNatClampNeg) 20 (qg a2 4 (qg (M 105 a2.toNatClampNeg) 13 (ql (a1 + ((M 102 (M 108 a2.toNatClampNeg).toNatClampNeg) * (M 81 (M 105 a2.toNatClampNeg).toNatClampNeg))) (fun x1 => ql (a2 + (1 : Int32)) (fun x2 => K4 x1 x2 M)))))))
set_option maxRecDepth 4000 in
theorem wb_X12_hoursNow_4 {g : qG} {k : qK} (n : Nat) (j r : Nat) (hj : q_isLaw j) (hr : q_isLaw r) (o : qOk g 0 zX12_hoursNow k) (K4 : Int32 → Int32 → qM → qR) (hK4 : ∀ (a1 a2 : Int32) (M : qM), qAE g k zX12_hoursNow (qL j r) 4 [some (.inr (some 77)), some (.inl a1), some (.inl a2)] [] (qL j r, M) (K4 a1 a2 M)) (a1 a2 : Int32) (M : qM) : qAE g k zX12_hoursNow (qL j r) 4 [some (.inr (some 77)), some (.inl a1), some (.inl a2)] [] (qL j r, M) (b_X12_hoursNow_4 n K4 a1 a2 M) := by
  unfold b_X12_hoursNow_4
  refine qr_iload_n o (q_dm dm_X12_hoursNow 4 rfl) rfl ?_
  refine qr_aload_n o (q_dm dm_X12_hoursNow 5 rfl) rfl ?_
  refine qr_getf (kf := 43) o cf_X12 (sh77 j r) rfl (Nat.le_of_ble_eq_true rfl) fl_X12_365 (q_dm dm_X12_hoursNow 6 rfl) ?_
  refine qr_icmp_ge (tgt := 44) o (q_dm dm_X12_hoursNow 7 rfl) (by decide) ?_ ?_
  · refine qr_iload_n o (q_dm dm_X12_hoursNow 28 rfl) rfl ?_
    exact qr_iret o rfl rfl (q_dm dm_X12_hoursNow 29 rfl)
  · refine qr_iload_n o (q_dm dm_X12_hoursNow 8 rfl) rfl ?_
    refine qr_aload_n o (q_dm dm_X12_hoursNow 9 rfl) rfl ?_
    refine qr_getr (kf := 45) o cf_X12 (sh77 j r) rfl (Nat.le_of_ble_eq_true rfl) fl_X12_83 (q_dm dm_X12_hoursNow 10 rfl) ?_
    refine qr_aload_n o (q_dm dm_X12_hoursNow 11 rfl) rfl ?_
    refine qr_getr (kf := 51) o cf_X12 (sh77 j r) rfl (Nat.le_of_ble_eq_true rfl) fl_X12_101 (q_dm dm_X12_hoursNow 12 rfl) ?_
    refine qr_iload_n o (q_dm dm_X12_hoursNow 13 rfl) rfl ?_
    refine qr_iald o (sh108 j r) (q_dm dm_X12_hoursNow 14 rfl) ?_
    refine qr_iald o (sh102 j r) (q_dm dm_X12_hoursNow 15 rfl) ?_
    refine qr_aload_n o (q_dm dm_X12_hoursNow 16 rfl) rfl ?_
    refine qr_getr (kf := 3) o cf_X12 (sh77 j r) rfl (Nat.le_of_ble_eq_true rfl) fl_X12_19 (q_dm dm_X12_hoursNow 17 rfl) ?_
    refine qr_aload_n o (q_dm dm_X12_hoursNow 18 rfl) rfl ?_
    refine qr_getr (kf := 48) o cf_X12 (sh77 j r) rfl (Nat.le_of_ble_eq_true rfl) fl_X12_92 (q_dm dm_X12_hoursNow 19 rfl) ?_
    refine qr_iload_n o (q_dm dm_X12_hoursNow 20 rfl) rfl ?_
    refine qr_iald o (sh105 j r) (q_dm dm_X12_hoursNow 21 rfl) ?_
    refine qr_iald o (sh81 j r) (q_dm dm_X12_hoursNow 22 rfl) ?_
    refine qr_imul o (q_dm dm_X12_hoursNow 23 rfl) ?_
    refine qr_iadd o (q_dm dm_X12_hoursNow 24 rfl) ?_
    refine qr_lt (fun x1 => ?_)
    refine qs_istore_n (L' := [some (.inr (some 77)), some (.inl x1), some (.inl a2)]) o (q_dm dm_X12_hoursNow 25 rfl) (Nat.le_of_ble_eq_true rfl) rfl ?_
    refine qs_iincl2 (L' := fun x2 => [some (.inr (some 77)), some (.inl x1), some (.inl x2)]) o (q_dm dm_X12_hoursNow 26 rfl) rfl ic_1 (Nat.le_of_ble_eq_true rfl) (fun _ => rfl) (fun x2 => ?_)
    refine qr_goto (tgt := 4) o (q_dm dm_X12_hoursNow 27 rfl) (by decide) ?_
    exact qr_loc (q_leS (q_leS (q_leS q_le0))) (hK4 x1 x2 M)

def f_X12_hoursNow_4 (n : Nat) : Nat → Int32 → Int32 → qM → qR
  | 0, _, _, _ => none
  | m + 1, a1, a2, M => b_X12_hoursNow_4 n (f_X12_hoursNow_4 n m) a1 a2 M
theorem w_X12_hoursNow_4 {g : qG} {k : qK} (n : Nat) (j r : Nat) (hj : q_isLaw j) (hr : q_isLaw r) (o : qOk g 0 zX12_hoursNow k) : ∀ (m : Nat) (a1 a2 : Int32) (M : qM), qAE g k zX12_hoursNow (qL j r) 4 [some (.inr (some 77)), some (.inl a1), some (.inl a2)] [] (qL j r, M) (f_X12_hoursNow_4 n m a1 a2 M) := by
  intro m
  induction m with
  | zero =>
    intro a1 a2 M
    exact qr_none
  | succ m ih =>
    intro a1 a2 M
    exact wb_X12_hoursNow_4 n j r hj hr o (f_X12_hoursNow_4 n m) ih a1 a2 M
def f_X12_hoursNow (n : Nat) (M : qM) : qR :=
  f_X12_hoursNow_4 n n (0 : Int32) (0 : Int32) M
set_option maxRecDepth 4000 in
theorem w_X12_hoursNow {g : qG} {k : qK} (n : Nat) (j r : Nat) (hj : q_isLaw j) (hr : q_isLaw r) (o : qOk g 0 zX12_hoursNow k) (M : qM) : qAE g k zX12_hoursNow (qL j r) 0 [some (.inr (some 77)), none, none] [] (qL j r, M) (f_X12_hoursNow n  M) := by
  unfold f_X12_hoursNow
  refine qr_iconst o (q_dm dm_X12_hoursNow 0 rfl) ic_0 ?_
  refine qs_istore_n (L' := [some (.inr (some 77)), some (.inl (0 : Int32)), none]) o (q_dm dm_X12_hoursNow 1 rfl) (Nat.le_of_ble_eq_true rfl) rfl ?_
  refine qr_iconst o (q_dm dm_X12_hoursNow 2 rfl) ic_0 ?_
  refine qs_istore_n (L' := [some (.inr (some 77)), some (.inl (0 : Int32)), some (.inl (0 : Int32))]) o (q_dm dm_X12_hoursNow 3 rfl) (Nat.le_of_ble_eq_true rfl) rfl ?_
  exact qr_loc (q_leS (q_leS (q_leS q_le0))) (w_X12_hoursNow_4 n j r hj hr o n (0 : Int32) (0 : Int32) M)

theorem a_X12_hoursNow (g : qG) (l : Launch) (n : Nat) (j r : Nat) (hj : q_isLaw j) (hr : q_isLaw r) (M : qM) : qAM g l 0 zX12_hoursNow (qL j r) [.inr (some 77)] (qL j r, M) (f_X12_hoursNow n  M) :=
  qAM.of zv_X12_hoursNow.1 (by show 1 ≤ 3; decide) (fun k hk o => w_X12_hoursNow n j r hj hr o  M)
def tb_X12_in : List (Nat × Instr × Nat) := [(0, (.iload_n 0, 1)), (1, (.iload_n 1, 1)), (2, (.if_icmp .lt 12, 3)), (5, (.iload_n 0, 1)), (6, (.iload_n 2, 1)), (7, (.if_icmp .gt 7, 3)), (10, (.iconst 1, 1)), (11, (.goto 4, 3)), (14, (.iconst 0, 1)), (15, (.ireturn, 1))]
theorem dm_X12_in : ∀ q ∈ tb_X12_in, decode zX12_in.2.1 q.1 = .ok q.2 := by decide +kernel
def f_X12_in (n : Nat) (a0 a1 a2 : Int32) (M : qM) : qR :=
  (if a0 < a1 then some ((0 : Int32), M) else (if a2 < a0 then some ((0 : Int32), M) else some ((1 : Int32), M)))
set_option maxRecDepth 4000 in
theorem w_X12_in {g : qG} {k : qK} (n : Nat) (j r : Nat) (hj : q_isLaw j) (hr : q_isLaw r) (o : qOk g 0 zX12_in k) (a0 a1 a2 : Int32) (M : qM) : qAE g k zX12_in (qL j r) 0 [some (.inl a0), some (.inl a1), some (.inl a2)] [] (qL j r, M) (f_X12_in n a0 a1 a2 M) := by
  unfold f_X12_in
  refine qr_iload_n o (q_dm dm_X12_in 0 rfl) rfl ?_
  refine qr_iload_n o (q_dm dm_X12_in 1 rfl) rfl ?_
  refine qr_icmp_lt (tgt := 14) o (q_dm dm_X12_in 2 rfl) (by decide) ?_ ?_
  · refine qr_iconst o (q_dm dm_X12_in 8 rfl) ic_0 ?_
    exact qr_iret o rfl (by decide) (q_dm dm_X12_in 9 rfl)
  · refine qr_iload_n o (q_dm dm_X12_in 3 rfl) rfl ?_
    refine qr_iload_n o (q_dm dm_X12_in 4 rfl) rfl ?_
    refine qr_icmp_gt (tgt := 14) o (q_dm dm_X12_in 5 rfl) (by decide) ?_ ?_
    · refine qr_iconst o (q_dm dm_X12_in 8 rfl) ic_0 ?_
      exact qr_iret o rfl (by decide) (q_dm dm_X12_in 9 rfl)
    · refine qr_iconst o (q_dm dm_X12_in 6 rfl) ic_1 ?_
      refine qr_goto (tgt := 15) o (q_dm dm_X12_in 7 rfl) (by decide) ?_
      exact qr_iret o rfl (by decide) (q_dm dm_X12_in 9 rfl)

theorem a_X12_in (g : qG) (l : Launch) (n : Nat) (j r : Nat) (hj : q_isLaw j) (hr : q_isLaw r) (a0 a1 a2 : Int32) (M : qM) : qAM g l 0 zX12_in (qL j r) [.inl a0, .inl a1, .inl a2] (qL j r, M) (f_X12_in n a0 a1 a2 M) :=
  qAM.of zs_X12_in.1 (by show 3 ≤ 3; decide) (fun k hk o => w_X12_in n j r hj hr o a0 a1 a2 M)
def tb_X12_oldOnes : List (Nat × Instr × Nat) := [(0, (.iconst 0, 1)), (1, (.istore_n 3, 1)), (2, (.iconst 0, 1)), (3, (.istore 4, 2)), (5, (.iload 4, 2)), (7, (.bipush 12, 2)), (9, (.if_icmp .ge 60, 3)), (12, (.aload_n 0, 1)), (13, (.iload 4, 2)), (15, (.invokevirtual 157, 3)), (18, (.ifCond .eq 45, 3)), (21, (.aload_n 0, 1)), (22, (.getfield 7, 3)), (25, (.iconst 0, 1)), (26, (.iload_n 1, 1)), (27, (.iload 4, 2)), (29, (.invokestatic 282, 3)), (32, (.iadd, 1)), (33, (.iaload, 1)), (34, (.ifCond .le 29, 3)), (37, (.aload_n 0, 1)), (38, (.iload_n 2, 1)), (39, (.iload 4, 2)), (41, (.invokevirtual 279, 3)), (44, (.ifCond .eq 19, 3)), (47, (.iload_n 3, 1)), (48, (.aload_n 0, 1)), (49, (.getfield 7, 3)), (52, (.iconst 0, 1)), (53, (.iload_n 1, 1)), (54, (.iload 4, 2)), (56, (.invokestatic 282, 3)), (59, (.iadd, 1)), (60, (.iaload, 1)), (61, (.iadd, 1)), (62, (.istore_n 3, 1)), (63, (.iinc 4 1, 3)), (66, (.goto (-61), 3)), (69, (.iload_n 3, 1)), (70, (.ireturn, 1))]
theorem dm_X12_oldOnes : ∀ q ∈ tb_X12_oldOnes, decode zX12_oldOnes.2.1 q.1 = .ok q.2 := by decide +kernel
def b_X12_oldOnes_5 (n : Nat) (K5 : Int32 → Int32 → Int32 → Int32 → qM → qR) (a1 a2 a3 a4 : Int32) (M : qM) : qR :=
  (if (12 : Int32) ≤ a4 then some (a3, M) else qc (f_X12_isKind n a4 M) (fun r1 m2 => (if r1 = (0 : Int32) then ql (a4 + (1 : Int32)) (fun x3 => K5 a1 a2 a3 x3 m2) else qc (f_X12_at n a1 a4 m2) (fun r4 m5 => qg ((0 : Int32) + r4) 954 ((if (m5 78 ((0 : Int32) + r4).toNatClampNeg) ≤ (0 : Int32) then ql (a4 + (1 : Int32)) (fun x6 => K5 a1 a2 a3 x6 m5) else qc (f_X12_isLike n a2 a4 m5) (fun r7 m8 => (if r7 = (0 : Int32) then ql (a4 + (1 : Int32)) (fun x9 => K5 a1 a2 a3 x9 m8) else qc (f_X12_at n a1 a4 m8) (fun r10 m11 => qg ((0 : Int32) + r10) 954 (ql (a3 + (m11 78 ((0 : Int32) + r10).toNatClampNeg)) (fun x12 => ql (a4 + (1 : Int32)) (fun x13 => K5 a1 a2 x12 x13 m11))))))))))))
set_option maxRecDepth 4000 in
theorem wb_X12_oldOnes_5 {g : qG} {k : qK} (n : Nat) (j r : Nat) (hj : q_isLaw j) (hr : q_isLaw r) (o : qOk g 3 zX12_oldOnes k) (K5 : Int32 → Int32 → Int32 → Int32 → qM → qR) (hK5 : ∀ (a1 a2 a3 a4 : Int32) (M : qM), qAE g k zX12_oldOnes (qL j r) 5 [some (.inr (some 77)), some (.inl a1), some (.inl a2), some (.inl a3), some (.inl a4)] [] (qL j r, M) (K5 a1 a2 a3 a4 M)) (a1 a2 a3 a4 : Int32) (M : qM) : qAE g k zX12_oldOnes (qL j r) 5 [some (.inr (some 77)), some (.inl a1), some (.inl a2), some (.inl a3), some (.inl a4)] [] (qL j r, M) (b_X12_oldOnes_5 n K5 a1 a2 a3 a4 M) := by
  unfold b_X12_oldOnes_5
  refine qr_iload o (q_dm dm_X12_oldOnes 4 rfl) rfl ?_
  refine qr_bipush o (q_dm dm_X12_oldOnes 5 rfl) bi_12 ?_
  refine qr_icmp_ge (tgt := 69) o (q_dm dm_X12_oldOnes 6 rfl) (by decide) ?_ ?_
  · refine qr_iload_n o (q_dm dm_X12_oldOnes 38 rfl) rfl ?_
    exact qr_iret o rfl rfl (q_dm dm_X12_oldOnes 39 rfl)
  · refine qr_aload_n o (q_dm dm_X12_oldOnes 7 rfl) rfl ?_
    refine qr_iload o (q_dm dm_X12_oldOnes 8 rfl) rfl ?_
    refine qr_callv_i (As := [.inl a4]) (S := []) o (a_X12_isKind g k.2.1 n j r hj hr a4 M) (Nat.le_of_ble_eq_true rfl) zv_X12_isKind rfl cf_X12 (sh77 j r) ml_X12_157 (Nat.le_of_ble_eq_true rfl) (q_dm dm_X12_oldOnes 9 rfl) (fun r1 m2 => ?_)
    refine qr_if_eq (tgt := 63) o (q_dm dm_X12_oldOnes 10 rfl) (by decide) ?_ ?_
    · refine qs_iincl2 (L' := fun x3 => [some (.inr (some 77)), some (.inl a1), some (.inl a2), some (.inl a3), some (.inl x3)]) o (q_dm dm_X12_oldOnes 36 rfl) rfl ic_1 (Nat.le_of_ble_eq_true rfl) (fun _ => rfl) (fun x3 => ?_)
      refine qr_goto (tgt := 5) o (q_dm dm_X12_oldOnes 37 rfl) (by decide) ?_
      exact qr_loc (q_leS (q_leS (q_leS (q_leS (q_leS q_le0))))) (hK5 a1 a2 a3 x3 m2)
    · refine qr_aload_n o (q_dm dm_X12_oldOnes 11 rfl) rfl ?_
      refine qr_getr (kf := 0) o cf_X12 (sh77 j r) rfl (Nat.le_of_ble_eq_true rfl) fl_X12_7 (q_dm dm_X12_oldOnes 12 rfl) ?_
      refine qr_iconst o (q_dm dm_X12_oldOnes 13 rfl) ic_0 ?_
      refine qr_iload_n o (q_dm dm_X12_oldOnes 14 rfl) rfl ?_
      refine qr_iload o (q_dm dm_X12_oldOnes 15 rfl) rfl ?_
      refine qr_calls_i (As := [.inl a1, .inl a4]) (S := [.inl (0 : Int32), .inr (some 78)]) o (a_X12_at g k.2.1 n j r hj hr a1 a4 m2) (Nat.le_of_ble_eq_true rfl) zs_X12_at rfl ml_X12_282 (Nat.le_of_ble_eq_true rfl) (q_dm dm_X12_oldOnes 16 rfl) (fun r4 m5 => ?_)
      refine qr_iadd o (q_dm dm_X12_oldOnes 17 rfl) ?_
      refine qr_iald o (sh78 j r) (q_dm dm_X12_oldOnes 18 rfl) ?_
      refine qr_if_le (tgt := 63) o (q_dm dm_X12_oldOnes 19 rfl) (by decide) ?_ ?_
      · refine qs_iincl2 (L' := fun x6 => [some (.inr (some 77)), some (.inl a1), some (.inl a2), some (.inl a3), some (.inl x6)]) o (q_dm dm_X12_oldOnes 36 rfl) rfl ic_1 (Nat.le_of_ble_eq_true rfl) (fun _ => rfl) (fun x6 => ?_)
        refine qr_goto (tgt := 5) o (q_dm dm_X12_oldOnes 37 rfl) (by decide) ?_
        exact qr_loc (q_leS (q_leS (q_leS (q_leS (q_leS q_le0))))) (hK5 a1 a2 a3 x6 m5)
      · refine qr_aload_n o (q_dm dm_X12_oldOnes 20 rfl) rfl ?_
        refine qr_iload_n o (q_dm dm_X12_oldOnes 21 rfl) rfl ?_
        refine qr_iload o (q_dm dm_X12_oldOnes 22 rfl) rfl ?_
        refine qr_callv_i (As := [.inl a2, .inl a4]) (S := []) o (a_X12_isLike g k.2.1 n j r hj hr a2 a4 m5) (Nat.le_of_ble_eq_true rfl) zv_X12_isLike rfl cf_X12 (sh77 j r) ml_X12_279 (Nat.le_of_ble_eq_true rfl) (q_dm dm_X12_oldOnes 23 rfl) (fun r7 m8 => ?_)
        refine qr_if_eq (tgt := 63) o (q_dm dm_X12_oldOnes 24 rfl) (by decide) ?_ ?_
        · refine qs_iincl2 (L' := fun x9 => [some (.inr (some 77)), some (.inl a1), some (.inl a2), some (.inl a3), some (.inl x9)]) o (q_dm dm_X12_oldOnes 36 rfl) rfl ic_1 (Nat.le_of_ble_eq_true rfl) (fun _ => rfl) (fun x9 => ?_)
          refine qr_goto (tgt := 5) o (q_dm dm_X12_oldOnes 37 rfl) (by decide) ?_
          exact qr_loc (q_leS (q_leS (q_leS (q_leS (q_leS q_le0))))) (hK5 a1 a2 a3 x9 m8)
        · refine qr_iload_n o (q_dm dm_X12_oldOnes 25 rfl) rfl ?_
          refine qr_aload_n o (q_dm dm_X12_oldOnes 26 rfl) rfl ?_
          refine qr_getr (kf := 0) o cf_X12 (sh77 j r) rfl (Nat.le_of_ble_eq_true rfl) fl_X12_7 (q_dm dm_X12_oldOnes 27 rfl) ?_
          refine qr_iconst o (q_dm dm_X12_oldOnes 28 rfl) ic_0 ?_
          refine qr_iload_n o (q_dm dm_X12_oldOnes 29 rfl) rfl ?_
          refine qr_iload o (q_dm dm_X12_oldOnes 30 rfl) rfl ?_
          refine qr_calls_i (As := [.inl a1, .inl a4]) (S := [.inl (0 : Int32), .inr (some 78), .inl a3]) o (a_X12_at g k.2.1 n j r hj hr a1 a4 m8) (Nat.le_of_ble_eq_true rfl) zs_X12_at rfl ml_X12_282 (Nat.le_of_ble_eq_true rfl) (q_dm dm_X12_oldOnes 31 rfl) (fun r10 m11 => ?_)
          refine qr_iadd o (q_dm dm_X12_oldOnes 32 rfl) ?_
          refine qr_iald o (sh78 j r) (q_dm dm_X12_oldOnes 33 rfl) ?_
          refine qr_iadd o (q_dm dm_X12_oldOnes 34 rfl) ?_
          refine qr_lt (fun x12 => ?_)
          refine qs_istore_n (L' := [some (.inr (some 77)), some (.inl a1), some (.inl a2), some (.inl x12), some (.inl a4)]) o (q_dm dm_X12_oldOnes 35 rfl) (Nat.le_of_ble_eq_true rfl) rfl ?_
          refine qs_iincl2 (L' := fun x13 => [some (.inr (some 77)), some (.inl a1), some (.inl a2), some (.inl x12), some (.inl x13)]) o (q_dm dm_X12_oldOnes 36 rfl) rfl ic_1 (Nat.le_of_ble_eq_true rfl) (fun _ => rfl) (fun x13 => ?_)
          refine qr_goto (tgt := 5) o (q_dm dm_X12_oldOnes 37 rfl) (by decide) ?_
          exact qr_loc (q_leS (q_leS (q_leS (q_leS (q_leS q_le0))))) (hK5 a1 a2 x12 x13 m11)

def f_X12_oldOnes_5 (n : Nat) : Nat → Int32 → Int32 → Int32 → Int32 → qM → qR
  | 0, _, _, _, _, _ => none
  | m + 1, a1, a2, a3, a4, M => b_X12_oldOnes_5 n (f_X12_oldOnes_5 n m) a1 a2 a3 a4 M
theorem w_X12_oldOnes_5 {g : qG} {k : qK} (n : Nat) (j r : Nat) (hj : q_isLaw j) (hr : q_isLaw r) (o : qOk g 3 zX12_oldOnes k) : ∀ (m : Nat) (a1 a2 a3 a4 : Int32) (M : qM), qAE g k zX12_oldOnes (qL j r) 5 [some (.inr (some 77)), some (.inl a1), some (.inl a2), some (.inl a3), some (.inl a4)] [] (qL j r, M) (f_X12_oldOnes_5 n m a1 a2 a3 a4 M) := by
  intro m
  induction m with
  | zero =>
    intro a1 a2 a3 a4 M
    exact qr_none
  | succ m ih =>
    intro a1 a2 a3 a4 M
    exact wb_X12_oldOnes_5 n j r hj hr o (f_X12_oldOnes_5 n m) ih a1 a2 a3 a4 M
def f_X12_oldOnes (n : Nat) (a1 a2 : Int32) (M : qM) : qR :=
  f_X12_oldOnes_5 n n a1 a2 (0 : Int32) (0 : Int32) M
set_option maxRecDepth 4000 in
theorem w_X12_oldOnes {g : qG} {k : qK} (n : Nat) (j r : Nat) (hj : q_isLaw j) (hr : q_isLaw r) (o : qOk g 3 zX12_oldOnes k) (a1 a2 : Int32) (M : qM) : qAE g k zX12_oldOnes (qL j r) 0 [some (.inr (some 77)), some (.inl a1), some (.inl a2), none, none] [] (qL j r, M) (f_X12_oldOnes n a1 a2 M) := by
  unfold f_X12_oldOnes
  refine qr_iconst o (q_dm dm_X12_oldOnes 0 rfl) ic_0 ?_
  refine qs_istore_n (L' := [some (.inr (some 77)), some (.inl a1), some (.inl a2), some (.inl (0 : Int32)), none]) o (q_dm dm_X12_oldOnes 1 rfl) (Nat.le_of_ble_eq_true rfl) rfl ?_
  refine qr_iconst o (q_dm dm_X12_oldOnes 2 rfl) ic_0 ?_
  refine qs_istore (L' := [some (.inr (some 77)), some (.inl a1), some (.inl a2), some (.inl (0 : Int32)), some (.inl (0 : Int32))]) o (q_dm dm_X12_oldOnes 3 rfl) (Nat.le_of_ble_eq_true rfl) rfl ?_
  exact qr_loc (q_leS (q_leS (q_leS (q_leS (q_leS q_le0))))) (w_X12_oldOnes_5 n j r hj hr o n a1 a2 (0 : Int32) (0 : Int32) M)

theorem a_X12_oldOnes (g : qG) (l : Launch) (n : Nat) (j r : Nat) (hj : q_isLaw j) (hr : q_isLaw r) (a1 a2 : Int32) (M : qM) : qAM g l 3 zX12_oldOnes (qL j r) [.inr (some 77), .inl a1, .inl a2] (qL j r, M) (f_X12_oldOnes n a1 a2 M) :=
  qAM.of zv_X12_oldOnes.1 (by show 3 ≤ 5; decide) (fun k hk o => w_X12_oldOnes n j r hj hr o a1 a2 M)
def tb_X12_laysOwn : List (Nat × Instr × Nat) := [(0, (.aload_n 0, 1)), (1, (.iload_n 1, 1)), (2, (.putfield 362, 3)), (5, (.aload_n 0, 1)), (6, (.iconst 0, 1)), (7, (.putfield 365, 3)), (10, (.iconst 0, 1)), (11, (.istore_n 3, 1)), (12, (.iload_n 3, 1)), (13, (.bipush 12, 2)), (15, (.if_icmp .ge 40, 3)), (18, (.iload_n 2, 1)), (19, (.iload_n 3, 1)), (20, (.invokestatic 149, 3)), (23, (.ifCond .ne 6, 3)), (26, (.goto 23, 3)), (29, (.aload_n 0, 1)), (30, (.getfield 92, 3)), (33, (.aload_n 0, 1)), (34, (.getfield 365, 3)), (37, (.iload_n 3, 1)), (38, (.iastore, 1)), (39, (.aload_n 0, 1)), (40, (.aload_n 0, 1)), (41, (.getfield 365, 3)), (44, (.iconst 1, 1)), (45, (.iadd, 1)), (46, (.putfield 365, 3)), (49, (.iinc 3 1, 3)), (52, (.goto (-40), 3)), (55, (.iconst 0, 1)), (56, (.istore_n 3, 1)), (57, (.iload_n 3, 1)), (58, (.aload_n 0, 1)), (59, (.getfield 365, 3)), (62, (.if_icmp .ge 88, 3)), (65, (.aload_n 0, 1)), (66, (.getfield 95, 3)), (69, (.iload_n 3, 1)), (70, (.aload_n 0, 1)), (71, (.iload_n 1, 1)), (72, (.aload_n 0, 1)), (73, (.getfield 92, 3)), (76, (.iload_n 3, 1)), (77, (.iaload, 1)), (78, (.invokevirtual 298, 3)), (81, (.iastore, 1)), (82, (.aload_n 0, 1)), (83, (.getfield 98, 3)), (86, (.iload_n 3, 1)), (87, (.iconst 0, 1)), (88, (.iastore, 1)), (89, (.iconst 0, 1)), (90, (.istore 4, 2)), (92, (.iload 4, 2)), (94, (.aload_n 0, 1)), (95, (.getfield 365, 3)), (98, (.if_icmp .ge 46, 3)), (101, (.aload_n 0, 1)), (102, (.aload_n 0, 1)), (103, (.getfield 92, 3)), (106, (.iload_n 3, 1)), (107, (.iaload, 1)), (108, (.aload_n 0, 1)), (109, (.getfield 92, 3)), (112, (.iload 4, 2)), (114, (.iaload, 1)), (115, (.invokevirtual 279, 3)), (118, (.ifCond .eq 20, 3)), (121, (.aload_n 0, 1)), (122, (.getfield 98, 3)), (125, (.iload_n 3, 1)), (126, (.aload_n 0, 1)), (127, (.getfield 98, 3)), (130, (.iload_n 3, 1)), (131, (.iaload, 1)), (132, (.iconst 1, 1)), (133, (.iload 4, 2)), (135, (.ishl, 1)), (136, (.ior, 1)), (137, (.iastore, 1)), (138, (.iinc 4 1, 3)), (141, (.goto (-49), 3)), (144, (.iinc 3 1, 3)), (147, (.goto (-90), 3)), (150, (.return_, 1))]
theorem dm_X12_laysOwn : ∀ q ∈ tb_X12_laysOwn, decode zX12_laysOwn.2.1 q.1 = .ok q.2 := by decide +kernel
def b_X12_laysOwn_92 (n : Nat) (K57 : Int32 → Int32 → qM → qR) (K92 : Int32 → Int32 → Int32 → qM → qR) (a1 a3 a4 : Int32) (M : qM) : qR :=
  (if (M 77 43) ≤ a4 then ql (a3 + (1 : Int32)) (fun x1 => K57 a1 x1 M) else qg a3 4 (qg a4 4 (qc (f_X12_isLike n (M 105 a3.toNatClampNeg) (M 105 a4.toNatClampNeg) M) (fun r2 m3 => (if r2 = (0 : Int32) then ql (a4 + (1 : Int32)) (fun x4 => K92 a1 a3 x4 m3) else qg a3 4 (qg a3 4 (qlm (mu m3 107 a3.toNatClampNeg ((m3 107 a3.toNatClampNeg) ||| ((1 : Int32) <<< (a4 &&& 31)))) (fun m5 => ql (a4 + (1 : Int32)) (fun x6 => K92 a1 a3 x6 m5)))))))))
set_option maxRecDepth 4000 in
theorem wb_X12_laysOwn_92 {g : qG} {k : qK} (n : Nat) (j r : Nat) (hj : q_isLaw j) (hr : q_isLaw r) (o : qOk g 4 zX12_laysOwn k) (K57 : Int32 → Int32 → qM → qR) (hK57 : ∀ (a1 a3 : Int32) (M : qM), qAE g k zX12_laysOwn (qL j r) 57 [some (.inr (some 77)), some (.inl a1), none, some (.inl a3), none] [] (qL j r, M) (K57 a1 a3 M)) (K92 : Int32 → Int32 → Int32 → qM → qR) (hK92 : ∀ (a1 a3 a4 : Int32) (M : qM), qAE g k zX12_laysOwn (qL j r) 92 [some (.inr (some 77)), some (.inl a1), none, some (.inl a3), some (.inl a4)] [] (qL j r, M) (K92 a1 a3 a4 M)) (a1 a3 a4 : Int32) (M : qM) : qAE g k zX12_laysOwn (qL j r) 92 [some (.inr (some 77)), some (.inl a1), none, some (.inl a3), some (.inl a4)] [] (qL j r, M) (b_X12_laysOwn_92 n K57 K92 a1 a3 a4 M) := by
  unfold b_X12_laysOwn_92
  refine qr_iload o (q_dm dm_X12_laysOwn 54 rfl) rfl ?_
  refine qr_aload_n o (q_dm dm_X12_laysOwn 55 rfl) rfl ?_
  refine qr_getf (kf := 43) o cf_X12 (sh77 j r) rfl (Nat.le_of_ble_eq_true rfl) fl_X12_365 (q_dm dm_X12_laysOwn 56 rfl) ?_
  refine qr_icmp_ge (tgt := 144) o (q_dm dm_X12_laysOwn 57 rfl) (by decide) ?_ ?_
  · refine qs_iincl2 (L' := fun x1 => [some (.inr (some 77)), some (.inl a1), none, some (.inl x1), some (.inl a4)]) o (q_dm dm_X12_laysOwn 83 rfl) rfl ic_1 (Nat.le_of_ble_eq_true rfl) (fun _ => rfl) (fun x1 => ?_)
    refine qr_goto (tgt := 57) o (q_dm dm_X12_laysOwn 84 rfl) (by decide) ?_
    exact qr_loc (q_leS (q_leS (q_leN (q_leS (q_leN q_le0))))) (hK57 a1 x1 M)
  · refine qr_aload_n o (q_dm dm_X12_laysOwn 58 rfl) rfl ?_
    refine qr_aload_n o (q_dm dm_X12_laysOwn 59 rfl) rfl ?_
    refine qr_getr (kf := 48) o cf_X12 (sh77 j r) rfl (Nat.le_of_ble_eq_true rfl) fl_X12_92 (q_dm dm_X12_laysOwn 60 rfl) ?_
    refine qr_iload_n o (q_dm dm_X12_laysOwn 61 rfl) rfl ?_
    refine qr_iald o (sh105 j r) (q_dm dm_X12_laysOwn 62 rfl) ?_
    refine qr_aload_n o (q_dm dm_X12_laysOwn 63 rfl) rfl ?_
    refine qr_getr (kf := 48) o cf_X12 (sh77 j r) rfl (Nat.le_of_ble_eq_true rfl) fl_X12_92 (q_dm dm_X12_laysOwn 64 rfl) ?_
    refine qr_iload o (q_dm dm_X12_laysOwn 65 rfl) rfl ?_
    refine qr_iald o (sh105 j r) (q_dm dm_X12_laysOwn 66 rfl) ?_
    refine qr_callv_i (As := [.inl (M 105 a3.toNatClampNeg), .inl (M 105 a4.toNatClampNeg)]) (S := []) o (a_X12_isLike g k.2.1 n j r hj hr (M 105 a3.toNatClampNeg) (M 105 a4.toNatClampNeg) M) (Nat.le_of_ble_eq_true rfl) zv_X12_isLike rfl cf_X12 (sh77 j r) ml_X12_279 (Nat.le_of_ble_eq_true rfl) (q_dm dm_X12_laysOwn 67 rfl) (fun r2 m3 => ?_)
    refine qr_if_eq (tgt := 138) o (q_dm dm_X12_laysOwn 68 rfl) (by decide) ?_ ?_
    · refine qs_iincl2 (L' := fun x4 => [some (.inr (some 77)), some (.inl a1), none, some (.inl a3), some (.inl x4)]) o (q_dm dm_X12_laysOwn 81 rfl) rfl ic_1 (Nat.le_of_ble_eq_true rfl) (fun _ => rfl) (fun x4 => ?_)
      refine qr_goto (tgt := 92) o (q_dm dm_X12_laysOwn 82 rfl) (by decide) ?_
      exact qr_loc (q_leS (q_leS (q_leN (q_leS (q_leS q_le0))))) (hK92 a1 a3 x4 m3)
    · refine qr_aload_n o (q_dm dm_X12_laysOwn 69 rfl) rfl ?_
      refine qr_getr (kf := 50) o cf_X12 (sh77 j r) rfl (Nat.le_of_ble_eq_true rfl) fl_X12_98 (q_dm dm_X12_laysOwn 70 rfl) ?_
      refine qr_iload_n o (q_dm dm_X12_laysOwn 71 rfl) rfl ?_
      refine qr_aload_n o (q_dm dm_X12_laysOwn 72 rfl) rfl ?_
      refine qr_getr (kf := 50) o cf_X12 (sh77 j r) rfl (Nat.le_of_ble_eq_true rfl) fl_X12_98 (q_dm dm_X12_laysOwn 73 rfl) ?_
      refine qr_iload_n o (q_dm dm_X12_laysOwn 74 rfl) rfl ?_
      refine qr_iald o (sh107 j r) (q_dm dm_X12_laysOwn 75 rfl) ?_
      refine qr_iconst o (q_dm dm_X12_laysOwn 76 rfl) ic_1 ?_
      refine qr_iload o (q_dm dm_X12_laysOwn 77 rfl) rfl ?_
      refine qr_ishl o (q_dm dm_X12_laysOwn 78 rfl) ?_
      refine qr_ior o (q_dm dm_X12_laysOwn 79 rfl) ?_
      refine qr_iast o (sh107 j r) (q_dm dm_X12_laysOwn 80 rfl) ?_
      refine qr_letm (fun m5 => ?_)
      refine qs_iincl2 (L' := fun x6 => [some (.inr (some 77)), some (.inl a1), none, some (.inl a3), some (.inl x6)]) o (q_dm dm_X12_laysOwn 81 rfl) rfl ic_1 (Nat.le_of_ble_eq_true rfl) (fun _ => rfl) (fun x6 => ?_)
      refine qr_goto (tgt := 92) o (q_dm dm_X12_laysOwn 82 rfl) (by decide) ?_
      exact qr_loc (q_leS (q_leS (q_leN (q_leS (q_leS q_le0))))) (hK92 a1 a3 x6 m5)

def f_X12_laysOwn_92 (n : Nat) (K57 : Int32 → Int32 → qM → qR) : Nat → Int32 → Int32 → Int32 → qM → qR
  | 0, _, _, _, _ => none
  | m + 1, a1, a3, a4, M => b_X12_laysOwn_92 n K57 (f_X12_laysOwn_92 n K57 m) a1 a3 a4 M
theorem w_X12_laysOwn_92 {g : qG} {k : qK} (n : Nat) (j r : Nat) (hj : q_isLaw j) (hr : q_isLaw r) (o : qOk g 4 zX12_laysOwn k) (K57 : Int32 → Int32 → qM → qR) (hK57 : ∀ (a1 a3 : Int32) (M : qM), qAE g k zX12_laysOwn (qL j r) 57 [some (.inr (some 77)), some (.inl a1), none, some (.inl a3), none] [] (qL j r, M) (K57 a1 a3 M)) : ∀ (m : Nat) (a1 a3 a4 : Int32) (M : qM), qAE g k zX12_laysOwn (qL j r) 92 [some (.inr (some 77)), some (.inl a1), none, some (.inl a3), some (.inl a4)] [] (qL j r, M) (f_X12_laysOwn_92 n K57 m a1 a3 a4 M) := by
  intro m
  induction m with
  | zero =>
    intro a1 a3 a4 M
    exact qr_none
  | succ m ih =>
    intro a1 a3 a4 M
    exact wb_X12_laysOwn_92 n j r hj hr o K57 hK57 (f_X12_laysOwn_92 n K57 m) ih a1 a3 a4 M
def b_X12_laysOwn_57 (n : Nat) (K57 : Int32 → Int32 → qM → qR) (a1 a3 : Int32) (M : qM) : qR :=
  (if (M 77 43) ≤ a3 then some (0, M) else qg a3 4 (qc (f_X12_oldOnes n a1 (M 105 a3.toNatClampNeg) M) (fun r1 m2 => qg a3 4 (qlm (mu m2 106 a3.toNatClampNeg r1) (fun m3 => qg a3 4 (qlm (mu m3 107 a3.toNatClampNeg (0 : Int32)) (fun m4 => f_X12_laysOwn_92 n K57 n a1 a3 (0 : Int32) m4)))))))
set_option maxRecDepth 4000 in
theorem wb_X12_laysOwn_57 {g : qG} {k : qK} (n : Nat) (j r : Nat) (hj : q_isLaw j) (hr : q_isLaw r) (o : qOk g 4 zX12_laysOwn k) (K57 : Int32 → Int32 → qM → qR) (hK57 : ∀ (a1 a3 : Int32) (M : qM), qAE g k zX12_laysOwn (qL j r) 57 [some (.inr (some 77)), some (.inl a1), none, some (.inl a3), none] [] (qL j r, M) (K57 a1 a3 M)) (a1 a3 : Int32) (M : qM) : qAE g k zX12_laysOwn (qL j r) 57 [some (.inr (some 77)), some (.inl a1), none, some (.inl a3), none] [] (qL j r, M) (b_X12_laysOwn_57 n K57 a1 a3 M) := by
  unfold b_X12_laysOwn_57
  refine qr_iload_n o (q_dm dm_X12_laysOwn 32 rfl) rfl ?_
  refine qr_aload_n o (q_dm dm_X12_laysOwn 33 rfl) rfl ?_
  refine qr_getf (kf := 43) o cf_X12 (sh77 j r) rfl (Nat.le_of_ble_eq_true rfl) fl_X12_365 (q_dm dm_X12_laysOwn 34 rfl) ?_
  refine qr_icmp_ge (tgt := 150) o (q_dm dm_X12_laysOwn 35 rfl) (by decide) ?_ ?_
  · exact qr_vret o rfl (q_dm dm_X12_laysOwn 85 rfl)
  · refine qr_aload_n o (q_dm dm_X12_laysOwn 36 rfl) rfl ?_
    refine qr_getr (kf := 49) o cf_X12 (sh77 j r) rfl (Nat.le_of_ble_eq_true rfl) fl_X12_95 (q_dm dm_X12_laysOwn 37 rfl) ?_
    refine qr_iload_n o (q_dm dm_X12_laysOwn 38 rfl) rfl ?_
    refine qr_aload_n o (q_dm dm_X12_laysOwn 39 rfl) rfl ?_
    refine qr_iload_n o (q_dm dm_X12_laysOwn 40 rfl) rfl ?_
    refine qr_aload_n o (q_dm dm_X12_laysOwn 41 rfl) rfl ?_
    refine qr_getr (kf := 48) o cf_X12 (sh77 j r) rfl (Nat.le_of_ble_eq_true rfl) fl_X12_92 (q_dm dm_X12_laysOwn 42 rfl) ?_
    refine qr_iload_n o (q_dm dm_X12_laysOwn 43 rfl) rfl ?_
    refine qr_iald o (sh105 j r) (q_dm dm_X12_laysOwn 44 rfl) ?_
    refine qr_callv_i (As := [.inl a1, .inl (M 105 a3.toNatClampNeg)]) (S := [.inl a3, .inr (some 106)]) o (a_X12_oldOnes g k.2.1 n j r hj hr a1 (M 105 a3.toNatClampNeg) M) (Nat.le_of_ble_eq_true rfl) zv_X12_oldOnes rfl cf_X12 (sh77 j r) ml_X12_298 (Nat.le_of_ble_eq_true rfl) (q_dm dm_X12_laysOwn 45 rfl) (fun r1 m2 => ?_)
    refine qr_iast o (sh106 j r) (q_dm dm_X12_laysOwn 46 rfl) ?_
    refine qr_letm (fun m3 => ?_)
    refine qr_aload_n o (q_dm dm_X12_laysOwn 47 rfl) rfl ?_
    refine qr_getr (kf := 50) o cf_X12 (sh77 j r) rfl (Nat.le_of_ble_eq_true rfl) fl_X12_98 (q_dm dm_X12_laysOwn 48 rfl) ?_
    refine qr_iload_n o (q_dm dm_X12_laysOwn 49 rfl) rfl ?_
    refine qr_iconst o (q_dm dm_X12_laysOwn 50 rfl) ic_0 ?_
    refine qr_iast o (sh107 j r) (q_dm dm_X12_laysOwn 51 rfl) ?_
    refine qr_letm (fun m4 => ?_)
    refine qr_iconst o (q_dm dm_X12_laysOwn 52 rfl) ic_0 ?_
    refine qs_istore (L' := [some (.inr (some 77)), some (.inl a1), none, some (.inl a3), some (.inl (0 : Int32))]) o (q_dm dm_X12_laysOwn 53 rfl) (Nat.le_of_ble_eq_true rfl) rfl ?_
    exact qr_loc (q_leS (q_leS (q_leN (q_leS (q_leS q_le0))))) (w_X12_laysOwn_92 n j r hj hr o K57 hK57 n a1 a3 (0 : Int32) m4)

def f_X12_laysOwn_57 (n : Nat) : Nat → Int32 → Int32 → qM → qR
  | 0, _, _, _ => none
  | m + 1, a1, a3, M => b_X12_laysOwn_57 n (f_X12_laysOwn_57 n m) a1 a3 M
theorem w_X12_laysOwn_57 {g : qG} {k : qK} (n : Nat) (j r : Nat) (hj : q_isLaw j) (hr : q_isLaw r) (o : qOk g 4 zX12_laysOwn k) : ∀ (m : Nat) (a1 a3 : Int32) (M : qM), qAE g k zX12_laysOwn (qL j r) 57 [some (.inr (some 77)), some (.inl a1), none, some (.inl a3), none] [] (qL j r, M) (f_X12_laysOwn_57 n m a1 a3 M) := by
  intro m
  induction m with
  | zero =>
    intro a1 a3 M
    exact qr_none
  | succ m ih =>
    intro a1 a3 M
    exact wb_X12_laysOwn_57 n j r hj hr o (f_X12_laysOwn_57 n m) ih a1 a3 M
def b_X12_laysOwn_12 (n : Nat) (K12 : Int32 → Int32 → Int32 → qM → qR) (a1 a2 a3 : Int32) (M : qM) : qR :=
  (if (12 : Int32) ≤ a3 then f_X12_laysOwn_57 n n a1 (0 : Int32) M else qc (f_X12_has0 n a2 a3 M) (fun r1 m2 => (if r1 = (0 : Int32) then ql (a3 + (1 : Int32)) (fun x6 => K12 a1 a2 x6 m2) else qg (m2 77 43) 4 (qlm (mu m2 105 (m2 77 43).toNatClampNeg a3) (fun m3 => qlm (mu m3 77 43 ((m3 77 43) + (1 : Int32))) (fun m4 => ql (a3 + (1 : Int32)) (fun x5 => K12 a1 a2 x5 m4)))))))
set_option maxRecDepth 4000 in
theorem wb_X12_laysOwn_12 {g : qG} {k : qK} (n : Nat) (j r : Nat) (hj : q_isLaw j) (hr : q_isLaw r) (o : qOk g 4 zX12_laysOwn k) (K12 : Int32 → Int32 → Int32 → qM → qR) (hK12 : ∀ (a1 a2 a3 : Int32) (M : qM), qAE g k zX12_laysOwn (qL j r) 12 [some (.inr (some 77)), some (.inl a1), some (.inl a2), some (.inl a3), none] [] (qL j r, M) (K12 a1 a2 a3 M)) (a1 a2 a3 : Int32) (M : qM) : qAE g k zX12_laysOwn (qL j r) 12 [some (.inr (some 77)), some (.inl a1), some (.inl a2), some (.inl a3), none] [] (qL j r, M) (b_X12_laysOwn_12 n K12 a1 a2 a3 M) := by
  unfold b_X12_laysOwn_12
  refine qr_iload_n o (q_dm dm_X12_laysOwn 8 rfl) rfl ?_
  refine qr_bipush o (q_dm dm_X12_laysOwn 9 rfl) bi_12 ?_
  refine qr_icmp_ge (tgt := 55) o (q_dm dm_X12_laysOwn 10 rfl) (by decide) ?_ ?_
  · refine qr_iconst o (q_dm dm_X12_laysOwn 30 rfl) ic_0 ?_
    refine qs_istore_n (L' := [some (.inr (some 77)), some (.inl a1), some (.inl a2), some (.inl (0 : Int32)), none]) o (q_dm dm_X12_laysOwn 31 rfl) (Nat.le_of_ble_eq_true rfl) rfl ?_
    exact qr_loc (q_leS (q_leS (q_leN (q_leS (q_leN q_le0))))) (w_X12_laysOwn_57 n j r hj hr o n a1 (0 : Int32) M)
  · refine qr_iload_n o (q_dm dm_X12_laysOwn 11 rfl) rfl ?_
    refine qr_iload_n o (q_dm dm_X12_laysOwn 12 rfl) rfl ?_
    refine qr_calls_i (As := [.inl a2, .inl a3]) (S := []) o (a_X12_has0 g k.2.1 n j r hj hr a2 a3 M) (Nat.le_of_ble_eq_true rfl) zs_X12_has0 rfl ml_X12_149 (Nat.le_of_ble_eq_true rfl) (q_dm dm_X12_laysOwn 13 rfl) (fun r1 m2 => ?_)
    refine qr_if_ne (tgt := 29) o (q_dm dm_X12_laysOwn 14 rfl) (by decide) ?_ ?_
    · refine qr_aload_n o (q_dm dm_X12_laysOwn 16 rfl) rfl ?_
      refine qr_getr (kf := 48) o cf_X12 (sh77 j r) rfl (Nat.le_of_ble_eq_true rfl) fl_X12_92 (q_dm dm_X12_laysOwn 17 rfl) ?_
      refine qr_aload_n o (q_dm dm_X12_laysOwn 18 rfl) rfl ?_
      refine qr_getf (kf := 43) o cf_X12 (sh77 j r) rfl (Nat.le_of_ble_eq_true rfl) fl_X12_365 (q_dm dm_X12_laysOwn 19 rfl) ?_
      refine qr_iload_n o (q_dm dm_X12_laysOwn 20 rfl) rfl ?_
      refine qr_iast o (sh105 j r) (q_dm dm_X12_laysOwn 21 rfl) ?_
      refine qr_letm (fun m3 => ?_)
      refine qr_aload_n o (q_dm dm_X12_laysOwn 22 rfl) rfl ?_
      refine qr_aload_n o (q_dm dm_X12_laysOwn 23 rfl) rfl ?_
      refine qr_getf (kf := 43) o cf_X12 (sh77 j r) rfl (Nat.le_of_ble_eq_true rfl) fl_X12_365 (q_dm dm_X12_laysOwn 24 rfl) ?_
      refine qr_iconst o (q_dm dm_X12_laysOwn 25 rfl) ic_1 ?_
      refine qr_iadd o (q_dm dm_X12_laysOwn 26 rfl) ?_
      refine qr_putf (kf := 43) o cf_X12 (sh77 j r) rfl (Nat.le_of_ble_eq_true rfl) fl_X12_365 rfl (by decide +kernel) (q_dm dm_X12_laysOwn 27 rfl) ?_
      refine qr_letm (fun m4 => ?_)
      refine qs_iincl2 (L' := fun x5 => [some (.inr (some 77)), some (.inl a1), some (.inl a2), some (.inl x5), none]) o (q_dm dm_X12_laysOwn 28 rfl) rfl ic_1 (Nat.le_of_ble_eq_true rfl) (fun _ => rfl) (fun x5 => ?_)
      refine qr_goto (tgt := 12) o (q_dm dm_X12_laysOwn 29 rfl) (by decide) ?_
      exact qr_loc (q_leS (q_leS (q_leS (q_leS (q_leN q_le0))))) (hK12 a1 a2 x5 m4)
    · refine qr_goto (tgt := 49) o (q_dm dm_X12_laysOwn 15 rfl) (by decide) ?_
      refine qs_iincl2 (L' := fun x6 => [some (.inr (some 77)), some (.inl a1), some (.inl a2), some (.inl x6), none]) o (q_dm dm_X12_laysOwn 28 rfl) rfl ic_1 (Nat.le_of_ble_eq_true rfl) (fun _ => rfl) (fun x6 => ?_)
      refine qr_goto (tgt := 12) o (q_dm dm_X12_laysOwn 29 rfl) (by decide) ?_
      exact qr_loc (q_leS (q_leS (q_leS (q_leS (q_leN q_le0))))) (hK12 a1 a2 x6 m2)

def f_X12_laysOwn_12 (n : Nat) : Nat → Int32 → Int32 → Int32 → qM → qR
  | 0, _, _, _, _ => none
  | m + 1, a1, a2, a3, M => b_X12_laysOwn_12 n (f_X12_laysOwn_12 n m) a1 a2 a3 M
theorem w_X12_laysOwn_12 {g : qG} {k : qK} (n : Nat) (j r : Nat) (hj : q_isLaw j) (hr : q_isLaw r) (o : qOk g 4 zX12_laysOwn k) : ∀ (m : Nat) (a1 a2 a3 : Int32) (M : qM), qAE g k zX12_laysOwn (qL j r) 12 [some (.inr (some 77)), some (.inl a1), some (.inl a2), some (.inl a3), none] [] (qL j r, M) (f_X12_laysOwn_12 n m a1 a2 a3 M) := by
  intro m
  induction m with
  | zero =>
    intro a1 a2 a3 M
    exact qr_none
  | succ m ih =>
    intro a1 a2 a3 M
    exact wb_X12_laysOwn_12 n j r hj hr o (f_X12_laysOwn_12 n m) ih a1 a2 a3 M
def f_X12_laysOwn (n : Nat) (a1 a2 : Int32) (M : qM) : qR :=
  qlm (mu M 77 44 a1) (fun m1 => qlm (mu m1 77 43 (0 : Int32)) (fun m2 => f_X12_laysOwn_12 n n a1 a2 (0 : Int32) m2))
set_option maxRecDepth 4000 in
theorem w_X12_laysOwn {g : qG} {k : qK} (n : Nat) (j r : Nat) (hj : q_isLaw j) (hr : q_isLaw r) (o : qOk g 4 zX12_laysOwn k) (a1 a2 : Int32) (M : qM) : qAE g k zX12_laysOwn (qL j r) 0 [some (.inr (some 77)), some (.inl a1), some (.inl a2), none, none] [] (qL j r, M) (f_X12_laysOwn n a1 a2 M) := by
  unfold f_X12_laysOwn
  refine qr_aload_n o (q_dm dm_X12_laysOwn 0 rfl) rfl ?_
  refine qr_iload_n o (q_dm dm_X12_laysOwn 1 rfl) rfl ?_
  refine qr_putf (kf := 44) o cf_X12 (sh77 j r) rfl (Nat.le_of_ble_eq_true rfl) fl_X12_362 rfl (by decide +kernel) (q_dm dm_X12_laysOwn 2 rfl) ?_
  refine qr_letm (fun m1 => ?_)
  refine qr_aload_n o (q_dm dm_X12_laysOwn 3 rfl) rfl ?_
  refine qr_iconst o (q_dm dm_X12_laysOwn 4 rfl) ic_0 ?_
  refine qr_putf (kf := 43) o cf_X12 (sh77 j r) rfl (Nat.le_of_ble_eq_true rfl) fl_X12_365 rfl (by decide +kernel) (q_dm dm_X12_laysOwn 5 rfl) ?_
  refine qr_letm (fun m2 => ?_)
  refine qr_iconst o (q_dm dm_X12_laysOwn 6 rfl) ic_0 ?_
  refine qs_istore_n (L' := [some (.inr (some 77)), some (.inl a1), some (.inl a2), some (.inl (0 : Int32)), none]) o (q_dm dm_X12_laysOwn 7 rfl) (Nat.le_of_ble_eq_true rfl) rfl ?_
  exact qr_loc (q_leS (q_leS (q_leS (q_leS (q_leN q_le0))))) (w_X12_laysOwn_12 n j r hj hr o n a1 a2 (0 : Int32) m2)

theorem a_X12_laysOwn (g : qG) (l : Launch) (n : Nat) (j r : Nat) (hj : q_isLaw j) (hr : q_isLaw r) (a1 a2 : Int32) (M : qM) : qAM g l 4 zX12_laysOwn (qL j r) [.inr (some 77), .inl a1, .inl a2] (qL j r, M) (f_X12_laysOwn n a1 a2 M) :=
  qAM.of zv_X12_laysOwn.1 (by show 3 ≤ 5; decide) (fun k hk o => w_X12_laysOwn n j r hj hr o a1 a2 M)
