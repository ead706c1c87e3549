def tb_X10_addTry : List (Nat × Instr × Nat) := [(0, (.iload_n 1, 1)), (1, (.bipush 12, 2)), (3, (.imul, 1)), (4, (.iload_n 2, 1)), (5, (.iadd, 1)), (6, (.istore_n 3, 1)), (7, (.aload_n 0, 1)), (8, (.getfield 15, 3)), (11, (.iload_n 3, 1)), (12, (.sipush 999, 3)), (15, (.aload_n 0, 1)), (16, (.getfield 15, 3)), (19, (.iload_n 3, 1)), (20, (.iaload, 1)), (21, (.iconst 1, 1)), (22, (.iadd, 1)), (23, (.invokestatic 55, 3)), (26, (.iastore, 1)), (27, (.aload_n 0, 1)), (28, (.getfield 18, 3)), (31, (.iload_n 3, 1)), (32, (.aload_n 0, 1)), (33, (.getfield 46, 3)), (36, (.iastore, 1)), (37, (.return_, 1))]
theorem dm_X10_addTry : ∀ q ∈ tb_X10_addTry, decode zX10_addTry.2.1 q.1 = .ok q.2 := by decide +kernel
def f_X10_addTry (n : Nat) (t : Nat) (a1 a2 : Int32) (M : qM) : qR :=
  ql ((a1 * (12 : Int32)) + a2) (fun x1 => qg x1 96 (qg x1 96 (qlm (mu M (t + 2) x1.toNatClampNeg (qmin (999 : Int32) ((M (t + 2) x1.toNatClampNeg) + (1 : Int32)))) (fun m2 => qg x1 96 (qlm (mu m2 (t + 3) x1.toNatClampNeg (m2 t 9)) (fun m3 => some (0, m3)))))))
set_option maxRecDepth 4000 in
theorem w_X10_addTry {g : qG} {k : qK} (n : Nat) (j r : Nat) (hj : q_isLaw j) (hr : q_isLaw r) {t : Nat} (ht : q_isTown t) (o : qOk g 1 zX10_addTry k) (a1 a2 : Int32) (M : qM) : qAE g k zX10_addTry (qL j r) 0 [some (.inr (some t)), some (.inl a1), some (.inl a2), none] [] (qL j r, M) (f_X10_addTry n t a1 a2 M) := by
  unfold f_X10_addTry
  refine qr_iload_n o (q_dm dm_X10_addTry 0 rfl) rfl ?_
  refine qr_bipush o (q_dm dm_X10_addTry 1 rfl) bi_12 ?_
  refine qr_imul o (q_dm dm_X10_addTry 2 rfl) ?_
  refine qr_iload_n o (q_dm dm_X10_addTry 3 rfl) rfl ?_
  refine qr_iadd o (q_dm dm_X10_addTry 4 rfl) ?_
  refine qr_lt (fun x1 => ?_)
  refine qs_istore_n (L' := [some (.inr (some t)), some (.inl a1), some (.inl a2), some (.inl x1)]) o (q_dm dm_X10_addTry 5 rfl) (Nat.le_of_ble_eq_true rfl) rfl ?_
  refine qr_aload_n o (q_dm dm_X10_addTry 6 rfl) rfl ?_
  refine qr_getr (kf := 1) o cf_X10 (shT0 j r ht) rfl (Nat.le_of_ble_eq_true rfl) fl_X10_15 (q_dm dm_X10_addTry 7 rfl) ?_
  refine qr_iload_n o (q_dm dm_X10_addTry 8 rfl) rfl ?_
  refine qr_sipush o (q_dm dm_X10_addTry 9 rfl) si_999 ?_
  refine qr_aload_n o (q_dm dm_X10_addTry 10 rfl) rfl ?_
  refine qr_getr (kf := 1) o cf_X10 (shT0 j r ht) rfl (Nat.le_of_ble_eq_true rfl) fl_X10_15 (q_dm dm_X10_addTry 11 rfl) ?_
  refine qr_iload_n o (q_dm dm_X10_addTry 12 rfl) rfl ?_
  refine qr_iald o (shT2 j r ht) (q_dm dm_X10_addTry 13 rfl) ?_
  refine qr_iconst o (q_dm dm_X10_addTry 14 rfl) ic_1 ?_
  refine qr_iadd o (q_dm dm_X10_addTry 15 rfl) ?_
  refine qr_min o ml_X10_55 (by omega) (Nat.le_of_ble_eq_true rfl) (q_dm dm_X10_addTry 16 rfl) ?_
  refine qr_iast o (shT2 j r ht) (q_dm dm_X10_addTry 17 rfl) ?_
  refine qr_letm (fun m2 => ?_)
  refine qr_aload_n o (q_dm dm_X10_addTry 18 rfl) rfl ?_
  refine qr_getr (kf := 2) o cf_X10 (shT0 j r ht) rfl (Nat.le_of_ble_eq_true rfl) fl_X10_18 (q_dm dm_X10_addTry 19 rfl) ?_
  refine qr_iload_n o (q_dm dm_X10_addTry 20 rfl) rfl ?_
  refine qr_aload_n o (q_dm dm_X10_addTry 21 rfl) rfl ?_
  refine qr_getf (kf := 9) o cf_X10 (shT0 j r ht) rfl (Nat.le_of_ble_eq_true rfl) fl_X10_46 (q_dm dm_X10_addTry 22 rfl) ?_
  refine qr_iast o (shT3 j r ht) (q_dm dm_X10_addTry 23 rfl) ?_
  refine qr_letm (fun m3 => ?_)
  exact qr_vret o rfl (q_dm dm_X10_addTry 24 rfl)

theorem a_X10_addTry (g : qG) (l : Launch) (n : Nat) (j r : Nat) (hj : q_isLaw j) (hr : q_isLaw r) {t : Nat} (ht : q_isTown t) (a1 a2 : Int32) (M : qM) : qAM g l 1 zX10_addTry (qL j r) [.inr (some t), .inl a1, .inl a2] (qL j r, M) (f_X10_addTry n t a1 a2 M) :=
  qAM.of zv_X10_addTry.1 (by show 3 ≤ 4; decide) (fun k hk o => w_X10_addTry n j r hj hr ht o a1 a2 M)
def tb_X10_hasCounted : List (Nat × Instr × Nat) := [(0, (.iconst 0, 1)), (1, (.istore_n 3, 1)), (2, (.iload_n 3, 1)), (3, (.bipush 12, 2)), (5, (.if_icmp .ge 34, 3)), (8, (.iload_n 2, 1)), (9, (.iload_n 3, 1)), (10, (.ishr, 1)), (11, (.iconst 1, 1)), (12, (.iand, 1)), (13, (.iconst 1, 1)), (14, (.if_icmp .ne 19, 3)), (17, (.aload_n 0, 1)), (18, (.getfield 21, 3)), (21, (.iload_n 1, 1)), (22, (.bipush 12, 2)), (24, (.imul, 1)), (25, (.iload_n 3, 1)), (26, (.iadd, 1)), (27, (.iaload, 1)), (28, (.ifCond .ne 5, 3)), (31, (.iconst 0, 1)), (32, (.ireturn, 1)), (33, (.iinc 3 1, 3)), (36, (.goto (-34), 3)), (39, (.iconst 1, 1)), (40, (.ireturn, 1))]
theorem dm_X10_hasCounted : ∀ q ∈ tb_X10_hasCounted, decode zX10_hasCounted.2.1 q.1 = .ok q.2 := by decide +kernel
def b_X10_hasCounted_2 (n : Nat) (t : Nat) (K2 : Int32 → Int32 → Int32 → qM → qR) (a1 a2 a3 : Int32) (M : qM) : qR :=
  (if (12 : Int32) ≤ a3 then some ((1 : Int32), M) else (if ((a2 >>> (a3 &&& 31)) &&& (1 : Int32)) = (1 : Int32) then qg ((a1 * (12 : Int32)) + a3) 96 ((if (M (t + 4) ((a1 * (12 : Int32)) + a3).toNatClampNeg) = (0 : Int32) then some ((0 : Int32), M) else ql (a3 + (1 : Int32)) (fun x2 => K2 a1 a2 x2 M))) else ql (a3 + (1 : Int32)) (fun x1 => K2 a1 a2 x1 M)))
set_option maxRecDepth 4000 in
theorem wb_X10_hasCounted_2 {g : qG} {k : qK} (n : Nat) (j r : Nat) (hj : q_isLaw j) (hr : q_isLaw r) {t : Nat} (ht : q_isTown t) (o : qOk g 0 zX10_hasCounted k) (K2 : Int32 → Int32 → Int32 → qM → qR) (hK2 : ∀ (a1 a2 a3 : Int32) (M : qM), qAE g k zX10_hasCounted (qL j r) 2 [some (.inr (some t)), some (.inl a1), some (.inl a2), some (.inl a3)] [] (qL j r, M) (K2 a1 a2 a3 M)) (a1 a2 a3 : Int32) (M : qM) : qAE g k zX10_hasCounted (qL j r) 2 [some (.inr (some t)), some (.inl a1), some (.inl a2), some (.inl a3)] [] (qL j r, M) (b_X10_hasCounted_2 n t K2 a1 a2 a3 M) := by
  unfold b_X10_hasCounted_2
  refine qr_iload_n o (q_dm dm_X10_hasCounted 2 rfl) rfl ?_
  refine qr_bipush o (q_dm dm_X10_hasCounted 3 rfl) bi_12 ?_
  refine qr_icmp_ge (tgt := 39) o (q_dm dm_X10_hasCounted 4 rfl) (by decide) ?_ ?_
  · refine qr_iconst o (q_dm dm_X10_hasCounted 25 rfl) ic_1 ?_
    exact qr_iret o rfl (by decide) (q_dm dm_X10_hasCounted 26 rfl)
  · refine qr_iload_n o (q_dm dm_X10_hasCounted 5 rfl) rfl ?_
    refine qr_iload_n o (q_dm dm_X10_hasCounted 6 rfl) rfl ?_
    refine qr_ishr o (q_dm dm_X10_hasCounted 7 rfl) ?_
    refine qr_iconst o (q_dm dm_X10_hasCounted 8 rfl) ic_1 ?_
    refine qr_iand o (q_dm dm_X10_hasCounted 9 rfl) ?_
    refine qr_iconst o (q_dm dm_X10_hasCounted 10 rfl) ic_1 ?_
    refine qr_icmp_ne (tgt := 33) o (q_dm dm_X10_hasCounted 11 rfl) (by decide) ?_ ?_
    · refine qs_iincl2 (L' := fun x1 => [some (.inr (some t)), some (.inl a1), some (.inl a2), some (.inl x1)]) o (q_dm dm_X10_hasCounted 23 rfl) rfl ic_1 (Nat.le_of_ble_eq_true rfl) (fun _ => rfl) (fun x1 => ?_)
      refine qr_goto (tgt := 2) o (q_dm dm_X10_hasCounted 24 rfl) (by decide) ?_
      exact qr_loc (q_leS (q_leS (q_leS (q_leS q_le0)))) (hK2 a1 a2 x1 M)
    · refine qr_aload_n o (q_dm dm_X10_hasCounted 12 rfl) rfl ?_
      refine qr_getr (kf := 3) o cf_X10 (shT0 j r ht) rfl (Nat.le_of_ble_eq_true rfl) fl_X10_21 (q_dm dm_X10_hasCounted 13 rfl) ?_
      refine qr_iload_n o (q_dm dm_X10_hasCounted 14 rfl) rfl ?_
      refine qr_bipush o (q_dm dm_X10_hasCounted 15 rfl) bi_12 ?_
      refine qr_imul o (q_dm dm_X10_hasCounted 16 rfl) ?_
      refine qr_iload_n o (q_dm dm_X10_hasCounted 17 rfl) rfl ?_
      refine qr_iadd o (q_dm dm_X10_hasCounted 18 rfl) ?_
      refine qr_iald o (shT4 j r ht) (q_dm dm_X10_hasCounted 19 rfl) ?_
      refine qr_if_ne (tgt := 33) o (q_dm dm_X10_hasCounted 20 rfl) (by decide) ?_ ?_
      · refine qs_iincl2 (L' := fun x2 => [some (.inr (some t)), some (.inl a1), some (.inl a2), some (.inl x2)]) o (q_dm dm_X10_hasCounted 23 rfl) rfl ic_1 (Nat.le_of_ble_eq_true rfl) (fun _ => rfl) (fun x2 => ?_)
        refine qr_goto (tgt := 2) o (q_dm dm_X10_hasCounted 24 rfl) (by decide) ?_
        exact qr_loc (q_leS (q_leS (q_leS (q_leS q_le0)))) (hK2 a1 a2 x2 M)
      · refine qr_iconst o (q_dm dm_X10_hasCounted 21 rfl) ic_0 ?_
        exact qr_iret o rfl (by decide) (q_dm dm_X10_hasCounted 22 rfl)

def f_X10_hasCounted_2 (n : Nat) (t : Nat) : Nat → Int32 → Int32 → Int32 → qM → qR
  | 0, _, _, _, _ => none
  | m + 1, a1, a2, a3, M => b_X10_hasCounted_2 n t (f_X10_hasCounted_2 n t m) a1 a2 a3 M
theorem w_X10_hasCounted_2 {g : qG} {k : qK} (n : Nat) (j r : Nat) (hj : q_isLaw j) (hr : q_isLaw r) {t : Nat} (ht : q_isTown t) (o : qOk g 0 zX10_hasCounted k) : ∀ (m : Nat) (a1 a2 a3 : Int32) (M : qM), qAE g k zX10_hasCounted (qL j r) 2 [some (.inr (some t)), some (.inl a1), some (.inl a2), some (.inl a3)] [] (qL j r, M) (f_X10_hasCounted_2 n t m a1 a2 a3 M) := by
  intro m
  induction m with
  | zero =>
    intro a1 a2 a3 M
    exact qr_none
  | succ m ih =>
    intro a1 a2 a3 M
    exact wb_X10_hasCounted_2 n j r hj hr ht o (f_X10_hasCounted_2 n t m) ih a1 a2 a3 M
def f_X10_hasCounted (n : Nat) (t : Nat) (a1 a2 : Int32) (M : qM) : qR :=
  f_X10_hasCounted_2 n t n a1 a2 (0 : Int32) M
set_option maxRecDepth 4000 in
theorem w_X10_hasCounted {g : qG} {k : qK} (n : Nat) (j r : Nat) (hj : q_isLaw j) (hr : q_isLaw r) {t : Nat} (ht : q_isTown t) (o : qOk g 0 zX10_hasCounted k) (a1 a2 : Int32) (M : qM) : qAE g k zX10_hasCounted (qL j r) 0 [some (.inr (some t)), some (.inl a1), some (.inl a2), none] [] (qL j r, M) (f_X10_hasCounted n t a1 a2 M) := by
  unfold f_X10_hasCounted
  refine qr_iconst o (q_dm dm_X10_hasCounted 0 rfl) ic_0 ?_
  refine qs_istore_n (L' := [some (.inr (some t)), some (.inl a1), some (.inl a2), some (.inl (0 : Int32))]) o (q_dm dm_X10_hasCounted 1 rfl) (Nat.le_of_ble_eq_true rfl) rfl ?_
  exact qr_loc (q_leS (q_leS (q_leS (q_leS q_le0)))) (w_X10_hasCounted_2 n j r hj hr ht o n a1 a2 (0 : Int32) M)

theorem a_X10_hasCounted (g : qG) (l : Launch) (n : Nat) (j r : Nat) (hj : q_isLaw j) (hr : q_isLaw r) {t : Nat} (ht : q_isTown t) (a1 a2 : Int32) (M : qM) : qAM g l 0 zX10_hasCounted (qL j r) [.inr (some t), .inl a1, .inl a2] (qL j r, M) (f_X10_hasCounted n t a1 a2 M) :=
  qAM.of zv_X10_hasCounted.1 (by show 3 ≤ 4; decide) (fun k hk o => w_X10_hasCounted n j r hj hr ht o a1 a2 M)
def tb_X10_triesAmong : List (Nat × Instr × Nat) := [(0, (.iconst 0, 1)), (1, (.istore_n 3, 1)), (2, (.iconst 0, 1)), (3, (.istore 4, 2)), (5, (.iload 4, 2)), (7, (.bipush 12, 2)), (9, (.if_icmp .ge 34, 3)), (12, (.iload_n 2, 1)), (13, (.iload 4, 2)), (15, (.ishr, 1)), (16, (.iconst 1, 1)), (17, (.iand, 1)), (18, (.iconst 1, 1)), (19, (.if_icmp .ne 18, 3)), (22, (.iload_n 3, 1)), (23, (.aload_n 0, 1)), (24, (.getfield 15, 3)), (27, (.iload_n 1, 1)), (28, (.bipush 12, 2)), (30, (.imul, 1)), (31, (.iload 4, 2)), (33, (.iadd, 1)), (34, (.iaload, 1)), (35, (.iadd, 1)), (36, (.istore_n 3, 1)), (37, (.iinc 4 1, 3)), (40, (.goto (-35), 3)), (43, (.iload_n 3, 1)), (44, (.ireturn, 1))]
theorem dm_X10_triesAmong : ∀ q ∈ tb_X10_triesAmong, decode zX10_triesAmong.2.1 q.1 = .ok q.2 := by decide +kernel
def b_X10_triesAmong_5 (n : Nat) (t : Nat) (K5 : Int32 → Int32 → Int32 → Int32 → qM → qR) (a1 a2 a3 a4 : Int32) (M : qM) : qR :=
  (if (12 : Int32) ≤ a4 then some (a3, M) else (if ((a2 >>> (a4 &&& 31)) &&& (1 : Int32)) = (1 : Int32) then qg ((a1 * (12 : Int32)) + a4) 96 (ql (a3 + (M (t + 2) ((a1 * (12 : Int32)) + a4).toNatClampNeg)) (fun x2 => ql (a4 + (1 : Int32)) (fun x3 => K5 a1 a2 x2 x3 M))) else ql (a4 + (1 : Int32)) (fun x1 => K5 a1 a2 a3 x1 M)))
set_option maxRecDepth 4000 in
theorem wb_X10_triesAmong_5 {g : qG} {k : qK} (n : Nat) (j r : Nat) (hj : q_isLaw j) (hr : q_isLaw r) {t : Nat} (ht : q_isTown t) (o : qOk g 0 zX10_triesAmong k) (K5 : Int32 → Int32 → Int32 → Int32 → qM → qR) (hK5 : ∀ (a1 a2 a3 a4 : Int32) (M : qM), qAE g k zX10_triesAmong (qL j r) 5 [some (.inr (some t)), some (.inl a1), some (.inl a2), some (.inl a3), some (.inl a4)] [] (qL j r, M) (K5 a1 a2 a3 a4 M)) (a1 a2 a3 a4 : Int32) (M : qM) : qAE g k zX10_triesAmong (qL j r) 5 [some (.inr (some t)), some (.inl a1), some (.inl a2), some (.inl a3), some (.inl a4)] [] (qL j r, M) (b_X10_triesAmong_5 n t K5 a1 a2 a3 a4 M) := by
  unfold b_X10_triesAmong_5
  refine qr_iload o (q_dm dm_X10_triesAmong 4 rfl) rfl ?_
  refine qr_bipush o (q_dm dm_X10_triesAmong 5 rfl) bi_12 ?_
  refine qr_icmp_ge (tgt := 43) o (q_dm dm_X10_triesAmong 6 rfl) (by decide) ?_ ?_
  · refine qr_iload_n o (q_dm dm_X10_triesAmong 27 rfl) rfl ?_
    exact qr_iret o rfl rfl (q_dm dm_X10_triesAmong 28 rfl)
  · refine qr_iload_n o (q_dm dm_X10_triesAmong 7 rfl) rfl ?_
    refine qr_iload o (q_dm dm_X10_triesAmong 8 rfl) rfl ?_
    refine qr_ishr o (q_dm dm_X10_triesAmong 9 rfl) ?_
    refine qr_iconst o (q_dm dm_X10_triesAmong 10 rfl) ic_1 ?_
    refine qr_iand o (q_dm dm_X10_triesAmong 11 rfl) ?_
    refine qr_iconst o (q_dm dm_X10_triesAmong 12 rfl) ic_1 ?_
    refine qr_icmp_ne (tgt := 37) o (q_dm dm_X10_triesAmong 13 rfl) (by decide) ?_ ?_
    · refine qs_iincl2 (L' := fun x1 => [some (.inr (some t)), some (.inl a1), some (.inl a2), some (.inl a3), some (.inl x1)]) o (q_dm dm_X10_triesAmong 25 rfl) rfl ic_1 (Nat.le_of_ble_eq_true rfl) (fun _ => rfl) (fun x1 => ?_)
      refine qr_goto (tgt := 5) o (q_dm dm_X10_triesAmong 26 rfl) (by decide) ?_
      exact qr_loc (q_leS (q_leS (q_leS (q_leS (q_leS q_le0))))) (hK5 a1 a2 a3 x1 M)
    · refine qr_iload_n o (q_dm dm_X10_triesAmong 14 rfl) rfl ?_
      refine qr_aload_n o (q_dm dm_X10_triesAmong 15 rfl) rfl ?_
      refine qr_getr (kf := 1) o cf_X10 (shT0 j r ht) rfl (Nat.le_of_ble_eq_true rfl) fl_X10_15 (q_dm dm_X10_triesAmong 16 rfl) ?_
      refine qr_iload_n o (q_dm dm_X10_triesAmong 17 rfl) rfl ?_
      refine qr_bipush o (q_dm dm_X10_triesAmong 18 rfl) bi_12 ?_
      refine qr_imul o (q_dm dm_X10_triesAmong 19 rfl) ?_
      refine qr_iload o (q_dm dm_X10_triesAmong 20 rfl) rfl ?_
      refine qr_iadd o (q_dm dm_X10_triesAmong 21 rfl) ?_
      refine qr_iald o (shT2 j r ht) (q_dm dm_X10_triesAmong 22 rfl) ?_
      refine qr_iadd o (q_dm dm_X10_triesAmong 23 rfl) ?_
      refine qr_lt (fun x2 => ?_)
      refine qs_istore_n (L' := [some (.inr (some t)), some (.inl a1), some (.inl a2), some (.inl x2), some (.inl a4)]) o (q_dm dm_X10_triesAmong 24 rfl) (Nat.le_of_ble_eq_true rfl) rfl ?_
      refine qs_iincl2 (L' := fun x3 => [some (.inr (some t)), some (.inl a1), some (.inl a2), some (.inl x2), some (.inl x3)]) o (q_dm dm_X10_triesAmong 25 rfl) rfl ic_1 (Nat.le_of_ble_eq_true rfl) (fun _ => rfl) (fun x3 => ?_)
      refine qr_goto (tgt := 5) o (q_dm dm_X10_triesAmong 26 rfl) (by decide) ?_
      exact qr_loc (q_leS (q_leS (q_leS (q_leS (q_leS q_le0))))) (hK5 a1 a2 x2 x3 M)

def f_X10_triesAmong_5 (n : Nat) (t : Nat) : Nat → Int32 → Int32 → Int32 → Int32 → qM → qR
  | 0, _, _, _, _, _ => none
  | m + 1, a1, a2, a3, a4, M => b_X10_triesAmong_5 n t (f_X10_triesAmong_5 n t m) a1 a2 a3 a4 M
theorem w_X10_triesAmong_5 {g : qG} {k : qK} (n : Nat) (j r : Nat) (hj : q_isLaw j) (hr : q_isLaw r) {t : Nat} (ht : q_isTown t) (o : qOk g 0 zX10_triesAmong k) : ∀ (m : Nat) (a1 a2 a3 a4 : Int32) (M : qM), qAE g k zX10_triesAmong (qL j r) 5 [some (.inr (some t)), some (.inl a1), some (.inl a2), some (.inl a3), some (.inl a4)] [] (qL j r, M) (f_X10_triesAmong_5 n t m a1 a2 a3 a4 M) := by
  intro m
  induction m with
  | zero =>
    intro a1 a2 a3 a4 M
    exact qr_none
  | succ m ih =>
    intro a1 a2 a3 a4 M
    exact wb_X10_triesAmong_5 n j r hj hr ht o (f_X10_triesAmong_5 n t m) ih a1 a2 a3 a4 M
def f_X10_triesAmong (n : Nat) (t : Nat) (a1 a2 : Int32) (M : qM) : qR :=
  f_X10_triesAmong_5 n t n a1 a2 (0 : Int32) (0 : Int32) M
set_option maxRecDepth 4000 in
theorem w_X10_triesAmong {g : qG} {k : qK} (n : Nat) (j r : Nat) (hj : q_isLaw j) (hr : q_isLaw r) {t : Nat} (ht : q_isTown t) (o : qOk g 0 zX10_triesAmong k) (a1 a2 : Int32) (M : qM) : qAE g k zX10_triesAmong (qL j r) 0 [some (.inr (some t)), some (.inl a1), some (.inl a2), none, none] [] (qL j r, M) (f_X10_triesAmong n t a1 a2 M) := by
  unfold f_X10_triesAmong
  refine qr_iconst o (q_dm dm_X10_triesAmong 0 rfl) ic_0 ?_
  refine qs_istore_n (L' := [some (.inr (some t)), some (.inl a1), some (.inl a2), some (.inl (0 : Int32)), none]) o (q_dm dm_X10_triesAmong 1 rfl) (Nat.le_of_ble_eq_true rfl) rfl ?_
  refine qr_iconst o (q_dm dm_X10_triesAmong 2 rfl) ic_0 ?_
  refine qs_istore (L' := [some (.inr (some t)), some (.inl a1), some (.inl a2), some (.inl (0 : Int32)), some (.inl (0 : Int32))]) o (q_dm dm_X10_triesAmong 3 rfl) (Nat.le_of_ble_eq_true rfl) rfl ?_
  exact qr_loc (q_leS (q_leS (q_leS (q_leS (q_leS q_le0))))) (w_X10_triesAmong_5 n j r hj hr ht o n a1 a2 (0 : Int32) (0 : Int32) M)

theorem a_X10_triesAmong (g : qG) (l : Launch) (n : Nat) (j r : Nat) (hj : q_isLaw j) (hr : q_isLaw r) {t : Nat} (ht : q_isTown t) (a1 a2 : Int32) (M : qM) : qAM g l 0 zX10_triesAmong (qL j r) [.inr (some t), .inl a1, .inl a2] (qL j r, M) (f_X10_triesAmong n t a1 a2 M) :=
  qAM.of zv_X10_triesAmong.1 (by show 3 ≤ 5; decide) (fun k hk o => w_X10_triesAmong n j r hj hr ht o a1 a2 M)
def tb_X1_isAlike : List (Nat × Instr × Nat) := [(0, (.aload_n 0, 1)), (1, (.getfield 13, 3)), (4, (.iconst 3, 1)), (5, (.iload_n 1, 1)), (6, (.iastore, 1)), (7, (.aload_n 0, 1)), (8, (.getfield 13, 3)), (11, (.iconst 4, 1)), (12, (.aload_n 0, 1)), (13, (.getfield 28, 3)), (16, (.getfield 37, 3)), (19, (.iload_n 1, 1)), (20, (.iaload, 1)), (21, (.iastore, 1)), (22, (.aload_n 0, 1)), (23, (.getfield 13, 3)), (26, (.iconst 5, 1)), (27, (.aload_n 0, 1)), (28, (.getfield 13, 3)), (31, (.iconst 2, 1)), (32, (.iaload, 1)), (33, (.aload_n 0, 1)), (34, (.getfield 28, 3)), (37, (.getfield 37, 3)), (40, (.iload_n 1, 1)), (41, (.iaload, 1)), (42, (.iand, 1)), (43, (.invokestatic 89, 3)), (46, (.iastore, 1)), (47, (.iconst 0, 1)), (48, (.istore_n 2, 1)), (49, (.iload_n 2, 1)), (50, (.aload_n 0, 1)), (51, (.getfield 24, 3)), (54, (.getfield 61, 3)), (57, (.if_icmp .ge 50, 3)), (60, (.aload_n 0, 1)), (61, (.getfield 24, 3)), (64, (.getfield 65, 3)), (67, (.iload_n 2, 1)), (68, (.iaload, 1)), (69, (.bipush 97, 2)), (71, (.if_icmp .ne 30, 3)), (74, (.aload_n 0, 1)), (75, (.aload_n 0, 1)), (76, (.getfield 24, 3)), (79, (.getfield 68, 3)), (82, (.iload_n 2, 1)), (83, (.iaload, 1)), (84, (.aload_n 0, 1)), (85, (.getfield 24, 3)), (88, (.getfield 71, 3)), (91, (.iload_n 2, 1)), (92, (.iaload, 1)), (93, (.invokevirtual 74, 3)), (96, (.ifCond .eq 5, 3)), (99, (.iconst 1, 1)), (100, (.ireturn, 1)), (101, (.iinc 2 1, 3)), (104, (.goto (-55), 3)), (107, (.iconst 0, 1)), (108, (.ireturn, 1))]
theorem dm_X1_isAlike : ∀ q ∈ tb_X1_isAlike, decode zX1_isAlike.2.1 q.1 = .ok q.2 := by decide +kernel
def b_X1_isAlike_49 (n : Nat) (j : Nat) (K49 : Int32 → qM → qR) (a2 : Int32) (M : qM) : qR :=
  (if (M j 7) ≤ a2 then some ((0 : Int32), M) else qg a2 16 ((if (M (j + 3) a2.toNatClampNeg) = (97 : Int32) then qg a2 16 (qg a2 16 (qc (f_X1_run n j (M (j + 5) a2.toNatClampNeg) (M (j + 6) a2.toNatClampNeg) M) (fun r2 m3 => (if r2 = (0 : Int32) then ql (a2 + (1 : Int32)) (fun x4 => K49 x4 m3) else some ((1 : Int32), m3))))) else ql (a2 + (1 : Int32)) (fun x1 => K49 x1 M))))
set_option maxRecDepth 4000 in
theorem wb_X1_isAlike_49 {g : qG} {k : qK} (n : Nat) (j r : Nat) (hj : q_isLaw j) (hr : q_isLaw r) (o : qOk g 2 zX1_isAlike k) (K49 : Int32 → qM → qR) (hK49 : ∀ (a2 : Int32) (M : qM), qAE g k zX1_isAlike (qL j r) 49 [some (.inr (some 34)), none, some (.inl a2)] [] (qL j r, M) (K49 a2 M)) (a2 : Int32) (M : qM) : qAE g k zX1_isAlike (qL j r) 49 [some (.inr (some 34)), none, some (.inl a2)] [] (qL j r, M) (b_X1_isAlike_49 n j K49 a2 M) := by
  unfold b_X1_isAlike_49
  refine qr_iload_n o (q_dm dm_X1_isAlike 31 rfl) rfl ?_
  refine qr_aload_n o (q_dm dm_X1_isAlike 32 rfl) rfl ?_
  refine qr_getr (kf := 3) o cf_X1 (sh34 j r) rfl (Nat.le_of_ble_eq_true rfl) fl_X1_24 (q_dm dm_X1_isAlike 33 rfl) ?_
  refine qr_getf (kf := 7) o cf_X3 (shW0 j r hj) rfl (Nat.le_of_ble_eq_true rfl) fl_X1_61 (q_dm dm_X1_isAlike 34 rfl) ?_
  refine qr_icmp_ge (tgt := 107) o (q_dm dm_X1_isAlike 35 rfl) (by decide) ?_ ?_
  · refine qr_iconst o (q_dm dm_X1_isAlike 60 rfl) ic_0 ?_
    exact qr_iret o rfl (by decide) (q_dm dm_X1_isAlike 61 rfl)
  · refine qr_aload_n o (q_dm dm_X1_isAlike 36 rfl) rfl ?_
    refine qr_getr (kf := 3) o cf_X1 (sh34 j r) rfl (Nat.le_of_ble_eq_true rfl) fl_X1_24 (q_dm dm_X1_isAlike 37 rfl) ?_
    refine qr_getr (kf := 2) o cf_X3 (shW0 j r hj) rfl (Nat.le_of_ble_eq_true rfl) fl_X1_65 (q_dm dm_X1_isAlike 38 rfl) ?_
    refine qr_iload_n o (q_dm dm_X1_isAlike 39 rfl) rfl ?_
    refine qr_iald o (shW3 j r hj) (q_dm dm_X1_isAlike 40 rfl) ?_
    refine qr_bipush o (q_dm dm_X1_isAlike 41 rfl) bi_97 ?_
    refine qr_icmp_ne (tgt := 101) o (q_dm dm_X1_isAlike 42 rfl) (by decide) ?_ ?_
    · refine qs_iincl2 (L' := fun x1 => [some (.inr (some 34)), none, some (.inl x1)]) o (q_dm dm_X1_isAlike 58 rfl) rfl ic_1 (Nat.le_of_ble_eq_true rfl) (fun _ => rfl) (fun x1 => ?_)
      refine qr_goto (tgt := 49) o (q_dm dm_X1_isAlike 59 rfl) (by decide) ?_
      exact qr_loc (q_leS (q_leN (q_leS q_le0))) (hK49 x1 M)
    · refine qr_aload_n o (q_dm dm_X1_isAlike 43 rfl) rfl ?_
      refine qr_aload_n o (q_dm dm_X1_isAlike 44 rfl) rfl ?_
      refine qr_getr (kf := 3) o cf_X1 (sh34 j r) rfl (Nat.le_of_ble_eq_true rfl) fl_X1_24 (q_dm dm_X1_isAlike 45 rfl) ?_
      refine qr_getr (kf := 4) o cf_X3 (shW0 j r hj) rfl (Nat.le_of_ble_eq_true rfl) fl_X1_68 (q_dm dm_X1_isAlike 46 rfl) ?_
      refine qr_iload_n o (q_dm dm_X1_isAlike 47 rfl) rfl ?_
      refine qr_iald o (shW5 j r hj) (q_dm dm_X1_isAlike 48 rfl) ?_
      refine qr_aload_n o (q_dm dm_X1_isAlike 49 rfl) rfl ?_
      refine qr_getr (kf := 3) o cf_X1 (sh34 j r) rfl (Nat.le_of_ble_eq_true rfl) fl_X1_24 (q_dm dm_X1_isAlike 50 rfl) ?_
      refine qr_getr (kf := 5) o cf_X3 (shW0 j r hj) rfl (Nat.le_of_ble_eq_true rfl) fl_X1_71 (q_dm dm_X1_isAlike 51 rfl) ?_
      refine qr_iload_n o (q_dm dm_X1_isAlike 52 rfl) rfl ?_
      refine qr_iald o (shW6 j r hj) (q_dm dm_X1_isAlike 53 rfl) ?_
      refine qr_callv_i (As := [.inl (M (j + 5) a2.toNatClampNeg), .inl (M (j + 6) a2.toNatClampNeg)]) (S := []) o (a_X1_run g k.2.1 n j r hj hr (M (j + 5) a2.toNatClampNeg) (M (j + 6) a2.toNatClampNeg) M) (Nat.le_of_ble_eq_true rfl) zv_X1_run rfl cf_X1 (sh34 j r) ml_X1_74 (Nat.le_of_ble_eq_true rfl) (q_dm dm_X1_isAlike 54 rfl) (fun r2 m3 => ?_)
      refine qr_if_eq (tgt := 101) o (q_dm dm_X1_isAlike 55 rfl) (by decide) ?_ ?_
      · refine qs_iincl2 (L' := fun x4 => [some (.inr (some 34)), none, some (.inl x4)]) o (q_dm dm_X1_isAlike 58 rfl) rfl ic_1 (Nat.le_of_ble_eq_true rfl) (fun _ => rfl) (fun x4 => ?_)
        refine qr_goto (tgt := 49) o (q_dm dm_X1_isAlike 59 rfl) (by decide) ?_
        exact qr_loc (q_leS (q_leN (q_leS q_le0))) (hK49 x4 m3)
      · refine qr_iconst o (q_dm dm_X1_isAlike 56 rfl) ic_1 ?_
        exact qr_iret o rfl (by decide) (q_dm dm_X1_isAlike 57 rfl)

def f_X1_isAlike_49 (n : Nat) (j : Nat) : Nat → Int32 → qM → qR
  | 0, _, _ => none
  | m + 1, a2, M => b_X1_isAlike_49 n j (f_X1_isAlike_49 n j m) a2 M
theorem w_X1_isAlike_49 {g : qG} {k : qK} (n : Nat) (j r : Nat) (hj : q_isLaw j) (hr : q_isLaw r) (o : qOk g 2 zX1_isAlike k) : ∀ (m : Nat) (a2 : Int32) (M : qM), qAE g k zX1_isAlike (qL j r) 49 [some (.inr (some 34)), none, some (.inl a2)] [] (qL j r, M) (f_X1_isAlike_49 n j m a2 M) := by
  intro m
  induction m with
  | zero =>
    intro a2 M
    exact qr_none
  | succ m ih =>
    intro a2 M
    exact wb_X1_isAlike_49 n j r hj hr o (f_X1_isAlike_49 n j m) ih a2 M
def f_X1_isAlike (n : Nat) (j : Nat) (a1 : Int32) (M : qM) : qR :=
  qlm (mu M 35 3 a1) (fun m1 => qg a1 12 (qlm (mu m1 35 4 (m1 5 a1.toNatClampNeg)) (fun m2 => qg a1 12 (qc (f_J6_bitCount_0f7a4 n ((m2 35 2) &&& (m2 5 a1.toNatClampNeg)) m2) (fun r3 m4 => qlm (mu m4 35 5 r3) (fun m5 => f_X1_isAlike_49 n j n (0 : Int32) m5))))))
set_option maxRecDepth 4000 in
theorem w_X1_isAlike {g : qG} {k : qK} (n : Nat) (j r : Nat) (hj : q_isLaw j) (hr : q_isLaw r) (o : qOk g 2 zX1_isAlike k) (a1 : Int32) (M : qM) : qAE g k zX1_isAlike (qL j r) 0 [some (.inr (some 34)), some (.inl a1), none] [] (qL j r, M) (f_X1_isAlike n j a1 M) := by
  unfold f_X1_isAlike
  refine qr_aload_n o (q_dm dm_X1_isAlike 0 rfl) rfl ?_
  refine qr_getr (kf := 1) o cf_X1 (sh34 j r) rfl (Nat.le_of_ble_eq_true rfl) fl_X1_13 (q_dm dm_X1_isAlike 1 rfl) ?_
  refine qr_iconst o (q_dm dm_X1_isAlike 2 rfl) ic_3 ?_
  refine qr_iload_n o (q_dm dm_X1_isAlike 3 rfl) rfl ?_
  refine qr_iast0 (c := 3) o (sh35 j r) (by decide) (by decide) (q_dm dm_X1_isAlike 4 rfl) ?_
  refine qr_letm (fun m1 => ?_)
  refine qr_aload_n o (q_dm dm_X1_isAlike 5 rfl) rfl ?_
  refine qr_getr (kf := 1) o cf_X1 (sh34 j r) rfl (Nat.le_of_ble_eq_true rfl) fl_X1_13 (q_dm dm_X1_isAlike 6 rfl) ?_
  refine qr_iconst o (q_dm dm_X1_isAlike 7 rfl) ic_4 ?_
  refine qr_aload_n o (q_dm dm_X1_isAlike 8 rfl) rfl ?_
  refine qr_getr (kf := 0) o cf_X1 (sh34 j r) rfl (Nat.le_of_ble_eq_true rfl) fl_X1_28 (q_dm dm_X1_isAlike 9 rfl) ?_
  refine qr_getr (kf := 1) o cf_X2 (sh3 j r) rfl (Nat.le_of_ble_eq_true rfl) fl_X1_37 (q_dm dm_X1_isAlike 10 rfl) ?_
  refine qr_iload_n o (q_dm dm_X1_isAlike 11 rfl) rfl ?_
  refine qr_iald o (sh5 j r) (q_dm dm_X1_isAlike 12 rfl) ?_
  refine qr_iast0 (c := 4) o (sh35 j r) (by decide) (by decide) (q_dm dm_X1_isAlike 13 rfl) ?_
  refine qr_letm (fun m2 => ?_)
  refine qr_aload_n o (q_dm dm_X1_isAlike 14 rfl) rfl ?_
  refine qr_getr (kf := 1) o cf_X1 (sh34 j r) rfl (Nat.le_of_ble_eq_true rfl) fl_X1_13 (q_dm dm_X1_isAlike 15 rfl) ?_
  refine qr_iconst o (q_dm dm_X1_isAlike 16 rfl) ic_5 ?_
  refine qr_aload_n o (q_dm dm_X1_isAlike 17 rfl) rfl ?_
  refine qr_getr (kf := 1) o cf_X1 (sh34 j r) rfl (Nat.le_of_ble_eq_true rfl) fl_X1_13 (q_dm dm_X1_isAlike 18 rfl) ?_
  refine qr_iconst o (q_dm dm_X1_isAlike 19 rfl) ic_2 ?_
  refine qr_iald0 (c := 2) o (sh35 j r) (by decide) (by decide) (q_dm dm_X1_isAlike 20 rfl) ?_
  refine qr_aload_n o (q_dm dm_X1_isAlike 21 rfl) rfl ?_
  refine qr_getr (kf := 0) o cf_X1 (sh34 j r) rfl (Nat.le_of_ble_eq_true rfl) fl_X1_28 (q_dm dm_X1_isAlike 22 rfl) ?_
  refine qr_getr (kf := 1) o cf_X2 (sh3 j r) rfl (Nat.le_of_ble_eq_true rfl) fl_X1_37 (q_dm dm_X1_isAlike 23 rfl) ?_
  refine qr_iload_n o (q_dm dm_X1_isAlike 24 rfl) rfl ?_
  refine qr_iald o (sh5 j r) (q_dm dm_X1_isAlike 25 rfl) ?_
  refine qr_iand o (q_dm dm_X1_isAlike 26 rfl) ?_
  refine qr_calls_i (As := [.inl ((m2 35 2) &&& (m2 5 a1.toNatClampNeg))]) (S := [.inl (5 : Int32), .inr (some 35)]) o (a_J6_bitCount_0f7a4 g k.2.1 n j r hj hr ((m2 35 2) &&& (m2 5 a1.toNatClampNeg)) m2) (Nat.le_of_ble_eq_true rfl) zs_J6_bitCount_0f7a4 rfl ml_X1_89 (Nat.le_of_ble_eq_true rfl) (q_dm dm_X1_isAlike 27 rfl) (fun r3 m4 => ?_)
  refine qr_iast0 (c := 5) o (sh35 j r) (by decide) (by decide) (q_dm dm_X1_isAlike 28 rfl) ?_
  refine qr_letm (fun m5 => ?_)
  refine qr_iconst o (q_dm dm_X1_isAlike 29 rfl) ic_0 ?_
  refine qs_istore_n (L' := [some (.inr (some 34)), some (.inl a1), some (.inl (0 : Int32))]) o (q_dm dm_X1_isAlike 30 rfl) (Nat.le_of_ble_eq_true rfl) rfl ?_
  exact qr_loc (q_leS (q_leN (q_leS q_le0))) (w_X1_isAlike_49 n j r hj hr o n (0 : Int32) m5)

theorem a_X1_isAlike (g : qG) (l : Launch) (n : Nat) (j r : Nat) (hj : q_isLaw j) (hr : q_isLaw r) (a1 : Int32) (M : qM) : qAM g l 2 zX1_isAlike (qL j r) [.inr (some 34), .inl a1] (qL j r, M) (f_X1_isAlike n j a1 M) :=
  qAM.of zv_X1_isAlike.1 (by show 2 ≤ 3; decide) (fun k hk o => w_X1_isAlike n j r hj hr o a1 M)
def tb_X2_knows : List (Nat × Instr × Nat) := [(0, (.iload_n 1, 1)), (1, (.ifCond .lt 25, 3)), (4, (.iload_n 1, 1)), (5, (.bipush 12, 2)), (7, (.if_icmp .ge 19, 3)), (10, (.aload_n 0, 1)), (11, (.getfield 21, 3)), (14, (.iload_n 1, 1)), (15, (.ishr, 1)), (16, (.iconst 1, 1)), (17, (.iand, 1)), (18, (.iconst 1, 1)), (19, (.if_icmp .ne 7, 3)), (22, (.iconst 1, 1)), (23, (.goto 4, 3)), (26, (.iconst 0, 1)), (27, (.ireturn, 1))]
theorem dm_X2_knows : ∀ q ∈ tb_X2_knows, decode zX2_knows.2.1 q.1 = .ok q.2 := by decide +kernel
def f_X2_knows (n : Nat) (a1 : Int32) (M : qM) : qR :=
  (if a1 < (0 : Int32) then some ((0 : Int32), M) else (if (12 : Int32) ≤ a1 then some ((0 : Int32), M) else (if (((M 3 3) >>> (a1 &&& 31)) &&& (1 : Int32)) = (1 : Int32) then some ((1 : Int32), M) else some ((0 : Int32), M))))
set_option maxRecDepth 4000 in
theorem w_X2_knows {g : qG} {k : qK} (n : Nat) (j r : Nat) (hj : q_isLaw j) (hr : q_isLaw r) (o : qOk g 0 zX2_knows k) (a1 : Int32) (M : qM) : qAE g k zX2_knows (qL j r) 0 [some (.inr (some 3)), some (.inl a1)] [] (qL j r, M) (f_X2_knows n a1 M) := by
  unfold f_X2_knows
  refine qr_iload_n o (q_dm dm_X2_knows 0 rfl) rfl ?_
  refine qr_if_lt (tgt := 26) o (q_dm dm_X2_knows 1 rfl) (by decide) ?_ ?_
  · refine qr_iconst o (q_dm dm_X2_knows 15 rfl) ic_0 ?_
    exact qr_iret o rfl (by decide) (q_dm dm_X2_knows 16 rfl)
  · refine qr_iload_n o (q_dm dm_X2_knows 2 rfl) rfl ?_
    refine qr_bipush o (q_dm dm_X2_knows 3 rfl) bi_12 ?_
    refine qr_icmp_ge (tgt := 26) o (q_dm dm_X2_knows 4 rfl) (by decide) ?_ ?_
    · refine qr_iconst o (q_dm dm_X2_knows 15 rfl) ic_0 ?_
      exact qr_iret o rfl (by decide) (q_dm dm_X2_knows 16 rfl)
    · refine qr_aload_n o (q_dm dm_X2_knows 5 rfl) rfl ?_
      refine qr_getf (kf := 3) o cf_X2 (sh3 j r) rfl (Nat.le_of_ble_eq_true rfl) fl_X2_21 (q_dm dm_X2_knows 6 rfl) ?_
      refine qr_iload_n o (q_dm dm_X2_knows 7 rfl) rfl ?_
      refine qr_ishr o (q_dm dm_X2_knows 8 rfl) ?_
      refine qr_iconst o (q_dm dm_X2_knows 9 rfl) ic_1 ?_
      refine qr_iand o (q_dm dm_X2_knows 10 rfl) ?_
      refine qr_iconst o (q_dm dm_X2_knows 11 rfl) ic_1 ?_
      refine qr_icmp_ne (tgt := 26) o (q_dm dm_X2_knows 12 rfl) (by decide) ?_ ?_
      · refine qr_iconst o (q_dm dm_X2_knows 15 rfl) ic_0 ?_
        exact qr_iret o rfl (by decide) (q_dm dm_X2_knows 16 rfl)
      · refine qr_iconst o (q_dm dm_X2_knows 13 rfl) ic_1 ?_
        refine qr_goto (tgt := 27) o (q_dm dm_X2_knows 14 rfl) (by decide) ?_
        exact qr_iret o rfl (by decide) (q_dm dm_X2_knows 16 rfl)

theorem a_X2_knows (g : qG) (l : Launch) (n : Nat) (j r : Nat) (hj : q_isLaw j) (hr : q_isLaw r) (a1 : Int32) (M : qM) : qAM g l 0 zX2_knows (qL j r) [.inr (some 3), .inl a1] (qL j r, M) (f_X2_knows n a1 M) :=
  qAM.of zv_X2_knows.1 (by show 2 ≤ 2; decide) (fun k hk o => w_X2_knows n j r hj hr o a1 M)
def tb_X1_alikes : List (Nat × Instr × Nat) := [(0, (.iconst 0, 1)), (1, (.istore_n 3, 1)), (2, (.aload_n 0, 1)), (3, (.iload_n 1, 1)), (4, (.aload_n 0, 1)), (5, (.getfield 28, 3)), (8, (.getfield 32, 3)), (11, (.iload_n 1, 1)), (12, (.iaload, 1)), (13, (.aload_n 0, 1)), (14, (.getfield 28, 3)), (17, (.getfield 37, 3)), (20, (.iload_n 1, 1)), (21, (.iaload, 1)), (22, (.iload_n 2, 1)), (23, (.invokevirtual 40, 3)), (26, (.iconst 0, 1)), (27, (.istore 4, 2)), (29, (.iload 4, 2)), (31, (.bipush 12, 2)), (33, (.if_icmp .ge 43, 3)), (36, (.iload 4, 2)), (38, (.iload_n 1, 1)), (39, (.if_icmp .eq 24, 3)), (42, (.aload_n 0, 1)), (43, (.getfield 28, 3)), (46, (.iload 4, 2)), (48, (.invokevirtual 48, 3)), (51, (.ifCond .eq 19, 3)), (54, (.aload_n 0, 1)), (55, (.iload 4, 2)), (57, (.invokevirtual 44, 3)), (60, (.ifCond .eq 10, 3)), (63, (.iload_n 3, 1)), (64, (.iconst 1, 1)), (65, (.iload 4, 2)), (67, (.ishl, 1)), (68, (.ior, 1)), (69, (.istore_n 3, 1)), (70, (.iinc 4 1, 3)), (73, (.goto (-44), 3)), (76, (.iload_n 3, 1)), (77, (.ireturn, 1))]
theorem dm_X1_alikes : ∀ q ∈ tb_X1_alikes, decode zX1_alikes.2.1 q.1 = .ok q.2 := by decide +kernel
def f_X1_alikes_63 (n : Nat) (j : Nat) (K29 : Int32 → Int32 → Int32 → qM → qR) (a1 a3 a4 : Int32) (M : qM) : qR :=
  ql (a3 ||| ((1 : Int32) <<< (a4 &&& 31))) (fun x1 => ql (a4 + (1 : Int32)) (fun x2 => K29 a1 x1 x2 M))
set_option maxRecDepth 4000 in
theorem w_X1_alikes_63 {g : qG} {k : qK} (n : Nat) (j r : Nat) (hj : q_isLaw j) (hr : q_isLaw r) (o : qOk g 3 zX1_alikes k) (K29 : Int32 → Int32 → Int32 → qM → qR) (hK29 : ∀ (a1 a3 a4 : Int32) (M : qM), qAE g k zX1_alikes (qL j r) 29 [some (.inr (some 34)), some (.inl a1), none, some (.inl a3), some (.inl a4)] [] (qL j r, M) (K29 a1 a3 a4 M)) (a1 a3 a4 : Int32) (M : qM) : qAE g k zX1_alikes (qL j r) 63 [some (.inr (some 34)), some (.inl a1), none, some (.inl a3), some (.inl a4)] [] (qL j r, M) (f_X1_alikes_63 n j K29 a1 a3 a4 M) := by
  unfold f_X1_alikes_63
  refine qr_iload_n o (q_dm dm_X1_alikes 33 rfl) rfl ?_
  refine qr_iconst o (q_dm dm_X1_alikes 34 rfl) ic_1 ?_
  refine qr_iload o (q_dm dm_X1_alikes 35 rfl) rfl ?_
  refine qr_ishl o (q_dm dm_X1_alikes 36 rfl) ?_
  refine qr_ior o (q_dm dm_X1_alikes 37 rfl) ?_
  refine qr_lt (fun x1 => ?_)
  refine qs_istore_n (L' := [some (.inr (some 34)), some (.inl a1), none, some (.inl x1), some (.inl a4)]) o (q_dm dm_X1_alikes 38 rfl) (Nat.le_of_ble_eq_true rfl) rfl ?_
  refine qs_iincl2 (L' := fun x2 => [some (.inr (some 34)), some (.inl a1), none, some (.inl x1), some (.inl x2)]) o (q_dm dm_X1_alikes 39 rfl) rfl ic_1 (Nat.le_of_ble_eq_true rfl) (fun _ => rfl) (fun x2 => ?_)
  refine qr_goto (tgt := 29) o (q_dm dm_X1_alikes 40 rfl) (by decide) ?_
  exact qr_loc (q_leS (q_leS (q_leN (q_leS (q_leS q_le0))))) (hK29 a1 x1 x2 M)

def b_X1_alikes_29 (n : Nat) (j : Nat) (K29 : Int32 → Int32 → Int32 → qM → qR) (a1 a3 a4 : Int32) (M : qM) : qR :=
  (if (12 : Int32) ≤ a4 then some (a3, M) else (if a4 = a1 then f_X1_alikes_63 n j K29 a1 a3 a4 M else qc (f_X2_knows n a4 M) (fun r1 m2 => (if r1 = (0 : Int32) then ql (a4 + (1 : Int32)) (fun x3 => K29 a1 a3 x3 m2) else qc (f_X1_isAlike n j a4 m2) (fun r4 m5 => (if r4 = (0 : Int32) then ql (a4 + (1 : Int32)) (fun x6 => K29 a1 a3 x6 m5) else f_X1_alikes_63 n j K29 a1 a3 a4 m5))))))
set_option maxRecDepth 4000 in
theorem wb_X1_alikes_29 {g : qG} {k : qK} (n : Nat) (j r : Nat) (hj : q_isLaw j) (hr : q_isLaw r) (o : qOk g 3 zX1_alikes k) (K29 : Int32 → Int32 → Int32 → qM → qR) (hK29 : ∀ (a1 a3 a4 : Int32) (M : qM), qAE g k zX1_alikes (qL j r) 29 [some (.inr (some 34)), some (.inl a1), none, some (.inl a3), some (.inl a4)] [] (qL j r, M) (K29 a1 a3 a4 M)) (a1 a3 a4 : Int32) (M : qM) : qAE g k zX1_alikes (qL j r) 29 [some (.inr (some 34)), some (.inl a1), none, some (.inl a3), some (.inl a4)] [] (qL j r, M) (b_X1_alikes_29 n j K29 a1 a3 a4 M) := by
  unfold b_X1_alikes_29
  refine qr_iload o (q_dm dm_X1_alikes 18 rfl) rfl ?_
  refine qr_bipush o (q_dm dm_X1_alikes 19 rfl) bi_12 ?_
  refine qr_icmp_ge (tgt := 76) o (q_dm dm_X1_alikes 20 rfl) (by decide) ?_ ?_
  · refine qr_iload_n o (q_dm dm_X1_alikes 41 rfl) rfl ?_
    exact qr_iret o rfl rfl (q_dm dm_X1_alikes 42 rfl)
  · refine qr_iload o (q_dm dm_X1_alikes 21 rfl) rfl ?_
    refine qr_iload_n o (q_dm dm_X1_alikes 22 rfl) rfl ?_
    refine qr_icmp_eq (tgt := 63) o (q_dm dm_X1_alikes 23 rfl) (by decide) ?_ ?_
    · exact qr_loc (q_leS (q_leS (q_leN (q_leS (q_leS q_le0))))) (w_X1_alikes_63 n j r hj hr o K29 hK29 a1 a3 a4 M)
    · refine qr_aload_n o (q_dm dm_X1_alikes 24 rfl) rfl ?_
      refine qr_getr (kf := 0) o cf_X1 (sh34 j r) rfl (Nat.le_of_ble_eq_true rfl) fl_X1_28 (q_dm dm_X1_alikes 25 rfl) ?_
      refine qr_iload o (q_dm dm_X1_alikes 26 rfl) rfl ?_
      refine qr_callv_i (As := [.inl a4]) (S := []) o (a_X2_knows g k.2.1 n j r hj hr a4 M) (Nat.le_of_ble_eq_true rfl) zv_X2_knows rfl cf_X2 (sh3 j r) ml_X1_48 (Nat.le_of_ble_eq_true rfl) (q_dm dm_X1_alikes 27 rfl) (fun r1 m2 => ?_)
      refine qr_if_eq (tgt := 70) o (q_dm dm_X1_alikes 28 rfl) (by decide) ?_ ?_
      · refine qs_iincl2 (L' := fun x3 => [some (.inr (some 34)), some (.inl a1), none, some (.inl a3), some (.inl x3)]) o (q_dm dm_X1_alikes 39 rfl) rfl ic_1 (Nat.le_of_ble_eq_true rfl) (fun _ => rfl) (fun x3 => ?_)
        refine qr_goto (tgt := 29) o (q_dm dm_X1_alikes 40 rfl) (by decide) ?_
        exact qr_loc (q_leS (q_leS (q_leN (q_leS (q_leS q_le0))))) (hK29 a1 a3 x3 m2)
      · refine qr_aload_n o (q_dm dm_X1_alikes 29 rfl) rfl ?_
        refine qr_iload o (q_dm dm_X1_alikes 30 rfl) rfl ?_
        refine qr_callv_i (As := [.inl a4]) (S := []) o (a_X1_isAlike g k.2.1 n j r hj hr a4 m2) (Nat.le_of_ble_eq_true rfl) zv_X1_isAlike rfl cf_X1 (sh34 j r) ml_X1_44 (Nat.le_of_ble_eq_true rfl) (q_dm dm_X1_alikes 31 rfl) (fun r4 m5 => ?_)
        refine qr_if_eq (tgt := 70) o (q_dm dm_X1_alikes 32 rfl) (by decide) ?_ ?_
        · refine qs_iincl2 (L' := fun x6 => [some (.inr (some 34)), some (.inl a1), none, some (.inl a3), some (.inl x6)]) o (q_dm dm_X1_alikes 39 rfl) rfl ic_1 (Nat.le_of_ble_eq_true rfl) (fun _ => rfl) (fun x6 => ?_)
          refine qr_goto (tgt := 29) o (q_dm dm_X1_alikes 40 rfl) (by decide) ?_
          exact qr_loc (q_leS (q_leS (q_leN (q_leS (q_leS q_le0))))) (hK29 a1 a3 x6 m5)
        · exact qr_loc (q_leS (q_leS (q_leN (q_leS (q_leS q_le0))))) (w_X1_alikes_63 n j r hj hr o K29 hK29 a1 a3 a4 m5)

def f_X1_alikes_29 (n : Nat) (j : Nat) : Nat → Int32 → Int32 → Int32 → qM → qR
  | 0, _, _, _, _ => none
  | m + 1, a1, a3, a4, M => b_X1_alikes_29 n j (f_X1_alikes_29 n j m) a1 a3 a4 M
theorem w_X1_alikes_29 {g : qG} {k : qK} (n : Nat) (j r : Nat) (hj : q_isLaw j) (hr : q_isLaw r) (o : qOk g 3 zX1_alikes k) : ∀ (m : Nat) (a1 a3 a4 : Int32) (M : qM), qAE g k zX1_alikes (qL j r) 29 [some (.inr (some 34)), some (.inl a1), none, some (.inl a3), some (.inl a4)] [] (qL j r, M) (f_X1_alikes_29 n j m a1 a3 a4 M) := by
  intro m
  induction m with
  | zero =>
    intro a1 a3 a4 M
    exact qr_none
  | succ m ih =>
    intro a1 a3 a4 M
    exact wb_X1_alikes_29 n j r hj hr o (f_X1_alikes_29 n j m) ih a1 a3 a4 M
def f_X1_alikes (n : Nat) (j : Nat) (a1 a2 : Int32) (M : qM) : qR :=
  qg a1 12 (qg a1 12 (qc (f_X1_tellDeed n a1 (M 4 a1.toNatClampNeg) (M 5 a1.toNatClampNeg) a2 M) (fun _ m1 => f_X1_alikes_29 n j n a1 (0 : Int32) (0 : Int32) m1)))
set_option maxRecDepth 4000 in
theorem w_X1_alikes {g : qG} {k : qK} (n : Nat) (j r : Nat) (hj : q_isLaw j) (hr : q_isLaw r) (o : qOk g 3 zX1_alikes k) (a1 a2 : Int32) (M : qM) : qAE g k zX1_alikes (qL j r) 0 [some (.inr (some 34)), some (.inl a1), some (.inl a2), none, none] [] (qL j r, M) (f_X1_alikes n j a1 a2 M) := by
  unfold f_X1_alikes
  refine qr_iconst o (q_dm dm_X1_alikes 0 rfl) ic_0 ?_
  refine qs_istore_n (L' := [some (.inr (some 34)), some (.inl a1), some (.inl a2), some (.inl (0 : Int32)), none]) o (q_dm dm_X1_alikes 1 rfl) (Nat.le_of_ble_eq_true rfl) rfl ?_
  refine qr_aload_n o (q_dm dm_X1_alikes 2 rfl) rfl ?_
  refine qr_iload_n o (q_dm dm_X1_alikes 3 rfl) rfl ?_
  refine qr_aload_n o (q_dm dm_X1_alikes 4 rfl) rfl ?_
  refine qr_getr (kf := 0) o cf_X1 (sh34 j r) rfl (Nat.le_of_ble_eq_true rfl) fl_X1_28 (q_dm dm_X1_alikes 5 rfl) ?_
  refine qr_getr (kf := 0) o cf_X2 (sh3 j r) rfl (Nat.le_of_ble_eq_true rfl) fl_X1_32 (q_dm dm_X1_alikes 6 rfl) ?_
  refine qr_iload_n o (q_dm dm_X1_alikes 7 rfl) rfl ?_
  refine qr_iald o (sh4 j r) (q_dm dm_X1_alikes 8 rfl) ?_
  refine qr_aload_n o (q_dm dm_X1_alikes 9 rfl) rfl ?_
  refine qr_getr (kf := 0) o cf_X1 (sh34 j r) rfl (Nat.le_of_ble_eq_true rfl) fl_X1_28 (q_dm dm_X1_alikes 10 rfl) ?_
  refine qr_getr (kf := 1) o cf_X2 (sh3 j r) rfl (Nat.le_of_ble_eq_true rfl) fl_X1_37 (q_dm dm_X1_alikes 11 rfl) ?_
  refine qr_iload_n o (q_dm dm_X1_alikes 12 rfl) rfl ?_
  refine qr_iald o (sh5 j r) (q_dm dm_X1_alikes 13 rfl) ?_
  refine qr_iload_n o (q_dm dm_X1_alikes 14 rfl) rfl ?_
  refine qr_callv_v (As := [.inl a1, .inl (M 4 a1.toNatClampNeg), .inl (M 5 a1.toNatClampNeg), .inl a2]) (S := []) o (a_X1_tellDeed g k.2.1 n j r hj hr a1 (M 4 a1.toNatClampNeg) (M 5 a1.toNatClampNeg) a2 M) (Nat.le_of_ble_eq_true rfl) zv_X1_tellDeed rfl cf_X1 (sh34 j r) ml_X1_40 (Nat.le_of_ble_eq_true rfl) (q_dm dm_X1_alikes 15 rfl) (fun _ m1 => ?_)
  refine qr_iconst o (q_dm dm_X1_alikes 16 rfl) ic_0 ?_
  refine qs_istore (L' := [some (.inr (some 34)), some (.inl a1), some (.inl a2), some (.inl (0 : Int32)), some (.inl (0 : Int32))]) o (q_dm dm_X1_alikes 17 rfl) (Nat.le_of_ble_eq_true rfl) rfl ?_
  exact qr_loc (q_leS (q_leS (q_leN (q_leS (q_leS q_le0))))) (w_X1_alikes_29 n j r hj hr o n a1 (0 : Int32) (0 : Int32) m1)

theorem a_X1_alikes (g : qG) (l : Launch) (n : Nat) (j r : Nat) (hj : q_isLaw j) (hr : q_isLaw r) (a1 a2 : Int32) (M : qM) : qAM g l 3 zX1_alikes (qL j r) [.inr (some 34), .inl a1, .inl a2] (qL j r, M) (f_X1_alikes n j a1 a2 M) :=
  qAM.of zv_X1_alikes.1 (by show 3 ≤ 5; decide) (fun k hk o => w_X1_alikes n j r hj hr o a1 a2 M)
def tb_X1_voidTries : List (Nat × Instr × Nat) := [(0, (.aload_n 0, 1)), (1, (.bipush 118, 2)), (3, (.bipush 99, 2)), (5, (.iconst 1, 1)), (6, (.invokevirtual 57, 3)), (9, (.ireturn, 1))]
theorem dm_X1_voidTries : ∀ q ∈ tb_X1_voidTries, decode zX1_voidTries.2.1 q.1 = .ok q.2 := by decide +kernel
def f_X1_voidTries (n : Nat) (j : Nat) (M : qM) : qR :=
  qc (f_X1_amount n j (118 : Int32) (99 : Int32) (1 : Int32) M) (fun r1 m2 => some (r1, m2))
set_option maxRecDepth 4000 in
theorem w_X1_voidTries {g : qG} {k : qK} (n : Nat) (j r : Nat) (hj : q_isLaw j) (hr : q_isLaw r) (o : qOk g 3 zX1_voidTries k) (M : qM) : qAE g k zX1_voidTries (qL j r) 0 [some (.inr (some 34))] [] (qL j r, M) (f_X1_voidTries n j  M) := by
  unfold f_X1_voidTries
  refine qr_aload_n o (q_dm dm_X1_voidTries 0 rfl) rfl ?_
  refine qr_bipush o (q_dm dm_X1_voidTries 1 rfl) bi_118 ?_
  refine qr_bipush o (q_dm dm_X1_voidTries 2 rfl) bi_99 ?_
  refine qr_iconst o (q_dm dm_X1_voidTries 3 rfl) ic_1 ?_
  refine qr_callv_i (As := [.inl (118 : Int32), .inl (99 : Int32), .inl (1 : Int32)]) (S := []) o (a_X1_amount g k.2.1 n j r hj hr (118 : Int32) (99 : Int32) (1 : Int32) M) (Nat.le_of_ble_eq_true rfl) zv_X1_amount rfl cf_X1 (sh34 j r) ml_X1_57 (Nat.le_of_ble_eq_true rfl) (q_dm dm_X1_voidTries 4 rfl) (fun r1 m2 => ?_)
  exact qr_iret o rfl rfl (q_dm dm_X1_voidTries 5 rfl)

theorem a_X1_voidTries (g : qG) (l : Launch) (n : Nat) (j r : Nat) (hj : q_isLaw j) (hr : q_isLaw r) (M : qM) : qAM g l 3 zX1_voidTries (qL j r) [.inr (some 34)] (qL j r, M) (f_X1_voidTries n j  M) :=
  qAM.of zv_X1_voidTries.1 (by show 1 ≤ 1; decide) (fun k hk o => w_X1_voidTries n j r hj hr o  M)
def tb_X0_attempt : List (Nat × Instr × Nat) := [(0, (.aload_n 0, 1)), (1, (.getfield 15, 3)), (4, (.iload_n 3, 1)), (5, (.aload_n 1, 1)), (6, (.getfield 19, 3)), (9, (.invokevirtual 25, 3)), (12, (.istore 5, 2)), (14, (.aload_n 0, 1)), (15, (.aload_n 1, 1)), (16, (.iload_n 2, 1)), (17, (.iload 5, 2)), (19, (.invokevirtual 31, 3)), (22, (.aload_n 0, 1)), (23, (.aload_n 1, 1)), (24, (.iload_n 2, 1)), (25, (.iload 5, 2)), (27, (.invokevirtual 35, 3)), (30, (.putfield 38, 3)), (33, (.aload_n 0, 1)), (34, (.aload_n 1, 1)), (35, (.iload_n 2, 1)), (36, (.iload_n 3, 1)), (37, (.iload 4, 2)), (39, (.invokevirtual 41, 3)), (42, (.aload_n 0, 1)), (43, (.aload_n 0, 1)), (44, (.getfield 15, 3)), (47, (.invokevirtual 45, 3)), (50, (.putfield 49, 3)), (53, (.aload_n 1, 1)), (54, (.iload_n 2, 1)), (55, (.iload_n 3, 1)), (56, (.invokevirtual 52, 3)), (59, (.aload_n 0, 1)), (60, (.getfield 38, 3)), (63, (.aload_n 0, 1)), (64, (.getfield 49, 3)), (67, (.if_icmp .ge 5, 3)), (70, (.iconst 0, 1)), (71, (.ireturn, 1)), (72, (.aload_n 1, 1)), (73, (.iload_n 2, 1)), (74, (.aload_n 0, 1)), (75, (.getfield 9, 3)), (78, (.getfield 56, 3)), (81, (.iload_n 3, 1)), (82, (.iaload, 1)), (83, (.invokevirtual 62, 3)), (86, (.ifCond .ne 6, 3)), (89, (.bipush (-2), 2)), (91, (.ireturn, 1)), (92, (.aload_n 1, 1)), (93, (.iload_n 2, 1)), (94, (.iload_n 3, 1)), (95, (.invokevirtual 66, 3)), (98, (.iconst 1, 1)), (99, (.ireturn, 1))]
theorem dm_X0_attempt : ∀ q ∈ tb_X0_attempt, decode zX0_attempt.2.1 q.1 = .ok q.2 := by decide +kernel
def f_X0_attempt (n : Nat) (t j : Nat) (a2 a3 a4 : Int32) (M : qM) : qR :=
  qc (f_X1_alikes n j a3 (M t 9) M) (fun r1 m2 => qc (f_X0_forget n t j a2 r1 m2) (fun _ m3 => qc (f_X10_triesAmong n t a2 r1 m3) (fun r4 m5 => qlm (mu m5 44 2 r4) (fun m6 => qc (f_X0_tellAll n t a2 a3 a4 m6) (fun _ m7 => qc (f_X1_voidTries n j m7) (fun r8 m9 => qlm (mu m9 44 3 r8) (fun m10 => qc (f_X10_addTry n t a2 a3 m10) (fun _ m11 => (if (m11 44 3) ≤ (m11 44 2) then qg a3 12 (qc (f_X10_hasCounted n t a2 (m11 6 a3.toNatClampNeg) m11) (fun r12 m13 => (if r12 = (0 : Int32) then some ((-2 : Int32), m13) else qc (f_X10_addCounted n t a2 a3 m13) (fun _ m14 => some ((1 : Int32), m14))))) else some ((0 : Int32), m11))))))))))
set_option maxRecDepth 4000 in
theorem w_X0_attempt {g : qG} {k : qK} (n : Nat) (j r : Nat) (hj : q_isLaw j) (hr : q_isLaw r) {t : Nat} (ht : q_isTown t) (o : qOk g 4 zX0_attempt k) (a2 a3 a4 : Int32) (M : qM) : qAE g k zX0_attempt (qL j r) 0 [some (.inr (some 44)), some (.inr (some t)), some (.inl a2), some (.inl a3), some (.inl a4), none] [] (qL j r, M) (f_X0_attempt n t j a2 a3 a4 M) := by
  unfold f_X0_attempt
  refine qr_aload_n o (q_dm dm_X0_attempt 0 rfl) rfl ?_
  refine qr_getr (kf := 1) o cf_X0 (sh44 j r) rfl (Nat.le_of_ble_eq_true rfl) fl_X0_15 (q_dm dm_X0_attempt 1 rfl) ?_
  refine qr_iload_n o (q_dm dm_X0_attempt 2 rfl) rfl ?_
  refine qr_aload_n o (q_dm dm_X0_attempt 3 rfl) rfl ?_
  refine qr_getf (kf := 9) o cf_X10 (shT0 j r ht) rfl (Nat.le_of_ble_eq_true rfl) fl_X0_19 (q_dm dm_X0_attempt 4 rfl) ?_
  refine qr_callv_i (As := [.inl a3, .inl (M t 9)]) (S := []) o (a_X1_alikes g k.2.1 n j r hj hr a3 (M t 9) M) (Nat.le_of_ble_eq_true rfl) zv_X1_alikes rfl cf_X1 (sh34 j r) ml_X0_25 (Nat.le_of_ble_eq_true rfl) (q_dm dm_X0_attempt 5 rfl) (fun r1 m2 => ?_)
  refine qs_istore (L' := [some (.inr (some 44)), some (.inr (some t)), some (.inl a2), some (.inl a3), some (.inl a4), some (.inl r1)]) o (q_dm dm_X0_attempt 6 rfl) (Nat.le_of_ble_eq_true rfl) rfl ?_
  refine qr_aload_n o (q_dm dm_X0_attempt 7 rfl) rfl ?_
  refine qr_aload_n o (q_dm dm_X0_attempt 8 rfl) rfl ?_
  refine qr_iload_n o (q_dm dm_X0_attempt 9 rfl) rfl ?_
  refine qr_iload o (q_dm dm_X0_attempt 10 rfl) rfl ?_
  refine qr_callv_v (As := [.inr (some t), .inl a2, .inl r1]) (S := []) o (a_X0_forget g k.2.1 n j r hj hr ht a2 r1 m2) (Nat.le_of_ble_eq_true rfl) zv_X0_forget rfl cf_X0 (sh44 j r) ml_X0_31 (Nat.le_of_ble_eq_true rfl) (q_dm dm_X0_attempt 11 rfl) (fun _ m3 => ?_)
  refine qr_aload_n o (q_dm dm_X0_attempt 12 rfl) rfl ?_
  refine qr_aload_n o (q_dm dm_X0_attempt 13 rfl) rfl ?_
  refine qr_iload_n o (q_dm dm_X0_attempt 14 rfl) rfl ?_
  refine qr_iload o (q_dm dm_X0_attempt 15 rfl) rfl ?_
  refine qr_callv_i (As := [.inl a2, .inl r1]) (S := [.inr (some 44)]) o (a_X10_triesAmong g k.2.1 n j r hj hr ht a2 r1 m3) (Nat.le_of_ble_eq_true rfl) zv_X10_triesAmong rfl cf_X10 (shT0 j r ht) ml_X0_35 (Nat.le_of_ble_eq_true rfl) (q_dm dm_X0_attempt 16 rfl) (fun r4 m5 => ?_)
  refine qr_putf (kf := 2) o cf_X0 (sh44 j r) rfl (Nat.le_of_ble_eq_true rfl) fl_X0_38 rfl (by decide +kernel) (q_dm dm_X0_attempt 17 rfl) ?_
  refine qr_letm (fun m6 => ?_)
  refine qr_aload_n o (q_dm dm_X0_attempt 18 rfl) rfl ?_
  refine qr_aload_n o (q_dm dm_X0_attempt 19 rfl) rfl ?_
  refine qr_iload_n o (q_dm dm_X0_attempt 20 rfl) rfl ?_
  refine qr_iload_n o (q_dm dm_X0_attempt 21 rfl) rfl ?_
  refine qr_iload o (q_dm dm_X0_attempt 22 rfl) rfl ?_
  refine qr_callv_v (As := [.inr (some t), .inl a2, .inl a3, .inl a4]) (S := []) o (a_X0_tellAll g k.2.1 n j r hj hr ht a2 a3 a4 m6) (Nat.le_of_ble_eq_true rfl) zv_X0_tellAll rfl cf_X0 (sh44 j r) ml_X0_41 (Nat.le_of_ble_eq_true rfl) (q_dm dm_X0_attempt 23 rfl) (fun _ m7 => ?_)
  refine qr_aload_n o (q_dm dm_X0_attempt 24 rfl) rfl ?_
  refine qr_aload_n o (q_dm dm_X0_attempt 25 rfl) rfl ?_
  refine qr_getr (kf := 1) o cf_X0 (sh44 j r) rfl (Nat.le_of_ble_eq_true rfl) fl_X0_15 (q_dm dm_X0_attempt 26 rfl) ?_
  refine qr_callv_i (As := []) (S := [.inr (some 44)]) o (a_X1_voidTries g k.2.1 n j r hj hr  m7) (Nat.le_of_ble_eq_true rfl) zv_X1_voidTries rfl cf_X1 (sh34 j r) ml_X0_45 (Nat.le_of_ble_eq_true rfl) (q_dm dm_X0_attempt 27 rfl) (fun r8 m9 => ?_)
  refine qr_putf (kf := 3) o cf_X0 (sh44 j r) rfl (Nat.le_of_ble_eq_true rfl) fl_X0_49 rfl (by decide +kernel) (q_dm dm_X0_attempt 28 rfl) ?_
  refine qr_letm (fun m10 => ?_)
  refine qr_aload_n o (q_dm dm_X0_attempt 29 rfl) rfl ?_
  refine qr_iload_n o (q_dm dm_X0_attempt 30 rfl) rfl ?_
  refine qr_iload_n o (q_dm dm_X0_attempt 31 rfl) rfl ?_
  refine qr_callv_v (As := [.inl a2, .inl a3]) (S := []) o (a_X10_addTry g k.2.1 n j r hj hr ht a2 a3 m10) (Nat.le_of_ble_eq_true rfl) zv_X10_addTry rfl cf_X10 (shT0 j r ht) ml_X0_52 (Nat.le_of_ble_eq_true rfl) (q_dm dm_X0_attempt 32 rfl) (fun _ m11 => ?_)
  refine qr_aload_n o (q_dm dm_X0_attempt 33 rfl) rfl ?_
  refine qr_getf (kf := 2) o cf_X0 (sh44 j r) rfl (Nat.le_of_ble_eq_true rfl) fl_X0_38 (q_dm dm_X0_attempt 34 rfl) ?_
  refine qr_aload_n o (q_dm dm_X0_attempt 35 rfl) rfl ?_
  refine qr_getf (kf := 3) o cf_X0 (sh44 j r) rfl (Nat.le_of_ble_eq_true rfl) fl_X0_49 (q_dm dm_X0_attempt 36 rfl) ?_
  refine qr_icmp_ge (tgt := 72) o (q_dm dm_X0_attempt 37 rfl) (by decide) ?_ ?_
  · refine qr_aload_n o (q_dm dm_X0_attempt 40 rfl) rfl ?_
    refine qr_iload_n o (q_dm dm_X0_attempt 41 rfl) rfl ?_
    refine qr_aload_n o (q_dm dm_X0_attempt 42 rfl) rfl ?_
    refine qr_getr (kf := 0) o cf_X0 (sh44 j r) rfl (Nat.le_of_ble_eq_true rfl) fl_X0_9 (q_dm dm_X0_attempt 43 rfl) ?_
    refine qr_getr (kf := 2) o cf_X2 (sh3 j r) rfl (Nat.le_of_ble_eq_true rfl) fl_X0_56 (q_dm dm_X0_attempt 44 rfl) ?_
    refine qr_iload_n o (q_dm dm_X0_attempt 45 rfl) rfl ?_
    refine qr_iald o (sh6 j r) (q_dm dm_X0_attempt 46 rfl) ?_
    refine qr_callv_i (As := [.inl a2, .inl (m11 6 a3.toNatClampNeg)]) (S := []) o (a_X10_hasCounted g k.2.1 n j r hj hr ht a2 (m11 6 a3.toNatClampNeg) m11) (Nat.le_of_ble_eq_true rfl) zv_X10_hasCounted rfl cf_X10 (shT0 j r ht) ml_X0_62 (Nat.le_of_ble_eq_true rfl) (q_dm dm_X0_attempt 47 rfl) (fun r12 m13 => ?_)
    refine qr_if_ne (tgt := 92) o (q_dm dm_X0_attempt 48 rfl) (by decide) ?_ ?_
    · refine qr_aload_n o (q_dm dm_X0_attempt 51 rfl) rfl ?_
      refine qr_iload_n o (q_dm dm_X0_attempt 52 rfl) rfl ?_
      refine qr_iload_n o (q_dm dm_X0_attempt 53 rfl) rfl ?_
      refine qr_callv_v (As := [.inl a2, .inl a3]) (S := []) o (a_X10_addCounted g k.2.1 n j r hj hr ht a2 a3 m13) (Nat.le_of_ble_eq_true rfl) zv_X10_addCounted rfl cf_X10 (shT0 j r ht) ml_X0_66 (Nat.le_of_ble_eq_true rfl) (q_dm dm_X0_attempt 54 rfl) (fun _ m14 => ?_)
      refine qr_iconst o (q_dm dm_X0_attempt 55 rfl) ic_1 ?_
      exact qr_iret o rfl rfl (q_dm dm_X0_attempt 56 rfl)
    · refine qr_bipush o (q_dm dm_X0_attempt 49 rfl) bi_m2 ?_
      exact qr_iret o rfl rfl (q_dm dm_X0_attempt 50 rfl)
  · refine qr_iconst o (q_dm dm_X0_attempt 38 rfl) ic_0 ?_
    exact qr_iret o rfl rfl (q_dm dm_X0_attempt 39 rfl)

theorem a_X0_attempt (g : qG) (l : Launch) (n : Nat) (j r : Nat) (hj : q_isLaw j) (hr : q_isLaw r) {t : Nat} (ht : q_isTown t) (a2 a3 a4 : Int32) (M : qM) : qAM g l 4 zX0_attempt (qL j r) [.inr (some 44), .inr (some t), .inl a2, .inl a3, .inl a4] (qL j r, M) (f_X0_attempt n t j a2 a3 a4 M) :=
  qAM.of zv_X0_attempt.1 (by show 5 ≤ 6; decide) (fun k hk o => w_X0_attempt n j r hj hr ht o a2 a3 a4 M)
def tb_X0_price : List (Nat × Instr × Nat) := [(0, (.aload_n 0, 1)), (1, (.aload_n 1, 1)), (2, (.iload_n 2, 1)), (3, (.iload_n 3, 1)), (4, (.iload 4, 2)), (6, (.invokevirtual 41, 3)), (9, (.aload_n 0, 1)), (10, (.getfield 15, 3)), (13, (.bipush 99, 2)), (15, (.sipush 999, 3)), (18, (.iconst 0, 1)), (19, (.invokevirtual 69, 3)), (22, (.ireturn, 1))]
theorem dm_X0_price : ∀ q ∈ tb_X0_price, decode zX0_price.2.1 q.1 = .ok q.2 := by decide +kernel
def f_X0_price (n : Nat) (t j : Nat) (a2 a3 a4 : Int32) (M : qM) : qR :=
  qc (f_X0_tellAll n t a2 a3 a4 M) (fun _ m1 => qc (f_X1_amount n j (99 : Int32) (999 : Int32) (0 : Int32) m1) (fun r2 m3 => some (r2, m3)))
set_option maxRecDepth 4000 in
theorem w_X0_price {g : qG} {k : qK} (n : Nat) (j r : Nat) (hj : q_isLaw j) (hr : q_isLaw r) {t : Nat} (ht : q_isTown t) (o : qOk g 3 zX0_price k) (a2 a3 a4 : Int32) (M : qM) : qAE g k zX0_price (qL j r) 0 [some (.inr (some 44)), some (.inr (some t)), some (.inl a2), some (.inl a3), some (.inl a4)] [] (qL j r, M) (f_X0_price n t j a2 a3 a4 M) := by
  unfold f_X0_price
  refine qr_aload_n o (q_dm dm_X0_price 0 rfl) rfl ?_
  refine qr_aload_n o (q_dm dm_X0_price 1 rfl) rfl ?_
  refine qr_iload_n o (q_dm dm_X0_price 2 rfl) rfl ?_
  refine qr_iload_n o (q_dm dm_X0_price 3 rfl) rfl ?_
  refine qr_iload o (q_dm dm_X0_price 4 rfl) rfl ?_
  refine qr_callv_v (As := [.inr (some t), .inl a2, .inl a3, .inl a4]) (S := []) o (a_X0_tellAll g k.2.1 n j r hj hr ht a2 a3 a4 M) (Nat.le_of_ble_eq_true rfl) zv_X0_tellAll rfl cf_X0 (sh44 j r) ml_X0_41 (Nat.le_of_ble_eq_true rfl) (q_dm dm_X0_price 5 rfl) (fun _ m1 => ?_)
  refine qr_aload_n o (q_dm dm_X0_price 6 rfl) rfl ?_
  refine qr_getr (kf := 1) o cf_X0 (sh44 j r) rfl (Nat.le_of_ble_eq_true rfl) fl_X0_15 (q_dm dm_X0_price 7 rfl) ?_
  refine qr_bipush o (q_dm dm_X0_price 8 rfl) bi_99 ?_
  refine qr_sipush o (q_dm dm_X0_price 9 rfl) si_999 ?_
  refine qr_iconst o (q_dm dm_X0_price 10 rfl) ic_0 ?_
  refine qr_callv_i (As := [.inl (99 : Int32), .inl (999 : Int32), .inl (0 : Int32)]) (S := []) o (a_X1_amount g k.2.1 n j r hj hr (99 : Int32) (999 : Int32) (0 : Int32) m1) (Nat.le_of_ble_eq_true rfl) zv_X1_amount rfl cf_X1 (sh34 j r) ml_X0_69 (Nat.le_of_ble_eq_true rfl) (q_dm dm_X0_price 11 rfl) (fun r2 m3 => ?_)
  exact qr_iret o rfl rfl (q_dm dm_X0_price 12 rfl)

theorem a_X0_price (g : qG) (l : Launch) (n : Nat) (j r : Nat) (hj : q_isLaw j) (hr : q_isLaw r) {t : Nat} (ht : q_isTown t) (a2 a3 a4 : Int32) (M : qM) : qAM g l 3 zX0_price (qL j r) [.inr (some 44), .inr (some t), .inl a2, .inl a3, .inl a4] (qL j r, M) (f_X0_price n t j a2 a3 a4 M) :=
  qAM.of zv_X0_price.1 (by show 5 ≤ 5; decide) (fun k hk o => w_X0_price n j r hj hr ht o a2 a3 a4 M)
def tb_X0_buyGo : List (Nat × Instr × Nat) := [(0, (.aload_n 1, 1)), (1, (.getfield 73, 3)), (4, (.iload 4, 2)), (6, (.bipush 12, 2)), (8, (.imul, 1)), (9, (.iload_n 3, 1)), (10, (.iadd, 1)), (11, (.iaload, 1)), (12, (.ifCond .ne 6, 3)), (15, (.bipush (-3), 2)), (17, (.ireturn, 1)), (18, (.aload_n 0, 1)), (19, (.aload_n 1, 1)), (20, (.iload_n 2, 1)), (21, (.iload_n 3, 1)), (22, (.iload 4, 2)), (24, (.invokevirtual 76, 3)), (27, (.istore 5, 2)), (29, (.aload_n 1, 1)), (30, (.getfield 80, 3)), (33, (.iload_n 2, 1)), (34, (.iaload, 1)), (35, (.iload 5, 2)), (37, (.if_icmp .ge 6, 3)), (40, (.bipush (-2), 2)), (42, (.ireturn, 1)), (43, (.aload_n 1, 1)), (44, (.getfield 80, 3)), (47, (.iload_n 2, 1)), (48, (.dup2, 1)), (49, (.iaload, 1)), (50, (.iload 5, 2)), (52, (.isub, 1)), (53, (.iastore, 1)), (54, (.aload_n 1, 1)), (55, (.getfield 80, 3)), (58, (.iload 4, 2)), (60, (.ldc 83, 2)), (62, (.aload_n 1, 1)), (63, (.getfield 80, 3)), (66, (.iload 4, 2)), (68, (.iaload, 1)), (69, (.iload 5, 2)), (71, (.iadd, 1)), (72, (.invokestatic 84, 3)), (75, (.iastore, 1)), (76, (.aload_n 1, 1)), (77, (.getfield 73, 3)), (80, (.iload 4, 2)), (82, (.bipush 12, 2)), (84, (.imul, 1)), (85, (.iload_n 3, 1)), (86, (.iadd, 1)), (87, (.dup2, 1)), (88, (.iaload, 1)), (89, (.iconst 1, 1)), (90, (.isub, 1)), (91, (.iastore, 1)), (92, (.aload_n 1, 1)), (93, (.iload_n 2, 1)), (94, (.iload_n 3, 1)), (95, (.invokevirtual 52, 3)), (98, (.iload 5, 2)), (100, (.ireturn, 1))]
theorem dm_X0_buyGo : ∀ q ∈ tb_X0_buyGo, decode zX0_buyGo.2.1 q.1 = .ok q.2 := by decide +kernel
def f_X0_buyGo (n : Nat) (t j : Nat) (a2 a3 a4 : Int32) (M : qM) : qR :=
  qg ((a4 * (12 : Int32)) + a3) 96 ((if (M (t + 2) ((a4 * (12 : Int32)) + a3).toNatClampNeg) = (0 : Int32) then some ((-3 : Int32), M) else qc (f_X0_price n t j a2 a3 a4 M) (fun r1 m2 => qg a2 8 ((if r1 ≤ (m2 (t + 1) a2.toNatClampNeg) then qg a2 8 (qg a2 8 (qlm (mu m2 (t + 1) a2.toNatClampNeg ((m2 (t + 1) a2.toNatClampNeg) - r1)) (fun m3 => qg a4 8 (qg a4 8 (qlm (mu m3 (t + 1) a4.toNatClampNeg (qmin (99999 : Int32) ((m3 (t + 1) a4.toNatClampNeg) + r1))) (fun m4 => ql ((a4 * (12 : Int32)) + a3) (fun x5 => qg x5 96 (qg x5 96 (qlm (mu m4 (t + 2) x5.toNatClampNeg ((m4 (t + 2) x5.toNatClampNeg) - (1 : Int32))) (fun m6 => qc (f_X10_addTry n t a2 a3 m6) (fun _ m7 => some (r1, m7)))))))))))) else some ((-2 : Int32), m2))))))
set_option maxRecDepth 4000 in
theorem w_X0_buyGo {g : qG} {k : qK} (n : Nat) (j r : Nat) (hj : q_isLaw j) (hr : q_isLaw r) {t : Nat} (ht : q_isTown t) (o : qOk g 4 zX0_buyGo k) (a2 a3 a4 : Int32) (M : qM) : qAE g k zX0_buyGo (qL j r) 0 [some (.inr (some 44)), some (.inr (some t)), some (.inl a2), some (.inl a3), some (.inl a4), none] [] (qL j r, M) (f_X0_buyGo n t j a2 a3 a4 M) := by
  unfold f_X0_buyGo
  refine qr_aload_n o (q_dm dm_X0_buyGo 0 rfl) rfl ?_
  refine qr_getr (kf := 1) o cf_X10 (shT0 j r ht) rfl (Nat.le_of_ble_eq_true rfl) fl_X0_73 (q_dm dm_X0_buyGo 1 rfl) ?_
  refine qr_iload o (q_dm dm_X0_buyGo 2 rfl) rfl ?_
  refine qr_bipush o (q_dm dm_X0_buyGo 3 rfl) bi_12 ?_
  refine qr_imul o (q_dm dm_X0_buyGo 4 rfl) ?_
  refine qr_iload_n o (q_dm dm_X0_buyGo 5 rfl) rfl ?_
  refine qr_iadd o (q_dm dm_X0_buyGo 6 rfl) ?_
  refine qr_iald o (shT2 j r ht) (q_dm dm_X0_buyGo 7 rfl) ?_
  refine qr_if_ne (tgt := 18) o (q_dm dm_X0_buyGo 8 rfl) (by decide) ?_ ?_
  · refine qr_aload_n o (q_dm dm_X0_buyGo 11 rfl) rfl ?_
    refine qr_aload_n o (q_dm dm_X0_buyGo 12 rfl) rfl ?_
    refine qr_iload_n o (q_dm dm_X0_buyGo 13 rfl) rfl ?_
    refine qr_iload_n o (q_dm dm_X0_buyGo 14 rfl) rfl ?_
    refine qr_iload o (q_dm dm_X0_buyGo 15 rfl) rfl ?_
    refine qr_callv_i (As := [.inr (some t), .inl a2, .inl a3, .inl a4]) (S := []) o (a_X0_price g k.2.1 n j r hj hr ht a2 a3 a4 M) (Nat.le_of_ble_eq_true rfl) zv_X0_price rfl cf_X0 (sh44 j r) ml_X0_76 (Nat.le_of_ble_eq_true rfl) (q_dm dm_X0_buyGo 16 rfl) (fun r1 m2 => ?_)
    refine qs_istore (L' := [some (.inr (some 44)), some (.inr (some t)), some (.inl a2), some (.inl a3), some (.inl a4), some (.inl r1)]) o (q_dm dm_X0_buyGo 17 rfl) (Nat.le_of_ble_eq_true rfl) rfl ?_
    refine qr_aload_n o (q_dm dm_X0_buyGo 18 rfl) rfl ?_
    refine qr_getr (kf := 0) o cf_X10 (shT0 j r ht) rfl (Nat.le_of_ble_eq_true rfl) fl_X0_80 (q_dm dm_X0_buyGo 19 rfl) ?_
    refine qr_iload_n o (q_dm dm_X0_buyGo 20 rfl) rfl ?_
    refine qr_iald o (shT1 j r ht) (q_dm dm_X0_buyGo 21 rfl) ?_
    refine qr_iload o (q_dm dm_X0_buyGo 22 rfl) rfl ?_
    refine qr_icmp_ge (tgt := 43) o (q_dm dm_X0_buyGo 23 rfl) (by decide) ?_ ?_
    · refine qr_aload_n o (q_dm dm_X0_buyGo 26 rfl) rfl ?_
      refine qr_getr (kf := 0) o cf_X10 (shT0 j r ht) rfl (Nat.le_of_ble_eq_true rfl) fl_X0_80 (q_dm dm_X0_buyGo 27 rfl) ?_
      refine qr_iload_n o (q_dm dm_X0_buyGo 28 rfl) rfl ?_
      refine qr_dup2 o (q_dm dm_X0_buyGo 29 rfl) ?_
      refine qr_iald o (shT1 j r ht) (q_dm dm_X0_buyGo 30 rfl) ?_
      refine qr_iload o (q_dm dm_X0_buyGo 31 rfl) rfl ?_
      refine qr_isub o (q_dm dm_X0_buyGo 32 rfl) ?_
      refine qr_iast o (shT1 j r ht) (q_dm dm_X0_buyGo 33 rfl) ?_
      refine qr_letm (fun m3 => ?_)
      refine qr_aload_n o (q_dm dm_X0_buyGo 34 rfl) rfl ?_
      refine qr_getr (kf := 0) o cf_X10 (shT0 j r ht) rfl (Nat.le_of_ble_eq_true rfl) fl_X0_80 (q_dm dm_X0_buyGo 35 rfl) ?_
      refine qr_iload o (q_dm dm_X0_buyGo 36 rfl) rfl ?_
      refine qr_ldc o (q_dm dm_X0_buyGo 37 rfl) kc_X0_83 ?_
      refine qr_aload_n o (q_dm dm_X0_buyGo 38 rfl) rfl ?_
      refine qr_getr (kf := 0) o cf_X10 (shT0 j r ht) rfl (Nat.le_of_ble_eq_true rfl) fl_X0_80 (q_dm dm_X0_buyGo 39 rfl) ?_
      refine qr_iload o (q_dm dm_X0_buyGo 40 rfl) rfl ?_
      refine qr_iald o (shT1 j r ht) (q_dm dm_X0_buyGo 41 rfl) ?_
      refine qr_iload o (q_dm dm_X0_buyGo 42 rfl) rfl ?_
      refine qr_iadd o (q_dm dm_X0_buyGo 43 rfl) ?_
      refine qr_min o ml_X0_84 (by omega) (Nat.le_of_ble_eq_true rfl) (q_dm dm_X0_buyGo 44 rfl) ?_
      refine qr_iast o (shT1 j r ht) (q_dm dm_X0_buyGo 45 rfl) ?_
      refine qr_letm (fun m4 => ?_)
      refine qr_aload_n o (q_dm dm_X0_buyGo 46 rfl) rfl ?_
      refine qr_getr (kf := 1) o cf_X10 (shT0 j r ht) rfl (Nat.le_of_ble_eq_true rfl) fl_X0_73 (q_dm dm_X0_buyGo 47 rfl) ?_
      refine qr_iload o (q_dm dm_X0_buyGo 48 rfl) rfl ?_
      refine qr_bipush o (q_dm dm_X0_buyGo 49 rfl) bi_12 ?_
      refine qr_imul o (q_dm dm_X0_buyGo 50 rfl) ?_
      refine qr_iload_n o (q_dm dm_X0_buyGo 51 rfl) rfl ?_
      refine qr_iadd o (q_dm dm_X0_buyGo 52 rfl) ?_
      refine qr_lt (fun x5 => ?_)
      refine qr_dup2 o (q_dm dm_X0_buyGo 53 rfl) ?_
      refine qr_iald o (shT2 j r ht) (q_dm dm_X0_buyGo 54 rfl) ?_
      refine qr_iconst o (q_dm dm_X0_buyGo 55 rfl) ic_1 ?_
      refine qr_isub o (q_dm dm_X0_buyGo 56 rfl) ?_
      refine qr_iast o (shT2 j r ht) (q_dm dm_X0_buyGo 57 rfl) ?_
      refine qr_letm (fun m6 => ?_)
      refine qr_aload_n o (q_dm dm_X0_buyGo 58 rfl) rfl ?_
      refine qr_iload_n o (q_dm dm_X0_buyGo 59 rfl) rfl ?_
      refine qr_iload_n o (q_dm dm_X0_buyGo 60 rfl) rfl ?_
      refine qr_callv_v (As := [.inl a2, .inl a3]) (S := []) o (a_X10_addTry g k.2.1 n j r hj hr ht a2 a3 m6) (Nat.le_of_ble_eq_true rfl) zv_X10_addTry rfl cf_X10 (shT0 j r ht) ml_X0_52 (Nat.le_of_ble_eq_true rfl) (q_dm dm_X0_buyGo 61 rfl) (fun _ m7 => ?_)
      refine qr_iload o (q_dm dm_X0_buyGo 62 rfl) rfl ?_
      exact qr_iret o rfl rfl (q_dm dm_X0_buyGo 63 rfl)
    · refine qr_bipush o (q_dm dm_X0_buyGo 24 rfl) bi_m2 ?_
      exact qr_iret o rfl rfl (q_dm dm_X0_buyGo 25 rfl)
  · refine qr_bipush o (q_dm dm_X0_buyGo 9 rfl) bi_m3 ?_
    exact qr_iret o rfl rfl (q_dm dm_X0_buyGo 10 rfl)

theorem a_X0_buyGo (g : qG) (l : Launch) (n : Nat) (j r : Nat) (hj : q_isLaw j) (hr : q_isLaw r) {t : Nat} (ht : q_isTown t) (a2 a3 a4 : Int32) (M : qM) : qAM g l 4 zX0_buyGo (qL j r) [.inr (some 44), .inr (some t), .inl a2, .inl a3, .inl a4] (qL j r, M) (f_X0_buyGo n t j a2 a3 a4 M) :=
  qAM.of zv_X0_buyGo.1 (by show 5 ≤ 6; decide) (fun k hk o => w_X0_buyGo n j r hj hr ht o a2 a3 a4 M)
def tb_X0_cameOfDays : List (Nat × Instr × Nat) := [(0, (.iload_n 1, 1)), (1, (.tableswitch 60 0 4 #[35, 40, 45, 50, 55], 35)), (36, (.aload_n 0, 1)), (37, (.getfield 89, 3)), (40, (.ireturn, 1)), (41, (.aload_n 0, 1)), (42, (.getfield 92, 3)), (45, (.ireturn, 1)), (46, (.aload_n 0, 1)), (47, (.getfield 98, 3)), (50, (.ireturn, 1)), (51, (.aload_n 0, 1)), (52, (.getfield 101, 3)), (55, (.ireturn, 1)), (56, (.aload_n 0, 1)), (57, (.getfield 104, 3)), (60, (.ireturn, 1)), (61, (.aload_n 0, 1)), (62, (.getfield 95, 3)), (65, (.ireturn, 1))]
theorem dm_X0_cameOfDays : ∀ q ∈ tb_X0_cameOfDays, decode zX0_cameOfDays.2.1 q.1 = .ok q.2 := by decide +kernel
def f_X0_cameOfDays (n : Nat) (a1 : Int32) (M : qM) : qR :=
  qsw a1 [((0 : Int32), some ((M 44 4), M)), ((1 : Int32), some ((M 44 5), M)), ((2 : Int32), some ((M 44 7), M)), ((3 : Int32), some ((M 44 8), M)), ((4 : Int32), some ((M 44 9), M))] (some ((M 44 6), M))
set_option maxRecDepth 4000 in
theorem w_X0_cameOfDays {g : qG} {k : qK} (n : Nat) (j r : Nat) (hj : q_isLaw j) (hr : q_isLaw r) (o : qOk g 0 zX0_cameOfDays k) (a1 : Int32) (M : qM) : qAE g k zX0_cameOfDays (qL j r) 0 [some (.inr (some 44)), some (.inl a1)] [] (qL j r, M) (f_X0_cameOfDays n a1 M) := by
  unfold f_X0_cameOfDays
  refine qr_iload_n o (q_dm dm_X0_cameOfDays 0 rfl) rfl ?_
  refine qr_tablep (tgt := 61) o (q_dm dm_X0_cameOfDays 1 rfl) (by show (_ : Int) + (5 : Nat) = _; decide) (by decide) ?_ (q_tbc (35) 36 (by decide) rfl (by decide) ?_ (q_tbc (40) 41 (by decide) rfl (by decide) ?_ (q_tbc (45) 46 (by decide) rfl (by decide) ?_ (q_tbc (50) 51 (by decide) rfl (by decide) ?_ (q_tbc (55) 56 (by decide) rfl (by decide) ?_ q_tbn)))))
  · refine qr_aload_n o (q_dm dm_X0_cameOfDays 17 rfl) rfl ?_
    refine qr_getf (kf := 6) o cf_X0 (sh44 j r) rfl (Nat.le_of_ble_eq_true rfl) fl_X0_95 (q_dm dm_X0_cameOfDays 18 rfl) ?_
    exact qr_iret o rfl rfl (q_dm dm_X0_cameOfDays 19 rfl)
  · refine qr_aload_n o (q_dm dm_X0_cameOfDays 2 rfl) rfl ?_
    refine qr_getf (kf := 4) o cf_X0 (sh44 j r) rfl (Nat.le_of_ble_eq_true rfl) fl_X0_89 (q_dm dm_X0_cameOfDays 3 rfl) ?_
    exact qr_iret o rfl rfl (q_dm dm_X0_cameOfDays 4 rfl)
  · refine qr_aload_n o (q_dm dm_X0_cameOfDays 5 rfl) rfl ?_
    refine qr_getf (kf := 5) o cf_X0 (sh44 j r) rfl (Nat.le_of_ble_eq_true rfl) fl_X0_92 (q_dm dm_X0_cameOfDays 6 rfl) ?_
    exact qr_iret o rfl rfl (q_dm dm_X0_cameOfDays 7 rfl)
  · refine qr_aload_n o (q_dm dm_X0_cameOfDays 8 rfl) rfl ?_
    refine qr_getf (kf := 7) o cf_X0 (sh44 j r) rfl (Nat.le_of_ble_eq_true rfl) fl_X0_98 (q_dm dm_X0_cameOfDays 9 rfl) ?_
    exact qr_iret o rfl rfl (q_dm dm_X0_cameOfDays 10 rfl)
  · refine qr_aload_n o (q_dm dm_X0_cameOfDays 11 rfl) rfl ?_
    refine qr_getf (kf := 8) o cf_X0 (sh44 j r) rfl (Nat.le_of_ble_eq_true rfl) fl_X0_101 (q_dm dm_X0_cameOfDays 12 rfl) ?_
    exact qr_iret o rfl rfl (q_dm dm_X0_cameOfDays 13 rfl)
  · refine qr_aload_n o (q_dm dm_X0_cameOfDays 14 rfl) rfl ?_
    refine qr_getf (kf := 9) o cf_X0 (sh44 j r) rfl (Nat.le_of_ble_eq_true rfl) fl_X0_104 (q_dm dm_X0_cameOfDays 15 rfl) ?_
    exact qr_iret o rfl rfl (q_dm dm_X0_cameOfDays 16 rfl)

theorem a_X0_cameOfDays (g : qG) (l : Launch) (n : Nat) (j r : Nat) (hj : q_isLaw j) (hr : q_isLaw r) (a1 : Int32) (M : qM) : qAM g l 0 zX0_cameOfDays (qL j r) [.inr (some 44), .inl a1] (qL j r, M) (f_X0_cameOfDays n a1 M) :=
  qAM.of zv_X0_cameOfDays.1 (by show 2 ≤ 2; decide) (fun k hk o => w_X0_cameOfDays n j r hj hr o a1 M)
def tb_X0_noteOutcome : List (Nat × Instr × Nat) := [(0, (.iload 4, 2)), (2, (.iconst 1, 1)), (3, (.if_icmp .ne 13, 3)), (6, (.aload_n 0, 1)), (7, (.dup, 1)), (8, (.getfield 92, 3)), (11, (.iconst 1, 1)), (12, (.iadd, 1)), (13, (.putfield 92, 3)), (16, (.iload 4, 2)), (18, (.bipush (-2), 2)), (20, (.if_icmp .ne 27, 3)), (23, (.aload_n 0, 1)), (24, (.getfield 98, 3)), (27, (.bipush (-2), 2)), (29, (.if_icmp .ne 18, 3)), (32, (.aload_n 0, 1)), (33, (.iload_n 1, 1)), (34, (.putfield 98, 3)), (37, (.aload_n 0, 1)), (38, (.iload_n 2, 1)), (39, (.putfield 101, 3)), (42, (.aload_n 0, 1)), (43, (.iload_n 3, 1)), (44, (.putfield 104, 3)), (47, (.return_, 1))]
theorem dm_X0_noteOutcome : ∀ q ∈ tb_X0_noteOutcome, decode zX0_noteOutcome.2.1 q.1 = .ok q.2 := by decide +kernel
def f_X0_noteOutcome_16 (n : Nat) (a1 a2 a3 a4 : Int32) (M : qM) : qR :=
  (if a4 = (-2 : Int32) then (if (M 44 7) = (-2 : Int32) then qlm (mu M 44 7 a1) (fun m1 => qlm (mu m1 44 8 a2) (fun m2 => qlm (mu m2 44 9 a3) (fun m3 => some (0, m3)))) else some (0, M)) else some (0, M))
set_option maxRecDepth 4000 in
theorem w_X0_noteOutcome_16 {g : qG} {k : qK} (n : Nat) (j r : Nat) (hj : q_isLaw j) (hr : q_isLaw r) (o : qOk g 0 zX0_noteOutcome k) (a1 a2 a3 a4 : Int32) (M : qM) : qAE g k zX0_noteOutcome (qL j r) 16 [some (.inr (some 44)), some (.inl a1), some (.inl a2), some (.inl a3), some (.inl a4)] [] (qL j r, M) (f_X0_noteOutcome_16 n a1 a2 a3 a4 M) := by
  unfold f_X0_noteOutcome_16
  refine qr_iload o (q_dm dm_X0_noteOutcome 9 rfl) rfl ?_
  refine qr_bipush o (q_dm dm_X0_noteOutcome 10 rfl) bi_m2 ?_
  refine qr_icmp_ne (tgt := 47) o (q_dm dm_X0_noteOutcome 11 rfl) (by decide) ?_ ?_
  · exact qr_vret o rfl (q_dm dm_X0_noteOutcome 25 rfl)
  · refine qr_aload_n o (q_dm dm_X0_noteOutcome 12 rfl) rfl ?_
    refine qr_getf (kf := 7) o cf_X0 (sh44 j r) rfl (Nat.le_of_ble_eq_true rfl) fl_X0_98 (q_dm dm_X0_noteOutcome 13 rfl) ?_
    refine qr_bipush o (q_dm dm_X0_noteOutcome 14 rfl) bi_m2 ?_
    refine qr_icmp_ne (tgt := 47) o (q_dm dm_X0_noteOutcome 15 rfl) (by decide) ?_ ?_
    · exact qr_vret o rfl (q_dm dm_X0_noteOutcome 25 rfl)
    · refine qr_aload_n o (q_dm dm_X0_noteOutcome 16 rfl) rfl ?_
      refine qr_iload_n o (q_dm dm_X0_noteOutcome 17 rfl) rfl ?_
      refine qr_putf (kf := 7) o cf_X0 (sh44 j r) rfl (Nat.le_of_ble_eq_true rfl) fl_X0_98 rfl (by decide +kernel) (q_dm dm_X0_noteOutcome 18 rfl) ?_
      refine qr_letm (fun m1 => ?_)
      refine qr_aload_n o (q_dm dm_X0_noteOutcome 19 rfl) rfl ?_
      refine qr_iload_n o (q_dm dm_X0_noteOutcome 20 rfl) rfl ?_
      refine qr_putf (kf := 8) o cf_X0 (sh44 j r) rfl (Nat.le_of_ble_eq_true rfl) fl_X0_101 rfl (by decide +kernel) (q_dm dm_X0_noteOutcome 21 rfl) ?_
      refine qr_letm (fun m2 => ?_)
      refine qr_aload_n o (q_dm dm_X0_noteOutcome 22 rfl) rfl ?_
      refine qr_iload_n o (q_dm dm_X0_noteOutcome 23 rfl) rfl ?_
      refine qr_putf (kf := 9) o cf_X0 (sh44 j r) rfl (Nat.le_of_ble_eq_true rfl) fl_X0_104 rfl (by decide +kernel) (q_dm dm_X0_noteOutcome 24 rfl) ?_
      refine qr_letm (fun m3 => ?_)
      exact qr_vret o rfl (q_dm dm_X0_noteOutcome 25 rfl)

def f_X0_noteOutcome (n : Nat) (a1 a2 a3 a4 : Int32) (M : qM) : qR :=
  (if a4 = (1 : Int32) then qlm (mu M 44 5 ((M 44 5) + (1 : Int32))) (fun m1 => f_X0_noteOutcome_16 n a1 a2 a3 a4 m1) else f_X0_noteOutcome_16 n a1 a2 a3 a4 M)
set_option maxRecDepth 4000 in
theorem w_X0_noteOutcome {g : qG} {k : qK} (n : Nat) (j r : Nat) (hj : q_isLaw j) (hr : q_isLaw r) (o : qOk g 0 zX0_noteOutcome k) (a1 a2 a3 a4 : Int32) (M : qM) : qAE g k zX0_noteOutcome (qL j r) 0 [some (.inr (some 44)), some (.inl a1), some (.inl a2), some (.inl a3), some (.inl a4)] [] (qL j r, M) (f_X0_noteOutcome n a1 a2 a3 a4 M) := by
  unfold f_X0_noteOutcome
  refine qr_iload o (q_dm dm_X0_noteOutcome 0 rfl) rfl ?_
  refine qr_iconst o (q_dm dm_X0_noteOutcome 1 rfl) ic_1 ?_
  refine qr_icmp_ne (tgt := 16) o (q_dm dm_X0_noteOutcome 2 rfl) (by decide) ?_ ?_
  · exact qr_loc (q_leS (q_leS (q_leS (q_leS (q_leS q_le0))))) (w_X0_noteOutcome_16 n j r hj hr o a1 a2 a3 a4 M)
  · refine qr_aload_n o (q_dm dm_X0_noteOutcome 3 rfl) rfl ?_
    refine qr_dup o (q_dm dm_X0_noteOutcome 4 rfl) ?_
    refine qr_getf (kf := 5) o cf_X0 (sh44 j r) rfl (Nat.le_of_ble_eq_true rfl) fl_X0_92 (q_dm dm_X0_noteOutcome 5 rfl) ?_
    refine qr_iconst o (q_dm dm_X0_noteOutcome 6 rfl) ic_1 ?_
    refine qr_iadd o (q_dm dm_X0_noteOutcome 7 rfl) ?_
    refine qr_putf (kf := 5) o cf_X0 (sh44 j r) rfl (Nat.le_of_ble_eq_true rfl) fl_X0_92 rfl (by decide +kernel) (q_dm dm_X0_noteOutcome 8 rfl) ?_
    refine qr_letm (fun m1 => ?_)
    exact qr_loc (q_leS (q_leS (q_leS (q_leS (q_leS q_le0))))) (w_X0_noteOutcome_16 n j r hj hr o a1 a2 a3 a4 m1)

theorem a_X0_noteOutcome (g : qG) (l : Launch) (n : Nat) (j r : Nat) (hj : q_isLaw j) (hr : q_isLaw r) (a1 a2 a3 a4 : Int32) (M : qM) : qAM g l 0 zX0_noteOutcome (qL j r) [.inr (some 44), .inl a1, .inl a2, .inl a3, .inl a4] (qL j r, M) (f_X0_noteOutcome n a1 a2 a3 a4 M) :=
  qAM.of zv_X0_noteOutcome.1 (by show 5 ≤ 5; decide) (fun k hk o => w_X0_noteOutcome n j r hj hr o a1 a2 a3 a4 M)
def tb_X10_knows : List (Nat × Instr × Nat) := [(0, (.iload_n 1, 1)), (1, (.ifCond .lt 25, 3)), (4, (.iload_n 1, 1)), (5, (.bipush 8, 2)), (7, (.if_icmp .ge 19, 3)), (10, (.aload_n 0, 1)), (11, (.getfield 42, 3)), (14, (.iload_n 1, 1)), (15, (.ishr, 1)), (16, (.iconst 1, 1)), (17, (.iand, 1)), (18, (.iconst 1, 1)), (19, (.if_icmp .ne 7, 3)), (22, (.iconst 1, 1)), (23, (.goto 4, 3)), (26, (.iconst 0, 1)), (27, (.ireturn, 1))]
theorem dm_X10_knows : ∀ q ∈ tb_X10_knows, decode zX10_knows.2.1 q.1 = .ok q.2 := by decide +kernel
def f_X10_knows (n : Nat) (t : Nat) (a1 : Int32) (M : qM) : qR :=
  (if a1 < (0 : Int32) then some ((0 : Int32), M) else (if (8 : Int32) ≤ a1 then some ((0 : Int32), M) else (if (((M t 8) >>> (a1 &&& 31)) &&& (1 : Int32)) = (1 : Int32) then some ((1 : Int32), M) else some ((0 : Int32), M))))
set_option maxRecDepth 4000 in
theorem w_X10_knows {g : qG} {k : qK} (n : Nat) (j r : Nat) (hj : q_isLaw j) (hr : q_isLaw r) {t : Nat} (ht : q_isTown t) (o : qOk g 0 zX10_knows k) (a1 : Int32) (M : qM) : qAE g k zX10_knows (qL j r) 0 [some (.inr (some t)), some (.inl a1)] [] (qL j r, M) (f_X10_knows n t a1 M) := by
  unfold f_X10_knows
  refine qr_iload_n o (q_dm dm_X10_knows 0 rfl) rfl ?_
  refine qr_if_lt (tgt := 26) o (q_dm dm_X10_knows 1 rfl) (by decide) ?_ ?_
  · refine qr_iconst o (q_dm dm_X10_knows 15 rfl) ic_0 ?_
    exact qr_iret o rfl (by decide) (q_dm dm_X10_knows 16 rfl)
  · refine qr_iload_n o (q_dm dm_X10_knows 2 rfl) rfl ?_
    refine qr_bipush o (q_dm dm_X10_knows 3 rfl) bi_8 ?_
    refine qr_icmp_ge (tgt := 26) o (q_dm dm_X10_knows 4 rfl) (by decide) ?_ ?_
    · refine qr_iconst o (q_dm dm_X10_knows 15 rfl) ic_0 ?_
      exact qr_iret o rfl (by decide) (q_dm dm_X10_knows 16 rfl)
    · refine qr_aload_n o (q_dm dm_X10_knows 5 rfl) rfl ?_
      refine qr_getf (kf := 8) o cf_X10 (shT0 j r ht) rfl (Nat.le_of_ble_eq_true rfl) fl_X10_42 (q_dm dm_X10_knows 6 rfl) ?_
      refine qr_iload_n o (q_dm dm_X10_knows 7 rfl) rfl ?_
      refine qr_ishr o (q_dm dm_X10_knows 8 rfl) ?_
      refine qr_iconst o (q_dm dm_X10_knows 9 rfl) ic_1 ?_
      refine qr_iand o (q_dm dm_X10_knows 10 rfl) ?_
      refine qr_iconst o (q_dm dm_X10_knows 11 rfl) ic_1 ?_
      refine qr_icmp_ne (tgt := 26) o (q_dm dm_X10_knows 12 rfl) (by decide) ?_ ?_
      · refine qr_iconst o (q_dm dm_X10_knows 15 rfl) ic_0 ?_
        exact qr_iret o rfl (by decide) (q_dm dm_X10_knows 16 rfl)
      · refine qr_iconst o (q_dm dm_X10_knows 13 rfl) ic_1 ?_
        refine qr_goto (tgt := 27) o (q_dm dm_X10_knows 14 rfl) (by decide) ?_
        exact qr_iret o rfl (by decide) (q_dm dm_X10_knows 16 rfl)

theorem a_X10_knows (g : qG) (l : Launch) (n : Nat) (j r : Nat) (hj : q_isLaw j) (hr : q_isLaw r) {t : Nat} (ht : q_isTown t) (a1 : Int32) (M : qM) : qAM g l 0 zX10_knows (qL j r) [.inr (some t), .inl a1] (qL j r, M) (f_X10_knows n t a1 M) :=
  qAM.of zv_X10_knows.1 (by show 2 ≤ 2; decide) (fun k hk o => w_X10_knows n j r hj hr ht o a1 M)
