def tb_X12_daysGo : List (Nat × Instr × Nat) := [(0, (.aload_n 0, 1)), (1, (.iconst 0, 1)), (2, (.putfield 335, 3)), (5, (.aload_n 0, 1)), (6, (.iconst 0, 1)), (7, (.putfield 341, 3)), (10, (.aload_n 0, 1)), (11, (.iconst 0, 1)), (12, (.putfield 338, 3)), (15, (.aload_n 0, 1)), (16, (.bipush (-2), 2)), (18, (.putfield 344, 3)), (21, (.aload_n 0, 1)), (22, (.bipush (-2), 2)), (24, (.putfield 347, 3)), (27, (.aload_n 0, 1)), (28, (.bipush (-2), 2)), (30, (.putfield 350, 3)), (33, (.iconst 0, 1)), (34, (.istore_n 2, 1)), (35, (.iload_n 2, 1)), (36, (.iload_n 1, 1)), (37, (.if_icmp .ge 68, 3)), (40, (.aload_n 0, 1)), (41, (.getfield 7, 3)), (44, (.sipush 313, 3)), (47, (.iaload, 1)), (48, (.sipush 9999, 3)), (51, (.if_icmp .ge 54, 3)), (54, (.iconst 0, 1)), (55, (.istore_n 3, 1)), (56, (.iload_n 3, 1)), (57, (.bipush 8, 2)), (59, (.if_icmp .ge 22, 3)), (62, (.aload_n 0, 1)), (63, (.iload_n 3, 1)), (64, (.invokevirtual 310, 3)), (67, (.ifCond .eq 8, 3)), (70, (.aload_n 0, 1)), (71, (.iload_n 3, 1)), (72, (.invokevirtual 356, 3)), (75, (.iinc 3 1, 3)), (78, (.goto (-22), 3)), (81, (.aload_n 0, 1)), (82, (.getfield 7, 3)), (85, (.sipush 313, 3)), (88, (.aload_n 0, 1)), (89, (.getfield 7, 3)), (92, (.sipush 313, 3)), (95, (.iaload, 1)), (96, (.iconst 1, 1)), (97, (.iadd, 1)), (98, (.iastore, 1)), (99, (.iinc 2 1, 3)), (102, (.goto (-67), 3)), (105, (.return_, 1))]
theorem dm_X12_daysGo : ∀ q ∈ tb_X12_daysGo, decode zX12_daysGo.2.1 q.1 = .ok q.2 := by decide +kernel
def b_X12_daysGo_56 (n : Nat) (K35 : Int32 → Int32 → qM → qR) (K56 : Int32 → Int32 → Int32 → qM → qR) (a1 a2 a3 : Int32) (M : qM) : qR :=
  (if (8 : Int32) ≤ a3 then qlm (mu M 78 313 ((M 78 313) + (1 : Int32))) (fun m1 => ql (a2 + (1 : Int32)) (fun x2 => K35 a1 x2 m1)) else qc (f_X12_isPerson n a3 M) (fun r3 m4 => (if r3 = (0 : Int32) then ql (a3 + (1 : Int32)) (fun x5 => K56 a1 a2 x5 m4) else qc (f_X12_dayOf n a3 m4) (fun _ m6 => ql (a3 + (1 : Int32)) (fun x7 => K56 a1 a2 x7 m6)))))
set_option maxRecDepth 4000 in
theorem wb_X12_daysGo_56 {g : qG} {k : qK} (n : Nat) (j r : Nat) (hj : q_isLaw j) (hr : q_isLaw r) (o : qOk g 6 zX12_daysGo k) (K35 : Int32 → Int32 → qM → qR) (hK35 : ∀ (a1 a2 : Int32) (M : qM), qAE g k zX12_daysGo (qL j r) 35 [some (.inr (some 77)), some (.inl a1), some (.inl a2), none] [] (qL j r, M) (K35 a1 a2 M)) (K56 : Int32 → Int32 → Int32 → qM → qR) (hK56 : ∀ (a1 a2 a3 : Int32) (M : qM), qAE g k zX12_daysGo (qL j r) 56 [some (.inr (some 77)), some (.inl a1), some (.inl a2), some (.inl a3)] [] (qL j r, M) (K56 a1 a2 a3 M)) (a1 a2 a3 : Int32) (M : qM) : qAE g k zX12_daysGo (qL j r) 56 [some (.inr (some 77)), some (.inl a1), some (.inl a2), some (.inl a3)] [] (qL j r, M) (b_X12_daysGo_56 n K35 K56 a1 a2 a3 M) := by
  unfold b_X12_daysGo_56
  refine qr_iload_n o (q_dm dm_X12_daysGo 31 rfl) rfl ?_
  refine qr_bipush o (q_dm dm_X12_daysGo 32 rfl) bi_8 ?_
  refine qr_icmp_ge (tgt := 81) o (q_dm dm_X12_daysGo 33 rfl) (by decide) ?_ ?_
  · refine qr_aload_n o (q_dm dm_X12_daysGo 43 rfl) rfl ?_
    refine qr_getr (kf := 0) o cf_X12 (sh77 j r) rfl (Nat.le_of_ble_eq_true rfl) fl_X12_7 (q_dm dm_X12_daysGo 44 rfl) ?_
    refine qr_sipush o (q_dm dm_X12_daysGo 45 rfl) si_313 ?_
    refine qr_aload_n o (q_dm dm_X12_daysGo 46 rfl) rfl ?_
    refine qr_getr (kf := 0) o cf_X12 (sh77 j r) rfl (Nat.le_of_ble_eq_true rfl) fl_X12_7 (q_dm dm_X12_daysGo 47 rfl) ?_
    refine qr_sipush o (q_dm dm_X12_daysGo 48 rfl) si_313 ?_
    refine qr_iald0 (c := 313) o (sh78 j r) (by decide) (by decide) (q_dm dm_X12_daysGo 49 rfl) ?_
    refine qr_iconst o (q_dm dm_X12_daysGo 50 rfl) ic_1 ?_
    refine qr_iadd o (q_dm dm_X12_daysGo 51 rfl) ?_
    refine qr_iast0 (c := 313) o (sh78 j r) (by decide) (by decide) (q_dm dm_X12_daysGo 52 rfl) ?_
    refine qr_letm (fun m1 => ?_)
    refine qs_iincl2 (L' := fun x2 => [some (.inr (some 77)), some (.inl a1), some (.inl x2), some (.inl a3)]) o (q_dm dm_X12_daysGo 53 rfl) rfl ic_1 (Nat.le_of_ble_eq_true rfl) (fun _ => rfl) (fun x2 => ?_)
    refine qr_goto (tgt := 35) o (q_dm dm_X12_daysGo 54 rfl) (by decide) ?_
    exact qr_loc (q_leS (q_leS (q_leS (q_leN q_le0)))) (hK35 a1 x2 m1)
  · refine qr_aload_n o (q_dm dm_X12_daysGo 34 rfl) rfl ?_
    refine qr_iload_n o (q_dm dm_X12_daysGo 35 rfl) rfl ?_
    refine qr_callv_i (As := [.inl a3]) (S := []) o (a_X12_isPerson g k.2.1 n j r hj hr a3 M) (Nat.le_of_ble_eq_true rfl) zv_X12_isPerson rfl cf_X12 (sh77 j r) ml_X12_310 (Nat.le_of_ble_eq_true rfl) (q_dm dm_X12_daysGo 36 rfl) (fun r3 m4 => ?_)
    refine qr_if_eq (tgt := 75) o (q_dm dm_X12_daysGo 37 rfl) (by decide) ?_ ?_
    · refine qs_iincl2 (L' := fun x5 => [some (.inr (some 77)), some (.inl a1), some (.inl a2), some (.inl x5)]) o (q_dm dm_X12_daysGo 41 rfl) rfl ic_1 (Nat.le_of_ble_eq_true rfl) (fun _ => rfl) (fun x5 => ?_)
      refine qr_goto (tgt := 56) o (q_dm dm_X12_daysGo 42 rfl) (by decide) ?_
      exact qr_loc (q_leS (q_leS (q_leS (q_leS q_le0)))) (hK56 a1 a2 x5 m4)
    · refine qr_aload_n o (q_dm dm_X12_daysGo 38 rfl) rfl ?_
      refine qr_iload_n o (q_dm dm_X12_daysGo 39 rfl) rfl ?_
      refine qr_callv_v (As := [.inl a3]) (S := []) o (a_X12_dayOf g k.2.1 n j r hj hr a3 m4) (Nat.le_of_ble_eq_true rfl) zv_X12_dayOf rfl cf_X12 (sh77 j r) ml_X12_356 (Nat.le_of_ble_eq_true rfl) (q_dm dm_X12_daysGo 40 rfl) (fun _ m6 => ?_)
      refine qs_iincl2 (L' := fun x7 => [some (.inr (some 77)), some (.inl a1), some (.inl a2), some (.inl x7)]) o (q_dm dm_X12_daysGo 41 rfl) rfl ic_1 (Nat.le_of_ble_eq_true rfl) (fun _ => rfl) (fun x7 => ?_)
      refine qr_goto (tgt := 56) o (q_dm dm_X12_daysGo 42 rfl) (by decide) ?_
      exact qr_loc (q_leS (q_leS (q_leS (q_leS q_le0)))) (hK56 a1 a2 x7 m6)

def f_X12_daysGo_56 (n : Nat) (K35 : Int32 → Int32 → qM → qR) : Nat → Int32 → Int32 → Int32 → qM → qR
  | 0, _, _, _, _ => none
  | m + 1, a1, a2, a3, M => b_X12_daysGo_56 n K35 (f_X12_daysGo_56 n K35 m) a1 a2 a3 M
theorem w_X12_daysGo_56 {g : qG} {k : qK} (n : Nat) (j r : Nat) (hj : q_isLaw j) (hr : q_isLaw r) (o : qOk g 6 zX12_daysGo k) (K35 : Int32 → Int32 → qM → qR) (hK35 : ∀ (a1 a2 : Int32) (M : qM), qAE g k zX12_daysGo (qL j r) 35 [some (.inr (some 77)), some (.inl a1), some (.inl a2), none] [] (qL j r, M) (K35 a1 a2 M)) : ∀ (m : Nat) (a1 a2 a3 : Int32) (M : qM), qAE g k zX12_daysGo (qL j r) 56 [some (.inr (some 77)), some (.inl a1), some (.inl a2), some (.inl a3)] [] (qL j r, M) (f_X12_daysGo_56 n K35 m a1 a2 a3 M) := by
  intro m
  induction m with
  | zero =>
    intro a1 a2 a3 M
    exact qr_none
  | succ m ih =>
    intro a1 a2 a3 M
    exact wb_X12_daysGo_56 n j r hj hr o K35 hK35 (f_X12_daysGo_56 n K35 m) ih a1 a2 a3 M
def b_X12_daysGo_35 (n : Nat) (K35 : Int32 → Int32 → qM → qR) (a1 a2 : Int32) (M : qM) : qR :=
  (if a1 ≤ a2 then some (0, M) else (if (9999 : Int32) ≤ (M 78 313) then some (0, M) else f_X12_daysGo_56 n K35 n a1 a2 (0 : Int32) M))
set_option maxRecDepth 4000 in
theorem wb_X12_daysGo_35 {g : qG} {k : qK} (n : Nat) (j r : Nat) (hj : q_isLaw j) (hr : q_isLaw r) (o : qOk g 6 zX12_daysGo k) (K35 : Int32 → Int32 → qM → qR) (hK35 : ∀ (a1 a2 : Int32) (M : qM), qAE g k zX12_daysGo (qL j r) 35 [some (.inr (some 77)), some (.inl a1), some (.inl a2), none] [] (qL j r, M) (K35 a1 a2 M)) (a1 a2 : Int32) (M : qM) : qAE g k zX12_daysGo (qL j r) 35 [some (.inr (some 77)), some (.inl a1), some (.inl a2), none] [] (qL j r, M) (b_X12_daysGo_35 n K35 a1 a2 M) := by
  unfold b_X12_daysGo_35
  refine qr_iload_n o (q_dm dm_X12_daysGo 20 rfl) rfl ?_
  refine qr_iload_n o (q_dm dm_X12_daysGo 21 rfl) rfl ?_
  refine qr_icmp_ge (tgt := 105) o (q_dm dm_X12_daysGo 22 rfl) (by decide) ?_ ?_
  · exact qr_vret o rfl (q_dm dm_X12_daysGo 55 rfl)
  · refine qr_aload_n o (q_dm dm_X12_daysGo 23 rfl) rfl ?_
    refine qr_getr (kf := 0) o cf_X12 (sh77 j r) rfl (Nat.le_of_ble_eq_true rfl) fl_X12_7 (q_dm dm_X12_daysGo 24 rfl) ?_
    refine qr_sipush o (q_dm dm_X12_daysGo 25 rfl) si_313 ?_
    refine qr_iald0 (c := 313) o (sh78 j r) (by decide) (by decide) (q_dm dm_X12_daysGo 26 rfl) ?_
    refine qr_sipush o (q_dm dm_X12_daysGo 27 rfl) si_9999 ?_
    refine qr_icmp_ge (tgt := 105) o (q_dm dm_X12_daysGo 28 rfl) (by decide) ?_ ?_
    · exact qr_vret o rfl (q_dm dm_X12_daysGo 55 rfl)
    · refine qr_iconst o (q_dm dm_X12_daysGo 29 rfl) ic_0 ?_
      refine qs_istore_n (L' := [some (.inr (some 77)), some (.inl a1), some (.inl a2), some (.inl (0 : Int32))]) o (q_dm dm_X12_daysGo 30 rfl) (Nat.le_of_ble_eq_true rfl) rfl ?_
      exact qr_loc (q_leS (q_leS (q_leS (q_leS q_le0)))) (w_X12_daysGo_56 n j r hj hr o K35 hK35 n a1 a2 (0 : Int32) M)

def f_X12_daysGo_35 (n : Nat) : Nat → Int32 → Int32 → qM → qR
  | 0, _, _, _ => none
  | m + 1, a1, a2, M => b_X12_daysGo_35 n (f_X12_daysGo_35 n m) a1 a2 M
theorem w_X12_daysGo_35 {g : qG} {k : qK} (n : Nat) (j r : Nat) (hj : q_isLaw j) (hr : q_isLaw r) (o : qOk g 6 zX12_daysGo k) : ∀ (m : Nat) (a1 a2 : Int32) (M : qM), qAE g k zX12_daysGo (qL j r) 35 [some (.inr (some 77)), some (.inl a1), some (.inl a2), none] [] (qL j r, M) (f_X12_daysGo_35 n m a1 a2 M) := by
  intro m
  induction m with
  | zero =>
    intro a1 a2 M
    exact qr_none
  | succ m ih =>
    intro a1 a2 M
    exact wb_X12_daysGo_35 n j r hj hr o (f_X12_daysGo_35 n m) ih a1 a2 M
def f_X12_daysGo (n : Nat) (a1 : Int32) (M : qM) : qR :=
  qlm (mu M 77 37 (0 : Int32)) (fun m1 => qlm (mu m1 77 38 (0 : Int32)) (fun m2 => qlm (mu m2 77 39 (0 : Int32)) (fun m3 => qlm (mu m3 77 40 (-2 : Int32)) (fun m4 => qlm (mu m4 77 41 (-2 : Int32)) (fun m5 => qlm (mu m5 77 42 (-2 : Int32)) (fun m6 => f_X12_daysGo_35 n n a1 (0 : Int32) m6))))))
set_option maxRecDepth 4000 in
theorem w_X12_daysGo {g : qG} {k : qK} (n : Nat) (j r : Nat) (hj : q_isLaw j) (hr : q_isLaw r) (o : qOk g 6 zX12_daysGo k) (a1 : Int32) (M : qM) : qAE g k zX12_daysGo (qL j r) 0 [some (.inr (some 77)), some (.inl a1), none, none] [] (qL j r, M) (f_X12_daysGo n a1 M) := by
  unfold f_X12_daysGo
  refine qr_aload_n o (q_dm dm_X12_daysGo 0 rfl) rfl ?_
  refine qr_iconst o (q_dm dm_X12_daysGo 1 rfl) ic_0 ?_
  refine qr_putf (kf := 37) o cf_X12 (sh77 j r) rfl (Nat.le_of_ble_eq_true rfl) fl_X12_335 rfl (by decide +kernel) (q_dm dm_X12_daysGo 2 rfl) ?_
  refine qr_letm (fun m1 => ?_)
  refine qr_aload_n o (q_dm dm_X12_daysGo 3 rfl) rfl ?_
  refine qr_iconst o (q_dm dm_X12_daysGo 4 rfl) ic_0 ?_
  refine qr_putf (kf := 38) o cf_X12 (sh77 j r) rfl (Nat.le_of_ble_eq_true rfl) fl_X12_341 rfl (by decide +kernel) (q_dm dm_X12_daysGo 5 rfl) ?_
  refine qr_letm (fun m2 => ?_)
  refine qr_aload_n o (q_dm dm_X12_daysGo 6 rfl) rfl ?_
  refine qr_iconst o (q_dm dm_X12_daysGo 7 rfl) ic_0 ?_
  refine qr_putf (kf := 39) o cf_X12 (sh77 j r) rfl (Nat.le_of_ble_eq_true rfl) fl_X12_338 rfl (by decide +kernel) (q_dm dm_X12_daysGo 8 rfl) ?_
  refine qr_letm (fun m3 => ?_)
  refine qr_aload_n o (q_dm dm_X12_daysGo 9 rfl) rfl ?_
  refine qr_bipush o (q_dm dm_X12_daysGo 10 rfl) bi_m2 ?_
  refine qr_putf (kf := 40) o cf_X12 (sh77 j r) rfl (Nat.le_of_ble_eq_true rfl) fl_X12_344 rfl (by decide +kernel) (q_dm dm_X12_daysGo 11 rfl) ?_
  refine qr_letm (fun m4 => ?_)
  refine qr_aload_n o (q_dm dm_X12_daysGo 12 rfl) rfl ?_
  refine qr_bipush o (q_dm dm_X12_daysGo 13 rfl) bi_m2 ?_
  refine qr_putf (kf := 41) o cf_X12 (sh77 j r) rfl (Nat.le_of_ble_eq_true rfl) fl_X12_347 rfl (by decide +kernel) (q_dm dm_X12_daysGo 14 rfl) ?_
  refine qr_letm (fun m5 => ?_)
  refine qr_aload_n o (q_dm dm_X12_daysGo 15 rfl) rfl ?_
  refine qr_bipush o (q_dm dm_X12_daysGo 16 rfl) bi_m2 ?_
  refine qr_putf (kf := 42) o cf_X12 (sh77 j r) rfl (Nat.le_of_ble_eq_true rfl) fl_X12_350 rfl (by decide +kernel) (q_dm dm_X12_daysGo 17 rfl) ?_
  refine qr_letm (fun m6 => ?_)
  refine qr_iconst o (q_dm dm_X12_daysGo 18 rfl) ic_0 ?_
  refine qs_istore_n (L' := [some (.inr (some 77)), some (.inl a1), some (.inl (0 : Int32)), none]) o (q_dm dm_X12_daysGo 19 rfl) (Nat.le_of_ble_eq_true rfl) rfl ?_
  exact qr_loc (q_leS (q_leS (q_leS (q_leN q_le0)))) (w_X12_daysGo_35 n j r hj hr o n a1 (0 : Int32) m6)

theorem a_X12_daysGo (g : qG) (l : Launch) (n : Nat) (j r : Nat) (hj : q_isLaw j) (hr : q_isLaw r) (a1 : Int32) (M : qM) : qAM g l 6 zX12_daysGo (qL j r) [.inr (some 77), .inl a1] (qL j r, M) (f_X12_daysGo n a1 M) :=
  qAM.of zv_X12_daysGo.1 (by show 2 ≤ 4; decide) (fun k hk o => w_X12_daysGo n j r hj hr o a1 M)
def tb_X12_days : List (Nat × Instr × Nat) := [(0, (.iload_n 1, 1)), (1, (.iconst 1, 1)), (2, (.bipush 60, 2)), (4, (.invokestatic 153, 3)), (7, (.ifCond .ne 5, 3)), (10, (.iconst (-1), 1)), (11, (.ireturn, 1)), (12, (.aload_n 0, 1)), (13, (.iload_n 1, 1)), (14, (.invokevirtual 359, 3)), (17, (.aload_n 0, 1)), (18, (.getfield 341, 3)), (21, (.ireturn, 1))]
theorem dm_X12_days : ∀ q ∈ tb_X12_days, decode zX12_days.2.1 q.1 = .ok q.2 := by decide +kernel
def f_X12_days (n : Nat) (a1 : Int32) (M : qM) : qR :=
  qc (f_X12_in n a1 (1 : Int32) (60 : Int32) M) (fun r1 m2 => (if r1 = (0 : Int32) then some ((-1 : Int32), m2) else qc (f_X12_daysGo n a1 m2) (fun _ m3 => some ((m3 77 38), m3))))
set_option maxRecDepth 4000 in
theorem w_X12_days {g : qG} {k : qK} (n : Nat) (j r : Nat) (hj : q_isLaw j) (hr : q_isLaw r) (o : qOk g 7 zX12_days k) (a1 : Int32) (M : qM) : qAE g k zX12_days (qL j r) 0 [some (.inr (some 77)), some (.inl a1)] [] (qL j r, M) (f_X12_days n a1 M) := by
  unfold f_X12_days
  refine qr_iload_n o (q_dm dm_X12_days 0 rfl) rfl ?_
  refine qr_iconst o (q_dm dm_X12_days 1 rfl) ic_1 ?_
  refine qr_bipush o (q_dm dm_X12_days 2 rfl) bi_60 ?_
  refine qr_calls_i (As := [.inl a1, .inl (1 : Int32), .inl (60 : Int32)]) (S := []) o (a_X12_in g k.2.1 n j r hj hr a1 (1 : Int32) (60 : Int32) M) (Nat.le_of_ble_eq_true rfl) zs_X12_in rfl ml_X12_153 (Nat.le_of_ble_eq_true rfl) (q_dm dm_X12_days 3 rfl) (fun r1 m2 => ?_)
  refine qr_if_ne (tgt := 12) o (q_dm dm_X12_days 4 rfl) (by decide) ?_ ?_
  · refine qr_aload_n o (q_dm dm_X12_days 7 rfl) rfl ?_
    refine qr_iload_n o (q_dm dm_X12_days 8 rfl) rfl ?_
    refine qr_callv_v (As := [.inl a1]) (S := []) o (a_X12_daysGo g k.2.1 n j r hj hr a1 m2) (Nat.le_of_ble_eq_true rfl) zv_X12_daysGo rfl cf_X12 (sh77 j r) ml_X12_359 (Nat.le_of_ble_eq_true rfl) (q_dm dm_X12_days 9 rfl) (fun _ m3 => ?_)
    refine qr_aload_n o (q_dm dm_X12_days 10 rfl) rfl ?_
    refine qr_getf (kf := 38) o cf_X12 (sh77 j r) rfl (Nat.le_of_ble_eq_true rfl) fl_X12_341 (q_dm dm_X12_days 11 rfl) ?_
    exact qr_iret o rfl rfl (q_dm dm_X12_days 12 rfl)
  · refine qr_iconst o (q_dm dm_X12_days 5 rfl) ic_m1 ?_
    exact qr_iret o rfl rfl (q_dm dm_X12_days 6 rfl)

theorem a_X12_days (g : qG) (l : Launch) (n : Nat) (j r : Nat) (hj : q_isLaw j) (hr : q_isLaw r) (a1 : Int32) (M : qM) : qAM g l 7 zX12_days (qL j r) [.inr (some 77), .inl a1] (qL j r, M) (f_X12_days n a1 M) :=
  qAM.of zv_X12_days.1 (by show 2 ≤ 2; decide) (fun k hk o => w_X12_days n j r hj hr o a1 M)
def tb_X12_endsPiece : List (Nat × Instr × Nat) := [(0, (.aload_n 0, 1)), (1, (.invokevirtual 202, 3)), (4, (.bipush 10, 2)), (6, (.if_icmp .ne 33, 3)), (9, (.aload_n 0, 1)), (10, (.bipush 10, 2)), (12, (.iconst 0, 1)), (13, (.invokevirtual 205, 3)), (16, (.aload_n 0, 1)), (17, (.aload_n 0, 1)), (18, (.getfield 199, 3)), (21, (.iconst 1, 1)), (22, (.isub, 1)), (23, (.putfield 199, 3)), (26, (.aload_n 0, 1)), (27, (.aload_n 0, 1)), (28, (.getfield 196, 3)), (31, (.iconst 1, 1)), (32, (.isub, 1)), (33, (.putfield 196, 3)), (36, (.goto (-36), 3)), (39, (.return_, 1))]
theorem dm_X12_endsPiece : ∀ q ∈ tb_X12_endsPiece, decode zX12_endsPiece.2.1 q.1 = .ok q.2 := by decide +kernel
def b_X12_endsPiece_0 (n : Nat) (K0 : qM → qR) (M : qM) : qR :=
  qc (f_X12_waitTop n  M) (fun r1 m2 => (if r1 = (10 : Int32) then qc (f_X12_notes n (10 : Int32) (0 : Int32) m2) (fun _ m3 => qlm (mu m3 77 15 ((m3 77 15) - (1 : Int32))) (fun m4 => qlm (mu m4 77 13 ((m4 77 13) - (1 : Int32))) (fun m5 => K0  m5))) else some (0, m2)))
set_option maxRecDepth 4000 in
theorem wb_X12_endsPiece_0 {g : qG} {k : qK} (n : Nat) (j r : Nat) (hj : q_isLaw j) (hr : q_isLaw r) (o : qOk g 1 zX12_endsPiece k) (K0 : qM → qR) (hK0 : ∀ (M : qM), qAE g k zX12_endsPiece (qL j r) 0 [some (.inr (some 77))] [] (qL j r, M) (K0  M)) (M : qM) : qAE g k zX12_endsPiece (qL j r) 0 [some (.inr (some 77))] [] (qL j r, M) (b_X12_endsPiece_0 n K0  M) := by
  unfold b_X12_endsPiece_0
  refine qr_aload_n o (q_dm dm_X12_endsPiece 0 rfl) rfl ?_
  refine qr_callv_i (As := []) (S := []) o (a_X12_waitTop g k.2.1 n j r hj hr  M) (Nat.le_of_ble_eq_true rfl) zv_X12_waitTop rfl cf_X12 (sh77 j r) ml_X12_202 (Nat.le_of_ble_eq_true rfl) (q_dm dm_X12_endsPiece 1 rfl) (fun r1 m2 => ?_)
  refine qr_bipush o (q_dm dm_X12_endsPiece 2 rfl) bi_10 ?_
  refine qr_icmp_ne (tgt := 39) o (q_dm dm_X12_endsPiece 3 rfl) (by decide) ?_ ?_
  · exact qr_vret o rfl (q_dm dm_X12_endsPiece 21 rfl)
  · refine qr_aload_n o (q_dm dm_X12_endsPiece 4 rfl) rfl ?_
    refine qr_bipush o (q_dm dm_X12_endsPiece 5 rfl) bi_10 ?_
    refine qr_iconst o (q_dm dm_X12_endsPiece 6 rfl) ic_0 ?_
    refine qr_callv_v (As := [.inl (10 : Int32), .inl (0 : Int32)]) (S := []) o (a_X12_notes g k.2.1 n j r hj hr (10 : Int32) (0 : Int32) m2) (Nat.le_of_ble_eq_true rfl) zv_X12_notes rfl cf_X12 (sh77 j r) ml_X12_205 (Nat.le_of_ble_eq_true rfl) (q_dm dm_X12_endsPiece 7 rfl) (fun _ m3 => ?_)
    refine qr_aload_n o (q_dm dm_X12_endsPiece 8 rfl) rfl ?_
    refine qr_aload_n o (q_dm dm_X12_endsPiece 9 rfl) rfl ?_
    refine qr_getf (kf := 15) o cf_X12 (sh77 j r) rfl (Nat.le_of_ble_eq_true rfl) fl_X12_199 (q_dm dm_X12_endsPiece 10 rfl) ?_
    refine qr_iconst o (q_dm dm_X12_endsPiece 11 rfl) ic_1 ?_
    refine qr_isub o (q_dm dm_X12_endsPiece 12 rfl) ?_
    refine qr_putf (kf := 15) o cf_X12 (sh77 j r) rfl (Nat.le_of_ble_eq_true rfl) fl_X12_199 rfl (by decide +kernel) (q_dm dm_X12_endsPiece 13 rfl) ?_
    refine qr_letm (fun m4 => ?_)
    refine qr_aload_n o (q_dm dm_X12_endsPiece 14 rfl) rfl ?_
    refine qr_aload_n o (q_dm dm_X12_endsPiece 15 rfl) rfl ?_
    refine qr_getf (kf := 13) o cf_X12 (sh77 j r) rfl (Nat.le_of_ble_eq_true rfl) fl_X12_196 (q_dm dm_X12_endsPiece 16 rfl) ?_
    refine qr_iconst o (q_dm dm_X12_endsPiece 17 rfl) ic_1 ?_
    refine qr_isub o (q_dm dm_X12_endsPiece 18 rfl) ?_
    refine qr_putf (kf := 13) o cf_X12 (sh77 j r) rfl (Nat.le_of_ble_eq_true rfl) fl_X12_196 rfl (by decide +kernel) (q_dm dm_X12_endsPiece 19 rfl) ?_
    refine qr_letm (fun m5 => ?_)
    refine qr_goto (tgt := 0) o (q_dm dm_X12_endsPiece 20 rfl) (by decide) ?_
    exact qr_loc (q_leS q_le0) (hK0  m5)

def f_X12_endsPiece_0 (n : Nat) : Nat → qM → qR
  | 0, _ => none
  | m + 1, M => b_X12_endsPiece_0 n (f_X12_endsPiece_0 n m)  M
theorem w_X12_endsPiece_0 {g : qG} {k : qK} (n : Nat) (j r : Nat) (hj : q_isLaw j) (hr : q_isLaw r) (o : qOk g 1 zX12_endsPiece k) : ∀ (m : Nat) (M : qM), qAE g k zX12_endsPiece (qL j r) 0 [some (.inr (some 77))] [] (qL j r, M) (f_X12_endsPiece_0 n m  M) := by
  intro m
  induction m with
  | zero =>
    intro  M
    exact qr_none
  | succ m ih =>
    intro  M
    exact wb_X12_endsPiece_0 n j r hj hr o (f_X12_endsPiece_0 n m) ih  M
def f_X12_endsPiece (n : Nat) (M : qM) : qR :=
  f_X12_endsPiece_0 n n  M
set_option maxRecDepth 4000 in
theorem w_X12_endsPiece {g : qG} {k : qK} (n : Nat) (j r : Nat) (hj : q_isLaw j) (hr : q_isLaw r) (o : qOk g 1 zX12_endsPiece k) (M : qM) : qAE g k zX12_endsPiece (qL j r) 0 [some (.inr (some 77))] [] (qL j r, M) (f_X12_endsPiece n  M) := by
  unfold f_X12_endsPiece
  exact qr_loc (q_leS q_le0) (w_X12_endsPiece_0 n j r hj hr o n  M)

theorem a_X12_endsPiece (g : qG) (l : Launch) (n : Nat) (j r : Nat) (hj : q_isLaw j) (hr : q_isLaw r) (M : qM) : qAM g l 1 zX12_endsPiece (qL j r) [.inr (some 77)] (qL j r, M) (f_X12_endsPiece n  M) :=
  qAM.of zv_X12_endsPiece.1 (by show 1 ≤ 1; decide) (fun k hk o => w_X12_endsPiece n j r hj hr o  M)
def tb_X12_here : List (Nat × Instr × Nat) := [(0, (.aload_n 0, 1)), (1, (.getfield 169, 3)), (4, (.aload_n 0, 1)), (5, (.getfield 172, 3)), (8, (.if_icmp .ge 19, 3)), (11, (.aload_n 0, 1)), (12, (.getfield 28, 3)), (15, (.aload_n 0, 1)), (16, (.getfield 169, 3)), (19, (.baload, 1)), (20, (.sipush 255, 3)), (23, (.iand, 1)), (24, (.goto 4, 3)), (27, (.iconst (-1), 1)), (28, (.ireturn, 1))]
theorem dm_X12_here : ∀ q ∈ tb_X12_here, decode zX12_here.2.1 q.1 = .ok q.2 := by decide +kernel
def f_X12_here (n : Nat) (M : qM) : qR :=
  (if (M 77 10) ≤ (M 77 9) then some ((-1 : Int32), M) else qg (M 77 9) 260 (some (((M 84 (M 77 9).toNatClampNeg) &&& (255 : Int32)), M)))
set_option maxRecDepth 4000 in
theorem w_X12_here {g : qG} {k : qK} (n : Nat) (j r : Nat) (hj : q_isLaw j) (hr : q_isLaw r) (o : qOk g 0 zX12_here k) (M : qM) : qAE g k zX12_here (qL j r) 0 [some (.inr (some 77))] [] (qL j r, M) (f_X12_here n  M) := by
  unfold f_X12_here
  refine qr_aload_n o (q_dm dm_X12_here 0 rfl) rfl ?_
  refine qr_getf (kf := 9) o cf_X12 (sh77 j r) rfl (Nat.le_of_ble_eq_true rfl) fl_X12_169 (q_dm dm_X12_here 1 rfl) ?_
  refine qr_aload_n o (q_dm dm_X12_here 2 rfl) rfl ?_
  refine qr_getf (kf := 10) o cf_X12 (sh77 j r) rfl (Nat.le_of_ble_eq_true rfl) fl_X12_172 (q_dm dm_X12_here 3 rfl) ?_
  refine qr_icmp_ge (tgt := 27) o (q_dm dm_X12_here 4 rfl) (by decide) ?_ ?_
  · refine qr_iconst o (q_dm dm_X12_here 13 rfl) ic_m1 ?_
    exact qr_iret o rfl rfl (q_dm dm_X12_here 14 rfl)
  · refine qr_aload_n o (q_dm dm_X12_here 5 rfl) rfl ?_
    refine qr_getr (kf := 7) o cf_X12 (sh77 j r) rfl (Nat.le_of_ble_eq_true rfl) fl_X12_28 (q_dm dm_X12_here 6 rfl) ?_
    refine qr_aload_n o (q_dm dm_X12_here 7 rfl) rfl ?_
    refine qr_getf (kf := 9) o cf_X12 (sh77 j r) rfl (Nat.le_of_ble_eq_true rfl) fl_X12_169 (q_dm dm_X12_here 8 rfl) ?_
    refine qr_bald o (sh84 j r) (q_dm dm_X12_here 9 rfl) ?_
    refine qr_sipush o (q_dm dm_X12_here 10 rfl) si_255 ?_
    refine qr_iand o (q_dm dm_X12_here 11 rfl) ?_
    refine qr_goto (tgt := 28) o (q_dm dm_X12_here 12 rfl) (by decide) ?_
    exact qr_iret o rfl rfl (q_dm dm_X12_here 14 rfl)

theorem a_X12_here (g : qG) (l : Launch) (n : Nat) (j r : Nat) (hj : q_isLaw j) (hr : q_isLaw r) (M : qM) : qAM g l 0 zX12_here (qL j r) [.inr (some 77)] (qL j r, M) (f_X12_here n  M) :=
  qAM.of zv_X12_here.1 (by show 1 ≤ 1; decide) (fun k hk o => w_X12_here n j r hj hr o  M)
def tb_X12_wrongAt : List (Nat × Instr × Nat) := [(0, (.aload_n 0, 1)), (1, (.sipush (-1000), 3)), (4, (.iload_n 1, 1)), (5, (.imul, 1)), (6, (.iload_n 2, 1)), (7, (.isub, 1)), (8, (.putfield 179, 3)), (11, (.iconst 0, 1)), (12, (.ireturn, 1))]
theorem dm_X12_wrongAt : ∀ q ∈ tb_X12_wrongAt, decode zX12_wrongAt.2.1 q.1 = .ok q.2 := by decide +kernel
def f_X12_wrongAt (n : Nat) (a1 a2 : Int32) (M : qM) : qR :=
  qlm (mu M 77 11 (((-1000 : Int32) * a1) - a2)) (fun m1 => some ((0 : Int32), m1))
set_option maxRecDepth 4000 in
theorem w_X12_wrongAt {g : qG} {k : qK} (n : Nat) (j r : Nat) (hj : q_isLaw j) (hr : q_isLaw r) (o : qOk g 0 zX12_wrongAt k) (a1 a2 : Int32) (M : qM) : qAE g k zX12_wrongAt (qL j r) 0 [some (.inr (some 77)), some (.inl a1), some (.inl a2)] [] (qL j r, M) (f_X12_wrongAt n a1 a2 M) := by
  unfold f_X12_wrongAt
  refine qr_aload_n o (q_dm dm_X12_wrongAt 0 rfl) rfl ?_
  refine qr_sipush o (q_dm dm_X12_wrongAt 1 rfl) si_m1000 ?_
  refine qr_iload_n o (q_dm dm_X12_wrongAt 2 rfl) rfl ?_
  refine qr_imul o (q_dm dm_X12_wrongAt 3 rfl) ?_
  refine qr_iload_n o (q_dm dm_X12_wrongAt 4 rfl) rfl ?_
  refine qr_isub o (q_dm dm_X12_wrongAt 5 rfl) ?_
  refine qr_putf (kf := 11) o cf_X12 (sh77 j r) rfl (Nat.le_of_ble_eq_true rfl) fl_X12_179 rfl (by decide +kernel) (q_dm dm_X12_wrongAt 6 rfl) ?_
  refine qr_letm (fun m1 => ?_)
  refine qr_iconst o (q_dm dm_X12_wrongAt 7 rfl) ic_0 ?_
  exact qr_iret o rfl (by decide) (q_dm dm_X12_wrongAt 8 rfl)

theorem a_X12_wrongAt (g : qG) (l : Launch) (n : Nat) (j r : Nat) (hj : q_isLaw j) (hr : q_isLaw r) (a1 a2 : Int32) (M : qM) : qAM g l 0 zX12_wrongAt (qL j r) [.inr (some 77), .inl a1, .inl a2] (qL j r, M) (f_X12_wrongAt n a1 a2 M) :=
  qAM.of zv_X12_wrongAt.1 (by show 3 ≤ 3; decide) (fun k hk o => w_X12_wrongAt n j r hj hr o a1 a2 M)
def tb_X12_endsRound : List (Nat × Instr × Nat) := [(0, (.aload_n 0, 1)), (1, (.aload_n 0, 1)), (2, (.getfield 169, 3)), (5, (.iconst 1, 1)), (6, (.iadd, 1)), (7, (.putfield 169, 3)), (10, (.aload_n 0, 1)), (11, (.invokevirtual 175, 3)), (14, (.bipush 50, 2)), (16, (.bipush 57, 2)), (18, (.invokestatic 153, 3)), (21, (.ifCond .ne 13, 3)), (24, (.aload_n 0, 1)), (25, (.iconst 1, 1)), (26, (.aload_n 0, 1)), (27, (.getfield 169, 3)), (30, (.invokevirtual 182, 3)), (33, (.ireturn, 1)), (34, (.aload_n 0, 1)), (35, (.invokevirtual 175, 3)), (38, (.bipush 48, 2)), (40, (.isub, 1)), (41, (.istore_n 1, 1)), (42, (.aload_n 0, 1)), (43, (.aload_n 0, 1)), (44, (.getfield 169, 3)), (47, (.iconst 1, 1)), (48, (.iadd, 1)), (49, (.putfield 169, 3)), (52, (.aload_n 0, 1)), (53, (.aload_n 0, 1)), (54, (.getfield 323, 3)), (57, (.iconst 1, 1)), (58, (.isub, 1)), (59, (.putfield 323, 3)), (62, (.aload_n 0, 1)), (63, (.getfield 80, 3)), (66, (.aload_n 0, 1)), (67, (.getfield 323, 3)), (70, (.iaload, 1)), (71, (.istore_n 2, 1)), (72, (.aload_n 0, 1)), (73, (.getfield 326, 3)), (76, (.iload_n 2, 1)), (77, (.isub, 1)), (78, (.istore_n 3, 1)), (79, (.iload_n 2, 1)), (80, (.iload_n 3, 1)), (81, (.iload_n 1, 1)), (82, (.imul, 1)), (83, (.iadd, 1)), (84, (.bipush 40, 2)), (86, (.if_icmp .le 19, 3)), (89, (.aload_n 0, 1)), (90, (.bipush 6, 2)), (92, (.aload_n 0, 1)), (93, (.getfield 77, 3)), (96, (.aload_n 0, 1)), (97, (.getfield 323, 3)), (100, (.iaload, 1)), (101, (.invokevirtual 182, 3)), (104, (.ireturn, 1)), (105, (.iload_n 3, 1)), (106, (.istore 4, 2)), (108, (.iload 4, 2)), (110, (.iload_n 3, 1)), (111, (.iload_n 1, 1)), (112, (.imul, 1)), (113, (.if_icmp .ge 49, 3)), (116, (.aload_n 0, 1)), (117, (.getfield 71, 3)), (120, (.iload_n 2, 1)), (121, (.iload 4, 2)), (123, (.iadd, 1)), (124, (.aload_n 0, 1)), (125, (.getfield 71, 3)), (128, (.iload_n 2, 1)), (129, (.iload 4, 2)), (131, (.iadd, 1)), (132, (.iload_n 3, 1)), (133, (.isub, 1)), (134, (.iaload, 1)), (135, (.iastore, 1)), (136, (.aload_n 0, 1)), (137, (.getfield 74, 3)), (140, (.iload_n 2, 1)), (141, (.iload 4, 2)), (143, (.iadd, 1)), (144, (.aload_n 0, 1)), (145, (.getfield 74, 3)), (148, (.iload_n 2, 1)), (149, (.iload 4, 2)), (151, (.iadd, 1)), (152, (.iload_n 3, 1)), (153, (.isub, 1)), (154, (.iaload, 1)), (155, (.iastore, 1)), (156, (.iinc 4 1, 3)), (159, (.goto (-51), 3)), (162, (.aload_n 0, 1)), (163, (.iload_n 2, 1)), (164, (.iload_n 3, 1)), (165, (.iload_n 1, 1)), (166, (.imul, 1)), (167, (.iadd, 1)), (168, (.putfield 326, 3)), (171, (.iconst 1, 1)), (172, (.ireturn, 1))]
theorem dm_X12_endsRound : ∀ q ∈ tb_X12_endsRound, decode zX12_endsRound.2.1 q.1 = .ok q.2 := by decide +kernel
def b_X12_endsRound_108 (n : Nat) (K108 : Int32 → Int32 → Int32 → Int32 → qM → qR) (a1 a2 a3 a4 : Int32) (M : qM) : qR :=
  (if (a3 * a1) ≤ a4 then qlm (mu M 77 35 (a2 + (a3 * a1))) (fun m1 => some ((1 : Int32), m1)) else qg ((a2 + a4) - a3) 40 (qg (a2 + a4) 40 (qlm (mu M 98 (a2 + a4).toNatClampNeg (M 98 ((a2 + a4) - a3).toNatClampNeg)) (fun m2 => qg ((a2 + a4) - a3) 40 (qg (a2 + a4) 40 (qlm (mu m2 99 (a2 + a4).toNatClampNeg (m2 99 ((a2 + a4) - a3).toNatClampNeg)) (fun m3 => ql (a4 + (1 : Int32)) (fun x4 => K108 a1 a2 a3 x4 m3))))))))
set_option maxRecDepth 4000 in
theorem wb_X12_endsRound_108 {g : qG} {k : qK} (n : Nat) (j r : Nat) (hj : q_isLaw j) (hr : q_isLaw r) (o : qOk g 1 zX12_endsRound k) (K108 : Int32 → Int32 → Int32 → Int32 → qM → qR) (hK108 : ∀ (a1 a2 a3 a4 : Int32) (M : qM), qAE g k zX12_endsRound (qL j r) 108 [some (.inr (some 77)), some (.inl a1), some (.inl a2), some (.inl a3), some (.inl a4)] [] (qL j r, M) (K108 a1 a2 a3 a4 M)) (a1 a2 a3 a4 : Int32) (M : qM) : qAE g k zX12_endsRound (qL j r) 108 [some (.inr (some 77)), some (.inl a1), some (.inl a2), some (.inl a3), some (.inl a4)] [] (qL j r, M) (b_X12_endsRound_108 n K108 a1 a2 a3 a4 M) := by
  unfold b_X12_endsRound_108
  refine qr_iload o (q_dm dm_X12_endsRound 64 rfl) rfl ?_
  refine qr_iload_n o (q_dm dm_X12_endsRound 65 rfl) rfl ?_
  refine qr_iload_n o (q_dm dm_X12_endsRound 66 rfl) rfl ?_
  refine qr_imul o (q_dm dm_X12_endsRound 67 rfl) ?_
  refine qr_icmp_ge (tgt := 162) o (q_dm dm_X12_endsRound 68 rfl) (by decide) ?_ ?_
  · refine qr_aload_n o (q_dm dm_X12_endsRound 99 rfl) rfl ?_
    refine qr_iload_n o (q_dm dm_X12_endsRound 100 rfl) rfl ?_
    refine qr_iload_n o (q_dm dm_X12_endsRound 101 rfl) rfl ?_
    refine qr_iload_n o (q_dm dm_X12_endsRound 102 rfl) rfl ?_
    refine qr_imul o (q_dm dm_X12_endsRound 103 rfl) ?_
    refine qr_iadd o (q_dm dm_X12_endsRound 104 rfl) ?_
    refine qr_putf (kf := 35) o cf_X12 (sh77 j r) rfl (Nat.le_of_ble_eq_true rfl) fl_X12_326 rfl (by decide +kernel) (q_dm dm_X12_endsRound 105 rfl) ?_
    refine qr_letm (fun m1 => ?_)
    refine qr_iconst o (q_dm dm_X12_endsRound 106 rfl) ic_1 ?_
    exact qr_iret o rfl (by decide) (q_dm dm_X12_endsRound 107 rfl)
  · refine qr_aload_n o (q_dm dm_X12_endsRound 69 rfl) rfl ?_
    refine qr_getr (kf := 31) o cf_X12 (sh77 j r) rfl (Nat.le_of_ble_eq_true rfl) fl_X12_71 (q_dm dm_X12_endsRound 70 rfl) ?_
    refine qr_iload_n o (q_dm dm_X12_endsRound 71 rfl) rfl ?_
    refine qr_iload o (q_dm dm_X12_endsRound 72 rfl) rfl ?_
    refine qr_iadd o (q_dm dm_X12_endsRound 73 rfl) ?_
    refine qr_aload_n o (q_dm dm_X12_endsRound 74 rfl) rfl ?_
    refine qr_getr (kf := 31) o cf_X12 (sh77 j r) rfl (Nat.le_of_ble_eq_true rfl) fl_X12_71 (q_dm dm_X12_endsRound 75 rfl) ?_
    refine qr_iload_n o (q_dm dm_X12_endsRound 76 rfl) rfl ?_
    refine qr_iload o (q_dm dm_X12_endsRound 77 rfl) rfl ?_
    refine qr_iadd o (q_dm dm_X12_endsRound 78 rfl) ?_
    refine qr_iload_n o (q_dm dm_X12_endsRound 79 rfl) rfl ?_
    refine qr_isub o (q_dm dm_X12_endsRound 80 rfl) ?_
    refine qr_iald o (sh98 j r) (q_dm dm_X12_endsRound 81 rfl) ?_
    refine qr_iast o (sh98 j r) (q_dm dm_X12_endsRound 82 rfl) ?_
    refine qr_letm (fun m2 => ?_)
    refine qr_aload_n o (q_dm dm_X12_endsRound 83 rfl) rfl ?_
    refine qr_getr (kf := 32) o cf_X12 (sh77 j r) rfl (Nat.le_of_ble_eq_true rfl) fl_X12_74 (q_dm dm_X12_endsRound 84 rfl) ?_
    refine qr_iload_n o (q_dm dm_X12_endsRound 85 rfl) rfl ?_
    refine qr_iload o (q_dm dm_X12_endsRound 86 rfl) rfl ?_
    refine qr_iadd o (q_dm dm_X12_endsRound 87 rfl) ?_
    refine qr_aload_n o (q_dm dm_X12_endsRound 88 rfl) rfl ?_
    refine qr_getr (kf := 32) o cf_X12 (sh77 j r) rfl (Nat.le_of_ble_eq_true rfl) fl_X12_74 (q_dm dm_X12_endsRound 89 rfl) ?_
    refine qr_iload_n o (q_dm dm_X12_endsRound 90 rfl) rfl ?_
    refine qr_iload o (q_dm dm_X12_endsRound 91 rfl) rfl ?_
    refine qr_iadd o (q_dm dm_X12_endsRound 92 rfl) ?_
    refine qr_iload_n o (q_dm dm_X12_endsRound 93 rfl) rfl ?_
    refine qr_isub o (q_dm dm_X12_endsRound 94 rfl) ?_
    refine qr_iald o (sh99 j r) (q_dm dm_X12_endsRound 95 rfl) ?_
    refine qr_iast o (sh99 j r) (q_dm dm_X12_endsRound 96 rfl) ?_
    refine qr_letm (fun m3 => ?_)
    refine qs_iincl2 (L' := fun x4 => [some (.inr (some 77)), some (.inl a1), some (.inl a2), some (.inl a3), some (.inl x4)]) o (q_dm dm_X12_endsRound 97 rfl) rfl ic_1 (Nat.le_of_ble_eq_true rfl) (fun _ => rfl) (fun x4 => ?_)
    refine qr_goto (tgt := 108) o (q_dm dm_X12_endsRound 98 rfl) (by decide) ?_
    exact qr_loc (q_leS (q_leS (q_leS (q_leS (q_leS q_le0))))) (hK108 a1 a2 a3 x4 m3)

def f_X12_endsRound_108 (n : Nat) : Nat → Int32 → Int32 → Int32 → Int32 → qM → qR
  | 0, _, _, _, _, _ => none
  | m + 1, a1, a2, a3, a4, M => b_X12_endsRound_108 n (f_X12_endsRound_108 n m) a1 a2 a3 a4 M
theorem w_X12_endsRound_108 {g : qG} {k : qK} (n : Nat) (j r : Nat) (hj : q_isLaw j) (hr : q_isLaw r) (o : qOk g 1 zX12_endsRound k) : ∀ (m : Nat) (a1 a2 a3 a4 : Int32) (M : qM), qAE g k zX12_endsRound (qL j r) 108 [some (.inr (some 77)), some (.inl a1), some (.inl a2), some (.inl a3), some (.inl a4)] [] (qL j r, M) (f_X12_endsRound_108 n m a1 a2 a3 a4 M) := by
  intro m
  induction m with
  | zero =>
    intro a1 a2 a3 a4 M
    exact qr_none
  | succ m ih =>
    intro a1 a2 a3 a4 M
    exact wb_X12_endsRound_108 n j r hj hr o (f_X12_endsRound_108 n m) ih a1 a2 a3 a4 M
def f_X12_endsRound (n : Nat) (M : qM) : qR :=
  qlm (mu M 77 9 ((M 77 9) + (1 : Int32))) (fun m1 => qc (f_X12_here n  m1) (fun r2 m3 => qc (f_X12_in n r2 (50 : Int32) (57 : Int32) m3) (fun r4 m5 => (if r4 = (0 : Int32) then qc (f_X12_wrongAt n (1 : Int32) (m5 77 9) m5) (fun r15 m16 => qb r15 (some (r15, m16))) else qc (f_X12_here n  m5) (fun r6 m7 => ql (r6 - (48 : Int32)) (fun x8 => qlm (mu m7 77 9 ((m7 77 9) + (1 : Int32))) (fun m9 => qlm (mu m9 77 36 ((m9 77 36) - (1 : Int32))) (fun m10 => qg (m10 77 36) 3 (ql (m10 101 (m10 77 36).toNatClampNeg) (fun x11 => ql ((m10 77 35) - x11) (fun x12 => (if (x11 + (x12 * x8)) ≤ (40 : Int32) then f_X12_endsRound_108 n n x8 x11 x12 x12 m10 else qg (m10 77 36) 3 (qc (f_X12_wrongAt n (6 : Int32) (m10 100 (m10 77 36).toNatClampNeg) m10) (fun r13 m14 => qb r13 (some (r13, m14))))))))))))))))
set_option maxRecDepth 4000 in
theorem w_X12_endsRound {g : qG} {k : qK} (n : Nat) (j r : Nat) (hj : q_isLaw j) (hr : q_isLaw r) (o : qOk g 1 zX12_endsRound k) (M : qM) : qAE g k zX12_endsRound (qL j r) 0 [some (.inr (some 77)), none, none, none, none] [] (qL j r, M) (f_X12_endsRound n  M) := by
  unfold f_X12_endsRound
  refine qr_aload_n o (q_dm dm_X12_endsRound 0 rfl) rfl ?_
  refine qr_aload_n o (q_dm dm_X12_endsRound 1 rfl) rfl ?_
  refine qr_getf (kf := 9) o cf_X12 (sh77 j r) rfl (Nat.le_of_ble_eq_true rfl) fl_X12_169 (q_dm dm_X12_endsRound 2 rfl) ?_
  refine qr_iconst o (q_dm dm_X12_endsRound 3 rfl) ic_1 ?_
  refine qr_iadd o (q_dm dm_X12_endsRound 4 rfl) ?_
  refine qr_putf (kf := 9) o cf_X12 (sh77 j r) rfl (Nat.le_of_ble_eq_true rfl) fl_X12_169 rfl (by decide +kernel) (q_dm dm_X12_endsRound 5 rfl) ?_
  refine qr_letm (fun m1 => ?_)
  refine qr_aload_n o (q_dm dm_X12_endsRound 6 rfl) rfl ?_
  refine qr_callv_i (As := []) (S := []) o (a_X12_here g k.2.1 n j r hj hr  m1) (Nat.le_of_ble_eq_true rfl) zv_X12_here rfl cf_X12 (sh77 j r) ml_X12_175 (Nat.le_of_ble_eq_true rfl) (q_dm dm_X12_endsRound 7 rfl) (fun r2 m3 => ?_)
  refine qr_bipush o (q_dm dm_X12_endsRound 8 rfl) bi_50 ?_
  refine qr_bipush o (q_dm dm_X12_endsRound 9 rfl) bi_57 ?_
  refine qr_calls_i (As := [.inl r2, .inl (50 : Int32), .inl (57 : Int32)]) (S := []) o (a_X12_in g k.2.1 n j r hj hr r2 (50 : Int32) (57 : Int32) m3) (Nat.le_of_ble_eq_true rfl) zs_X12_in rfl ml_X12_153 (Nat.le_of_ble_eq_true rfl) (q_dm dm_X12_endsRound 10 rfl) (fun r4 m5 => ?_)
  refine qr_if_ne (tgt := 34) o (q_dm dm_X12_endsRound 11 rfl) (by decide) ?_ ?_
  · refine qr_aload_n o (q_dm dm_X12_endsRound 18 rfl) rfl ?_
    refine qr_callv_i (As := []) (S := []) o (a_X12_here g k.2.1 n j r hj hr  m5) (Nat.le_of_ble_eq_true rfl) zv_X12_here rfl cf_X12 (sh77 j r) ml_X12_175 (Nat.le_of_ble_eq_true rfl) (q_dm dm_X12_endsRound 19 rfl) (fun r6 m7 => ?_)
    refine qr_bipush o (q_dm dm_X12_endsRound 20 rfl) bi_48 ?_
    refine qr_isub o (q_dm dm_X12_endsRound 21 rfl) ?_
    refine qr_lt (fun x8 => ?_)
    refine qs_istore_n (L' := [some (.inr (some 77)), some (.inl x8), none, none, none]) o (q_dm dm_X12_endsRound 22 rfl) (Nat.le_of_ble_eq_true rfl) rfl ?_
    refine qr_aload_n o (q_dm dm_X12_endsRound 23 rfl) rfl ?_
    refine qr_aload_n o (q_dm dm_X12_endsRound 24 rfl) rfl ?_
    refine qr_getf (kf := 9) o cf_X12 (sh77 j r) rfl (Nat.le_of_ble_eq_true rfl) fl_X12_169 (q_dm dm_X12_endsRound 25 rfl) ?_
    refine qr_iconst o (q_dm dm_X12_endsRound 26 rfl) ic_1 ?_
    refine qr_iadd o (q_dm dm_X12_endsRound 27 rfl) ?_
    refine qr_putf (kf := 9) o cf_X12 (sh77 j r) rfl (Nat.le_of_ble_eq_true rfl) fl_X12_169 rfl (by decide +kernel) (q_dm dm_X12_endsRound 28 rfl) ?_
    refine qr_letm (fun m9 => ?_)
    refine qr_aload_n o (q_dm dm_X12_endsRound 29 rfl) rfl ?_
    refine qr_aload_n o (q_dm dm_X12_endsRound 30 rfl) rfl ?_
    refine qr_getf (kf := 36) o cf_X12 (sh77 j r) rfl (Nat.le_of_ble_eq_true rfl) fl_X12_323 (q_dm dm_X12_endsRound 31 rfl) ?_
    refine qr_iconst o (q_dm dm_X12_endsRound 32 rfl) ic_1 ?_
    refine qr_isub o (q_dm dm_X12_endsRound 33 rfl) ?_
    refine qr_putf (kf := 36) o cf_X12 (sh77 j r) rfl (Nat.le_of_ble_eq_true rfl) fl_X12_323 rfl (by decide +kernel) (q_dm dm_X12_endsRound 34 rfl) ?_
    refine qr_letm (fun m10 => ?_)
    refine qr_aload_n o (q_dm dm_X12_endsRound 35 rfl) rfl ?_
    refine qr_getr (kf := 34) o cf_X12 (sh77 j r) rfl (Nat.le_of_ble_eq_true rfl) fl_X12_80 (q_dm dm_X12_endsRound 36 rfl) ?_
    refine qr_aload_n o (q_dm dm_X12_endsRound 37 rfl) rfl ?_
    refine qr_getf (kf := 36) o cf_X12 (sh77 j r) rfl (Nat.le_of_ble_eq_true rfl) fl_X12_323 (q_dm dm_X12_endsRound 38 rfl) ?_
    refine qr_iald o (sh101 j r) (q_dm dm_X12_endsRound 39 rfl) ?_
    refine qr_lt (fun x11 => ?_)
    refine qs_istore_n (L' := [some (.inr (some 77)), some (.inl x8), some (.inl x11), none, none]) o (q_dm dm_X12_endsRound 40 rfl) (Nat.le_of_ble_eq_true rfl) rfl ?_
    refine qr_aload_n o (q_dm dm_X12_endsRound 41 rfl) rfl ?_
    refine qr_getf (kf := 35) o cf_X12 (sh77 j r) rfl (Nat.le_of_ble_eq_true rfl) fl_X12_326 (q_dm dm_X12_endsRound 42 rfl) ?_
    refine qr_iload_n o (q_dm dm_X12_endsRound 43 rfl) rfl ?_
    refine qr_isub o (q_dm dm_X12_endsRound 44 rfl) ?_
    refine qr_lt (fun x12 => ?_)
    refine qs_istore_n (L' := [some (.inr (some 77)), some (.inl x8), some (.inl x11), some (.inl x12), none]) o (q_dm dm_X12_endsRound 45 rfl) (Nat.le_of_ble_eq_true rfl) rfl ?_
    refine qr_iload_n o (q_dm dm_X12_endsRound 46 rfl) rfl ?_
    refine qr_iload_n o (q_dm dm_X12_endsRound 47 rfl) rfl ?_
    refine qr_iload_n o (q_dm dm_X12_endsRound 48 rfl) rfl ?_
    refine qr_imul o (q_dm dm_X12_endsRound 49 rfl) ?_
    refine qr_iadd o (q_dm dm_X12_endsRound 50 rfl) ?_
    refine qr_bipush o (q_dm dm_X12_endsRound 51 rfl) bi_40 ?_
    refine qr_icmp_le (tgt := 105) o (q_dm dm_X12_endsRound 52 rfl) (by decide) ?_ ?_
    · refine qr_iload_n o (q_dm dm_X12_endsRound 62 rfl) rfl ?_
      refine qs_istore (L' := [some (.inr (some 77)), some (.inl x8), some (.inl x11), some (.inl x12), some (.inl x12)]) o (q_dm dm_X12_endsRound 63 rfl) (Nat.le_of_ble_eq_true rfl) rfl ?_
      exact qr_loc (q_leS (q_leS (q_leS (q_leS (q_leS q_le0))))) (w_X12_endsRound_108 n j r hj hr o n x8 x11 x12 x12 m10)
    · refine qr_aload_n o (q_dm dm_X12_endsRound 53 rfl) rfl ?_
      refine qr_bipush o (q_dm dm_X12_endsRound 54 rfl) bi_6 ?_
      refine qr_aload_n o (q_dm dm_X12_endsRound 55 rfl) rfl ?_
      refine qr_getr (kf := 33) o cf_X12 (sh77 j r) rfl (Nat.le_of_ble_eq_true rfl) fl_X12_77 (q_dm dm_X12_endsRound 56 rfl) ?_
      refine qr_aload_n o (q_dm dm_X12_endsRound 57 rfl) rfl ?_
      refine qr_getf (kf := 36) o cf_X12 (sh77 j r) rfl (Nat.le_of_ble_eq_true rfl) fl_X12_323 (q_dm dm_X12_endsRound 58 rfl) ?_
      refine qr_iald o (sh100 j r) (q_dm dm_X12_endsRound 59 rfl) ?_
      refine qr_callv_i (As := [.inl (6 : Int32), .inl (m10 100 (m10 77 36).toNatClampNeg)]) (S := []) o (a_X12_wrongAt g k.2.1 n j r hj hr (6 : Int32) (m10 100 (m10 77 36).toNatClampNeg) m10) (Nat.le_of_ble_eq_true rfl) zv_X12_wrongAt rfl cf_X12 (sh77 j r) ml_X12_182 (Nat.le_of_ble_eq_true rfl) (q_dm dm_X12_endsRound 60 rfl) (fun r13 m14 => ?_)
      exact qr_zret o rfl (q_dm dm_X12_endsRound 61 rfl)
  · refine qr_aload_n o (q_dm dm_X12_endsRound 12 rfl) rfl ?_
    refine qr_iconst o (q_dm dm_X12_endsRound 13 rfl) ic_1 ?_
    refine qr_aload_n o (q_dm dm_X12_endsRound 14 rfl) rfl ?_
    refine qr_getf (kf := 9) o cf_X12 (sh77 j r) rfl (Nat.le_of_ble_eq_true rfl) fl_X12_169 (q_dm dm_X12_endsRound 15 rfl) ?_
    refine qr_callv_i (As := [.inl (1 : Int32), .inl (m5 77 9)]) (S := []) o (a_X12_wrongAt g k.2.1 n j r hj hr (1 : Int32) (m5 77 9) m5) (Nat.le_of_ble_eq_true rfl) zv_X12_wrongAt rfl cf_X12 (sh77 j r) ml_X12_182 (Nat.le_of_ble_eq_true rfl) (q_dm dm_X12_endsRound 16 rfl) (fun r15 m16 => ?_)
    exact qr_zret o rfl (q_dm dm_X12_endsRound 17 rfl)

theorem a_X12_endsRound (g : qG) (l : Launch) (n : Nat) (j r : Nat) (hj : q_isLaw j) (hr : q_isLaw r) (M : qM) : qAM g l 1 zX12_endsRound (qL j r) [.inr (some 77)] (qL j r, M) (f_X12_endsRound n  M) :=
  qAM.of zv_X12_endsRound.1 (by show 1 ≤ 5; decide) (fun k hk o => w_X12_endsRound n j r hj hr o  M)
def tb_X12_factOf : List (Nat × Instr × Nat) := [(0, (.iload_n 0, 1)), (1, (.tableswitch 133 100 121 #[115, 133, 133, 133, 105, 133, 109, 103, 133, 113, 124, 127, 118, 121, 133, 133, 133, 133, 133, 130, 107, 111], 103)), (104, (.iconst 0, 1)), (105, (.ireturn, 1)), (106, (.iconst 1, 1)), (107, (.ireturn, 1)), (108, (.iconst 2, 1)), (109, (.ireturn, 1)), (110, (.iconst 3, 1)), (111, (.ireturn, 1)), (112, (.iconst 4, 1)), (113, (.ireturn, 1)), (114, (.iconst 5, 1)), (115, (.ireturn, 1)), (116, (.bipush 6, 2)), (118, (.ireturn, 1)), (119, (.bipush 7, 2)), (121, (.ireturn, 1)), (122, (.bipush 8, 2)), (124, (.ireturn, 1)), (125, (.bipush 9, 2)), (127, (.ireturn, 1)), (128, (.bipush 10, 2)), (130, (.ireturn, 1)), (131, (.bipush 11, 2)), (133, (.ireturn, 1)), (134, (.iconst (-1), 1)), (135, (.ireturn, 1))]
theorem dm_X12_factOf : ∀ q ∈ tb_X12_factOf, decode zX12_factOf.2.1 q.1 = .ok q.2 := by decide +kernel
def f_X12_factOf (n : Nat) (a0 : Int32) (M : qM) : qR :=
  qsw a0 [((100 : Int32), some ((6 : Int32), M)), ((101 : Int32), some ((-1 : Int32), M)), ((102 : Int32), some ((-1 : Int32), M)), ((103 : Int32), some ((-1 : Int32), M)), ((104 : Int32), some ((1 : Int32), M)), ((105 : Int32), some ((-1 : Int32), M)), ((106 : Int32), some ((3 : Int32), M)), ((107 : Int32), some ((0 : Int32), M)), ((108 : Int32), some ((-1 : Int32), M)), ((109 : Int32), some ((5 : Int32), M)), ((110 : Int32), some ((9 : Int32), M)), ((111 : Int32), some ((10 : Int32), M)), ((112 : Int32), some ((7 : Int32), M)), ((113 : Int32), some ((8 : Int32), M)), ((114 : Int32), some ((-1 : Int32), M)), ((115 : Int32), some ((-1 : Int32), M)), ((116 : Int32), some ((-1 : Int32), M)), ((117 : Int32), some ((-1 : Int32), M)), ((118 : Int32), some ((-1 : Int32), M)), ((119 : Int32), some ((11 : Int32), M)), ((120 : Int32), some ((2 : Int32), M)), ((121 : Int32), some ((4 : Int32), M))] (some ((-1 : Int32), M))
set_option maxRecDepth 4000 in
theorem w_X12_factOf {g : qG} {k : qK} (n : Nat) (j r : Nat) (hj : q_isLaw j) (hr : q_isLaw r) (o : qOk g 0 zX12_factOf k) (a0 : Int32) (M : qM) : qAE g k zX12_factOf (qL j r) 0 [some (.inl a0)] [] (qL j r, M) (f_X12_factOf n a0 M) := by
  unfold f_X12_factOf
  refine qr_iload_n o (q_dm dm_X12_factOf 0 rfl) rfl ?_
  refine qr_tablep (tgt := 134) o (q_dm dm_X12_factOf 1 rfl) (by show (_ : Int) + (22 : Nat) = _; decide) (by decide) ?_ (q_tbc (115) 116 (by decide) rfl (by decide) ?_ (q_tbc (133) 134 (by decide) rfl (by decide) ?_ (q_tbc (133) 134 (by decide) rfl (by decide) ?_ (q_tbc (133) 134 (by decide) rfl (by decide) ?_ (q_tbc (105) 106 (by decide) rfl (by decide) ?_ (q_tbc (133) 134 (by decide) rfl (by decide) ?_ (q_tbc (109) 110 (by decide) rfl (by decide) ?_ (q_tbc (103) 104 (by decide) rfl (by decide) ?_ (q_tbc (133) 134 (by decide) rfl (by decide) ?_ (q_tbc (113) 114 (by decide) rfl (by decide) ?_ (q_tbc (124) 125 (by decide) rfl (by decide) ?_ (q_tbc (127) 128 (by decide) rfl (by decide) ?_ (q_tbc (118) 119 (by decide) rfl (by decide) ?_ (q_tbc (121) 122 (by decide) rfl (by decide) ?_ (q_tbc (133) 134 (by decide) rfl (by decide) ?_ (q_tbc (133) 134 (by decide) rfl (by decide) ?_ (q_tbc (133) 134 (by decide) rfl (by decide) ?_ (q_tbc (133) 134 (by decide) rfl (by decide) ?_ (q_tbc (133) 134 (by decide) rfl (by decide) ?_ (q_tbc (130) 131 (by decide) rfl (by decide) ?_ (q_tbc (107) 108 (by decide) rfl (by decide) ?_ (q_tbc (111) 112 (by decide) rfl (by decide) ?_ q_tbn))))))))))))))))))))))
  · refine qr_iconst o (q_dm dm_X12_factOf 26 rfl) ic_m1 ?_
    exact qr_iret o rfl rfl (q_dm dm_X12_factOf 27 rfl)
  · refine qr_bipush o (q_dm dm_X12_factOf 14 rfl) bi_6 ?_
    exact qr_iret o rfl rfl (q_dm dm_X12_factOf 15 rfl)
  · refine qr_iconst o (q_dm dm_X12_factOf 26 rfl) ic_m1 ?_
    exact qr_iret o rfl rfl (q_dm dm_X12_factOf 27 rfl)
  · refine qr_iconst o (q_dm dm_X12_factOf 26 rfl) ic_m1 ?_
    exact qr_iret o rfl rfl (q_dm dm_X12_factOf 27 rfl)
  · refine qr_iconst o (q_dm dm_X12_factOf 26 rfl) ic_m1 ?_
    exact qr_iret o rfl rfl (q_dm dm_X12_factOf 27 rfl)
  · refine qr_iconst o (q_dm dm_X12_factOf 4 rfl) ic_1 ?_
    exact qr_iret o rfl rfl (q_dm dm_X12_factOf 5 rfl)
  · refine qr_iconst o (q_dm dm_X12_factOf 26 rfl) ic_m1 ?_
    exact qr_iret o rfl rfl (q_dm dm_X12_factOf 27 rfl)
  · refine qr_iconst o (q_dm dm_X12_factOf 8 rfl) ic_3 ?_
    exact qr_iret o rfl rfl (q_dm dm_X12_factOf 9 rfl)
  · refine qr_iconst o (q_dm dm_X12_factOf 2 rfl) ic_0 ?_
    exact qr_iret o rfl rfl (q_dm dm_X12_factOf 3 rfl)
  · refine qr_iconst o (q_dm dm_X12_factOf 26 rfl) ic_m1 ?_
    exact qr_iret o rfl rfl (q_dm dm_X12_factOf 27 rfl)
  · refine qr_iconst o (q_dm dm_X12_factOf 12 rfl) ic_5 ?_
    exact qr_iret o rfl rfl (q_dm dm_X12_factOf 13 rfl)
  · refine qr_bipush o (q_dm dm_X12_factOf 20 rfl) bi_9 ?_
    exact qr_iret o rfl rfl (q_dm dm_X12_factOf 21 rfl)
  · refine qr_bipush o (q_dm dm_X12_factOf 22 rfl) bi_10 ?_
    exact qr_iret o rfl rfl (q_dm dm_X12_factOf 23 rfl)
  · refine qr_bipush o (q_dm dm_X12_factOf 16 rfl) bi_7 ?_
    exact qr_iret o rfl rfl (q_dm dm_X12_factOf 17 rfl)
  · refine qr_bipush o (q_dm dm_X12_factOf 18 rfl) bi_8 ?_
    exact qr_iret o rfl rfl (q_dm dm_X12_factOf 19 rfl)
  · refine qr_iconst o (q_dm dm_X12_factOf 26 rfl) ic_m1 ?_
    exact qr_iret o rfl rfl (q_dm dm_X12_factOf 27 rfl)
  · refine qr_iconst o (q_dm dm_X12_factOf 26 rfl) ic_m1 ?_
    exact qr_iret o rfl rfl (q_dm dm_X12_factOf 27 rfl)
  · refine qr_iconst o (q_dm dm_X12_factOf 26 rfl) ic_m1 ?_
    exact qr_iret o rfl rfl (q_dm dm_X12_factOf 27 rfl)
  · refine qr_iconst o (q_dm dm_X12_factOf 26 rfl) ic_m1 ?_
    exact qr_iret o rfl rfl (q_dm dm_X12_factOf 27 rfl)
  · refine qr_iconst o (q_dm dm_X12_factOf 26 rfl) ic_m1 ?_
    exact qr_iret o rfl rfl (q_dm dm_X12_factOf 27 rfl)
  · refine qr_bipush o (q_dm dm_X12_factOf 24 rfl) bi_11 ?_
    exact qr_iret o rfl rfl (q_dm dm_X12_factOf 25 rfl)
  · refine qr_iconst o (q_dm dm_X12_factOf 6 rfl) ic_2 ?_
    exact qr_iret o rfl rfl (q_dm dm_X12_factOf 7 rfl)
  · refine qr_iconst o (q_dm dm_X12_factOf 10 rfl) ic_4 ?_
    exact qr_iret o rfl rfl (q_dm dm_X12_factOf 11 rfl)

theorem a_X12_factOf (g : qG) (l : Launch) (n : Nat) (j r : Nat) (hj : q_isLaw j) (hr : q_isLaw r) (a0 : Int32) (M : qM) : qAM g l 0 zX12_factOf (qL j r) [.inl a0] (qL j r, M) (f_X12_factOf n a0 M) :=
  qAM.of zs_X12_factOf.1 (by show 1 ≤ 1; decide) (fun k hk o => w_X12_factOf n j r hj hr o a0 M)
def tb_X12_types : List (Nat × Instr × Nat) := [(0, (.iconst 3, 1)), (1, (.istore_n 2, 1)), (2, (.iload_n 2, 1)), (3, (.ifCond .lt 35, 3)), (6, (.aload_n 0, 1)), (7, (.getfield 28, 3)), (10, (.aload_n 0, 1)), (11, (.getfield 162, 3)), (14, (.iload_n 1, 1)), (15, (.bipush 8, 2)), (17, (.iload_n 2, 1)), (18, (.imul, 1)), (19, (.ishr, 1)), (20, (.i2b, 1)), (21, (.bastore, 1)), (22, (.aload_n 0, 1)), (23, (.aload_n 0, 1)), (24, (.getfield 162, 3)), (27, (.iconst 1, 1)), (28, (.iadd, 1)), (29, (.putfield 162, 3)), (32, (.iinc 2 (-1), 3)), (35, (.goto (-33), 3)), (38, (.return_, 1))]
theorem dm_X12_types : ∀ q ∈ tb_X12_types, decode zX12_types.2.1 q.1 = .ok q.2 := by decide +kernel
def b_X12_types_2 (n : Nat) (K2 : Int32 → Int32 → qM → qR) (a1 a2 : Int32) (M : qM) : qR :=
  (if a2 < (0 : Int32) then some (0, M) else qg (M 77 8) 260 (qlm (mu M 84 (M 77 8).toNatClampNeg (vp_nar .byte ((a1 >>> (((8 : Int32) * a2) &&& 31)).toInt8.toInt32))) (fun m1 => qlm (mu m1 77 8 ((m1 77 8) + (1 : Int32))) (fun m2 => ql (a2 + (-1 : Int32)) (fun x3 => K2 a1 x3 m2)))))
set_option maxRecDepth 4000 in
theorem wb_X12_types_2 {g : qG} {k : qK} (n : Nat) (j r : Nat) (hj : q_isLaw j) (hr : q_isLaw r) (o : qOk g 0 zX12_types k) (K2 : Int32 → Int32 → qM → qR) (hK2 : ∀ (a1 a2 : Int32) (M : qM), qAE g k zX12_types (qL j r) 2 [some (.inr (some 77)), some (.inl a1), some (.inl a2)] [] (qL j r, M) (K2 a1 a2 M)) (a1 a2 : Int32) (M : qM) : qAE g k zX12_types (qL j r) 2 [some (.inr (some 77)), some (.inl a1), some (.inl a2)] [] (qL j r, M) (b_X12_types_2 n K2 a1 a2 M) := by
  unfold b_X12_types_2
  refine qr_iload_n o (q_dm dm_X12_types 2 rfl) rfl ?_
  refine qr_if_lt (tgt := 38) o (q_dm dm_X12_types 3 rfl) (by decide) ?_ ?_
  · exact qr_vret o rfl (q_dm dm_X12_types 23 rfl)
  · refine qr_aload_n o (q_dm dm_X12_types 4 rfl) rfl ?_
    refine qr_getr (kf := 7) o cf_X12 (sh77 j r) rfl (Nat.le_of_ble_eq_true rfl) fl_X12_28 (q_dm dm_X12_types 5 rfl) ?_
    refine qr_aload_n o (q_dm dm_X12_types 6 rfl) rfl ?_
    refine qr_getf (kf := 8) o cf_X12 (sh77 j r) rfl (Nat.le_of_ble_eq_true rfl) fl_X12_162 (q_dm dm_X12_types 7 rfl) ?_
    refine qr_iload_n o (q_dm dm_X12_types 8 rfl) rfl ?_
    refine qr_bipush o (q_dm dm_X12_types 9 rfl) bi_8 ?_
    refine qr_iload_n o (q_dm dm_X12_types 10 rfl) rfl ?_
    refine qr_imul o (q_dm dm_X12_types 11 rfl) ?_
    refine qr_ishr o (q_dm dm_X12_types 12 rfl) ?_
    refine qr_i2b o (q_dm dm_X12_types 13 rfl) ?_
    refine qr_bast o (sh84 j r) (q_dm dm_X12_types 14 rfl) ?_
    refine qr_letm (fun m1 => ?_)
    refine qr_aload_n o (q_dm dm_X12_types 15 rfl) rfl ?_
    refine qr_aload_n o (q_dm dm_X12_types 16 rfl) rfl ?_
    refine qr_getf (kf := 8) o cf_X12 (sh77 j r) rfl (Nat.le_of_ble_eq_true rfl) fl_X12_162 (q_dm dm_X12_types 17 rfl) ?_
    refine qr_iconst o (q_dm dm_X12_types 18 rfl) ic_1 ?_
    refine qr_iadd o (q_dm dm_X12_types 19 rfl) ?_
    refine qr_putf (kf := 8) o cf_X12 (sh77 j r) rfl (Nat.le_of_ble_eq_true rfl) fl_X12_162 rfl (by decide +kernel) (q_dm dm_X12_types 20 rfl) ?_
    refine qr_letm (fun m2 => ?_)
    refine qs_iincl2 (L' := fun x3 => [some (.inr (some 77)), some (.inl a1), some (.inl x3)]) o (q_dm dm_X12_types 21 rfl) rfl ic_m1 (Nat.le_of_ble_eq_true rfl) (fun _ => rfl) (fun x3 => ?_)
    refine qr_goto (tgt := 2) o (q_dm dm_X12_types 22 rfl) (by decide) ?_
    exact qr_loc (q_leS (q_leS (q_leS q_le0))) (hK2 a1 x3 m2)

def f_X12_types_2 (n : Nat) : Nat → Int32 → Int32 → qM → qR
  | 0, _, _, _ => none
  | m + 1, a1, a2, M => b_X12_types_2 n (f_X12_types_2 n m) a1 a2 M
theorem w_X12_types_2 {g : qG} {k : qK} (n : Nat) (j r : Nat) (hj : q_isLaw j) (hr : q_isLaw r) (o : qOk g 0 zX12_types k) : ∀ (m : Nat) (a1 a2 : Int32) (M : qM), qAE g k zX12_types (qL j r) 2 [some (.inr (some 77)), some (.inl a1), some (.inl a2)] [] (qL j r, M) (f_X12_types_2 n m a1 a2 M) := by
  intro m
  induction m with
  | zero =>
    intro a1 a2 M
    exact qr_none
  | succ m ih =>
    intro a1 a2 M
    exact wb_X12_types_2 n j r hj hr o (f_X12_types_2 n m) ih a1 a2 M
def f_X12_types (n : Nat) (a1 : Int32) (M : qM) : qR :=
  f_X12_types_2 n n a1 (3 : Int32) M
set_option maxRecDepth 4000 in
theorem w_X12_types {g : qG} {k : qK} (n : Nat) (j r : Nat) (hj : q_isLaw j) (hr : q_isLaw r) (o : qOk g 0 zX12_types k) (a1 : Int32) (M : qM) : qAE g k zX12_types (qL j r) 0 [some (.inr (some 77)), some (.inl a1), none] [] (qL j r, M) (f_X12_types n a1 M) := by
  unfold f_X12_types
  refine qr_iconst o (q_dm dm_X12_types 0 rfl) ic_3 ?_
  refine qs_istore_n (L' := [some (.inr (some 77)), some (.inl a1), some (.inl (3 : Int32))]) o (q_dm dm_X12_types 1 rfl) (Nat.le_of_ble_eq_true rfl) rfl ?_
  exact qr_loc (q_leS (q_leS (q_leS q_le0))) (w_X12_types_2 n j r hj hr o n a1 (3 : Int32) M)

theorem a_X12_types (g : qG) (l : Launch) (n : Nat) (j r : Nat) (hj : q_isLaw j) (hr : q_isLaw r) (a1 : Int32) (M : qM) : qAM g l 0 zX12_types (qL j r) [.inr (some 77), .inl a1] (qL j r, M) (f_X12_types n a1 M) :=
  qAM.of zv_X12_types.1 (by show 2 ≤ 3; decide) (fun k hk o => w_X12_types n j r hj hr o a1 M)
def tb_X12_feed : List (Nat × Instr × Nat) := [(0, (.aload_n 0, 1)), (1, (.getfield 162, 3)), (4, (.bipush 20, 2)), (6, (.iadd, 1)), (7, (.sipush 260, 3)), (10, (.if_icmp .le 5, 3)), (13, (.iconst (-1), 1)), (14, (.ireturn, 1)), (15, (.aload_n 0, 1)), (16, (.iload_n 1, 1)), (17, (.invokevirtual 165, 3)), (20, (.aload_n 0, 1)), (21, (.iload_n 2, 1)), (22, (.invokevirtual 165, 3)), (25, (.aload_n 0, 1)), (26, (.iload_n 3, 1)), (27, (.invokevirtual 165, 3)), (30, (.aload_n 0, 1)), (31, (.iload 4, 2)), (33, (.invokevirtual 165, 3)), (36, (.aload_n 0, 1)), (37, (.iload 5, 2)), (39, (.invokevirtual 165, 3)), (42, (.aload_n 0, 1)), (43, (.getfield 162, 3)), (46, (.ireturn, 1))]
theorem dm_X12_feed : ∀ q ∈ tb_X12_feed, decode zX12_feed.2.1 q.1 = .ok q.2 := by decide +kernel
def f_X12_feed (n : Nat) (a1 a2 a3 a4 a5 : Int32) (M : qM) : qR :=
  (if ((M 77 8) + (20 : Int32)) ≤ (260 : Int32) then qc (f_X12_types n a1 M) (fun _ m1 => qc (f_X12_types n a2 m1) (fun _ m2 => qc (f_X12_types n a3 m2) (fun _ m3 => qc (f_X12_types n a4 m3) (fun _ m4 => qc (f_X12_types n a5 m4) (fun _ m5 => some ((m5 77 8), m5)))))) else some ((-1 : Int32), M))
set_option maxRecDepth 4000 in
theorem w_X12_feed {g : qG} {k : qK} (n : Nat) (j r : Nat) (hj : q_isLaw j) (hr : q_isLaw r) (o : qOk g 1 zX12_feed k) (a1 a2 a3 a4 a5 : Int32) (M : qM) : qAE g k zX12_feed (qL j r) 0 [some (.inr (some 77)), some (.inl a1), some (.inl a2), some (.inl a3), some (.inl a4), some (.inl a5)] [] (qL j r, M) (f_X12_feed n a1 a2 a3 a4 a5 M) := by
  unfold f_X12_feed
  refine qr_aload_n o (q_dm dm_X12_feed 0 rfl) rfl ?_
  refine qr_getf (kf := 8) o cf_X12 (sh77 j r) rfl (Nat.le_of_ble_eq_true rfl) fl_X12_162 (q_dm dm_X12_feed 1 rfl) ?_
  refine qr_bipush o (q_dm dm_X12_feed 2 rfl) bi_20 ?_
  refine qr_iadd o (q_dm dm_X12_feed 3 rfl) ?_
  refine qr_sipush o (q_dm dm_X12_feed 4 rfl) si_260 ?_
  refine qr_icmp_le (tgt := 15) o (q_dm dm_X12_feed 5 rfl) (by decide) ?_ ?_
  · refine qr_aload_n o (q_dm dm_X12_feed 8 rfl) rfl ?_
    refine qr_iload_n o (q_dm dm_X12_feed 9 rfl) rfl ?_
    refine qr_callv_v (As := [.inl a1]) (S := []) o (a_X12_types g k.2.1 n j r hj hr a1 M) (Nat.le_of_ble_eq_true rfl) zv_X12_types rfl cf_X12 (sh77 j r) ml_X12_165 (Nat.le_of_ble_eq_true rfl) (q_dm dm_X12_feed 10 rfl) (fun _ m1 => ?_)
    refine qr_aload_n o (q_dm dm_X12_feed 11 rfl) rfl ?_
    refine qr_iload_n o (q_dm dm_X12_feed 12 rfl) rfl ?_
    refine qr_callv_v (As := [.inl a2]) (S := []) o (a_X12_types g k.2.1 n j r hj hr a2 m1) (Nat.le_of_ble_eq_true rfl) zv_X12_types rfl cf_X12 (sh77 j r) ml_X12_165 (Nat.le_of_ble_eq_true rfl) (q_dm dm_X12_feed 13 rfl) (fun _ m2 => ?_)
    refine qr_aload_n o (q_dm dm_X12_feed 14 rfl) rfl ?_
    refine qr_iload_n o (q_dm dm_X12_feed 15 rfl) rfl ?_
    refine qr_callv_v (As := [.inl a3]) (S := []) o (a_X12_types g k.2.1 n j r hj hr a3 m2) (Nat.le_of_ble_eq_true rfl) zv_X12_types rfl cf_X12 (sh77 j r) ml_X12_165 (Nat.le_of_ble_eq_true rfl) (q_dm dm_X12_feed 16 rfl) (fun _ m3 => ?_)
    refine qr_aload_n o (q_dm dm_X12_feed 17 rfl) rfl ?_
    refine qr_iload o (q_dm dm_X12_feed 18 rfl) rfl ?_
    refine qr_callv_v (As := [.inl a4]) (S := []) o (a_X12_types g k.2.1 n j r hj hr a4 m3) (Nat.le_of_ble_eq_true rfl) zv_X12_types rfl cf_X12 (sh77 j r) ml_X12_165 (Nat.le_of_ble_eq_true rfl) (q_dm dm_X12_feed 19 rfl) (fun _ m4 => ?_)
    refine qr_aload_n o (q_dm dm_X12_feed 20 rfl) rfl ?_
    refine qr_iload o (q_dm dm_X12_feed 21 rfl) rfl ?_
    refine qr_callv_v (As := [.inl a5]) (S := []) o (a_X12_types g k.2.1 n j r hj hr a5 m4) (Nat.le_of_ble_eq_true rfl) zv_X12_types rfl cf_X12 (sh77 j r) ml_X12_165 (Nat.le_of_ble_eq_true rfl) (q_dm dm_X12_feed 22 rfl) (fun _ m5 => ?_)
    refine qr_aload_n o (q_dm dm_X12_feed 23 rfl) rfl ?_
    refine qr_getf (kf := 8) o cf_X12 (sh77 j r) rfl (Nat.le_of_ble_eq_true rfl) fl_X12_162 (q_dm dm_X12_feed 24 rfl) ?_
    exact qr_iret o rfl rfl (q_dm dm_X12_feed 25 rfl)
  · refine qr_iconst o (q_dm dm_X12_feed 6 rfl) ic_m1 ?_
    exact qr_iret o rfl rfl (q_dm dm_X12_feed 7 rfl)

theorem a_X12_feed (g : qG) (l : Launch) (n : Nat) (j r : Nat) (hj : q_isLaw j) (hr : q_isLaw r) (a1 a2 a3 a4 a5 : Int32) (M : qM) : qAM g l 1 zX12_feed (qL j r) [.inr (some 77), .inl a1, .inl a2, .inl a3, .inl a4, .inl a5] (qL j r, M) (f_X12_feed n a1 a2 a3 a4 a5 M) :=
  qAM.of zv_X12_feed.1 (by show 6 ≤ 6; decide) (fun k hk o => w_X12_feed n j r hj hr o a1 a2 a3 a4 a5 M)
def tb_X12_finds : List (Nat × Instr × Nat) := [(0, (.iconst 0, 1)), (1, (.istore_n 3, 1)), (2, (.iload_n 3, 1)), (3, (.bipush 12, 2)), (5, (.if_icmp .ge 49, 3)), (8, (.iload_n 1, 1)), (9, (.iload_n 3, 1)), (10, (.invokestatic 149, 3)), (13, (.ifCond .eq 15, 3)), (16, (.aload_n 0, 1)), (17, (.bipush 12, 2)), (19, (.iload_n 3, 1)), (20, (.invokevirtual 279, 3)), (23, (.ifCond .ne 5, 3)), (26, (.iconst 0, 1)), (27, (.ireturn, 1)), (28, (.iload_n 2, 1)), (29, (.iload_n 3, 1)), (30, (.invokestatic 149, 3)), (33, (.ifCond .eq 15, 3)), (36, (.aload_n 0, 1)), (37, (.bipush 12, 2)), (39, (.iload_n 3, 1)), (40, (.invokevirtual 279, 3)), (43, (.ifCond .eq 5, 3)), (46, (.iconst 0, 1)), (47, (.ireturn, 1)), (48, (.iinc 3 1, 3)), (51, (.goto (-49), 3)), (54, (.iconst 1, 1)), (55, (.ireturn, 1))]
theorem dm_X12_finds : ∀ q ∈ tb_X12_finds, decode zX12_finds.2.1 q.1 = .ok q.2 := by decide +kernel
def f_X12_finds_28 (n : Nat) (K2 : Int32 → Int32 → Int32 → qM → qR) (a1 a2 a3 : Int32) (M : qM) : qR :=
  qc (f_X12_has0 n a2 a3 M) (fun r1 m2 => (if r1 = (0 : Int32) then ql (a3 + (1 : Int32)) (fun x3 => K2 a1 a2 x3 m2) else qc (f_X12_isLike n (12 : Int32) a3 m2) (fun r4 m5 => (if r4 = (0 : Int32) then ql (a3 + (1 : Int32)) (fun x6 => K2 a1 a2 x6 m5) else some ((0 : Int32), m5)))))
set_option maxRecDepth 4000 in
theorem w_X12_finds_28 {g : qG} {k : qK} (n : Nat) (j r : Nat) (hj : q_isLaw j) (hr : q_isLaw r) (o : qOk g 3 zX12_finds k) (K2 : Int32 → Int32 → Int32 → qM → qR) (hK2 : ∀ (a1 a2 a3 : Int32) (M : qM), qAE g k zX12_finds (qL j r) 2 [some (.inr (some 77)), some (.inl a1), some (.inl a2), some (.inl a3)] [] (qL j r, M) (K2 a1 a2 a3 M)) (a1 a2 a3 : Int32) (M : qM) : qAE g k zX12_finds (qL j r) 28 [some (.inr (some 77)), some (.inl a1), some (.inl a2), some (.inl a3)] [] (qL j r, M) (f_X12_finds_28 n K2 a1 a2 a3 M) := by
  unfold f_X12_finds_28
  refine qr_iload_n o (q_dm dm_X12_finds 16 rfl) rfl ?_
  refine qr_iload_n o (q_dm dm_X12_finds 17 rfl) rfl ?_
  refine qr_calls_i (As := [.inl a2, .inl a3]) (S := []) o (a_X12_has0 g k.2.1 n j r hj hr a2 a3 M) (Nat.le_of_ble_eq_true rfl) zs_X12_has0 rfl ml_X12_149 (Nat.le_of_ble_eq_true rfl) (q_dm dm_X12_finds 18 rfl) (fun r1 m2 => ?_)
  refine qr_if_eq (tgt := 48) o (q_dm dm_X12_finds 19 rfl) (by decide) ?_ ?_
  · refine qs_iincl2 (L' := fun x3 => [some (.inr (some 77)), some (.inl a1), some (.inl a2), some (.inl x3)]) o (q_dm dm_X12_finds 27 rfl) rfl ic_1 (Nat.le_of_ble_eq_true rfl) (fun _ => rfl) (fun x3 => ?_)
    refine qr_goto (tgt := 2) o (q_dm dm_X12_finds 28 rfl) (by decide) ?_
    exact qr_loc (q_leS (q_leS (q_leS (q_leS q_le0)))) (hK2 a1 a2 x3 m2)
  · refine qr_aload_n o (q_dm dm_X12_finds 20 rfl) rfl ?_
    refine qr_bipush o (q_dm dm_X12_finds 21 rfl) bi_12 ?_
    refine qr_iload_n o (q_dm dm_X12_finds 22 rfl) rfl ?_
    refine qr_callv_i (As := [.inl (12 : Int32), .inl a3]) (S := []) o (a_X12_isLike g k.2.1 n j r hj hr (12 : Int32) a3 m2) (Nat.le_of_ble_eq_true rfl) zv_X12_isLike rfl cf_X12 (sh77 j r) ml_X12_279 (Nat.le_of_ble_eq_true rfl) (q_dm dm_X12_finds 23 rfl) (fun r4 m5 => ?_)
    refine qr_if_eq (tgt := 48) o (q_dm dm_X12_finds 24 rfl) (by decide) ?_ ?_
    · refine qs_iincl2 (L' := fun x6 => [some (.inr (some 77)), some (.inl a1), some (.inl a2), some (.inl x6)]) o (q_dm dm_X12_finds 27 rfl) rfl ic_1 (Nat.le_of_ble_eq_true rfl) (fun _ => rfl) (fun x6 => ?_)
      refine qr_goto (tgt := 2) o (q_dm dm_X12_finds 28 rfl) (by decide) ?_
      exact qr_loc (q_leS (q_leS (q_leS (q_leS q_le0)))) (hK2 a1 a2 x6 m5)
    · refine qr_iconst o (q_dm dm_X12_finds 25 rfl) ic_0 ?_
      exact qr_iret o rfl (by decide) (q_dm dm_X12_finds 26 rfl)

def b_X12_finds_2 (n : Nat) (K2 : Int32 → Int32 → Int32 → qM → qR) (a1 a2 a3 : Int32) (M : qM) : qR :=
  (if (12 : Int32) ≤ a3 then some ((1 : Int32), M) else qc (f_X12_has0 n a1 a3 M) (fun r1 m2 => (if r1 = (0 : Int32) then f_X12_finds_28 n K2 a1 a2 a3 m2 else qc (f_X12_isLike n (12 : Int32) a3 m2) (fun r3 m4 => (if r3 = (0 : Int32) then some ((0 : Int32), m4) else f_X12_finds_28 n K2 a1 a2 a3 m4)))))
set_option maxRecDepth 4000 in
theorem wb_X12_finds_2 {g : qG} {k : qK} (n : Nat) (j r : Nat) (hj : q_isLaw j) (hr : q_isLaw r) (o : qOk g 3 zX12_finds k) (K2 : Int32 → Int32 → Int32 → qM → qR) (hK2 : ∀ (a1 a2 a3 : Int32) (M : qM), qAE g k zX12_finds (qL j r) 2 [some (.inr (some 77)), some (.inl a1), some (.inl a2), some (.inl a3)] [] (qL j r, M) (K2 a1 a2 a3 M)) (a1 a2 a3 : Int32) (M : qM) : qAE g k zX12_finds (qL j r) 2 [some (.inr (some 77)), some (.inl a1), some (.inl a2), some (.inl a3)] [] (qL j r, M) (b_X12_finds_2 n K2 a1 a2 a3 M) := by
  unfold b_X12_finds_2
  refine qr_iload_n o (q_dm dm_X12_finds 2 rfl) rfl ?_
  refine qr_bipush o (q_dm dm_X12_finds 3 rfl) bi_12 ?_
  refine qr_icmp_ge (tgt := 54) o (q_dm dm_X12_finds 4 rfl) (by decide) ?_ ?_
  · refine qr_iconst o (q_dm dm_X12_finds 29 rfl) ic_1 ?_
    exact qr_iret o rfl (by decide) (q_dm dm_X12_finds 30 rfl)
  · refine qr_iload_n o (q_dm dm_X12_finds 5 rfl) rfl ?_
    refine qr_iload_n o (q_dm dm_X12_finds 6 rfl) rfl ?_
    refine qr_calls_i (As := [.inl a1, .inl a3]) (S := []) o (a_X12_has0 g k.2.1 n j r hj hr a1 a3 M) (Nat.le_of_ble_eq_true rfl) zs_X12_has0 rfl ml_X12_149 (Nat.le_of_ble_eq_true rfl) (q_dm dm_X12_finds 7 rfl) (fun r1 m2 => ?_)
    refine qr_if_eq (tgt := 28) o (q_dm dm_X12_finds 8 rfl) (by decide) ?_ ?_
    · exact qr_loc (q_leS (q_leS (q_leS (q_leS q_le0)))) (w_X12_finds_28 n j r hj hr o K2 hK2 a1 a2 a3 m2)
    · refine qr_aload_n o (q_dm dm_X12_finds 9 rfl) rfl ?_
      refine qr_bipush o (q_dm dm_X12_finds 10 rfl) bi_12 ?_
      refine qr_iload_n o (q_dm dm_X12_finds 11 rfl) rfl ?_
      refine qr_callv_i (As := [.inl (12 : Int32), .inl a3]) (S := []) o (a_X12_isLike g k.2.1 n j r hj hr (12 : Int32) a3 m2) (Nat.le_of_ble_eq_true rfl) zv_X12_isLike rfl cf_X12 (sh77 j r) ml_X12_279 (Nat.le_of_ble_eq_true rfl) (q_dm dm_X12_finds 12 rfl) (fun r3 m4 => ?_)
      refine qr_if_ne (tgt := 28) o (q_dm dm_X12_finds 13 rfl) (by decide) ?_ ?_
      · exact qr_loc (q_leS (q_leS (q_leS (q_leS q_le0)))) (w_X12_finds_28 n j r hj hr o K2 hK2 a1 a2 a3 m4)
      · refine qr_iconst o (q_dm dm_X12_finds 14 rfl) ic_0 ?_
        exact qr_iret o rfl (by decide) (q_dm dm_X12_finds 15 rfl)

def f_X12_finds_2 (n : Nat) : Nat → Int32 → Int32 → Int32 → qM → qR
  | 0, _, _, _, _ => none
  | m + 1, a1, a2, a3, M => b_X12_finds_2 n (f_X12_finds_2 n m) a1 a2 a3 M
theorem w_X12_finds_2 {g : qG} {k : qK} (n : Nat) (j r : Nat) (hj : q_isLaw j) (hr : q_isLaw r) (o : qOk g 3 zX12_finds k) : ∀ (m : Nat) (a1 a2 a3 : Int32) (M : qM), qAE g k zX12_finds (qL j r) 2 [some (.inr (some 77)), some (.inl a1), some (.inl a2), some (.inl a3)] [] (qL j r, M) (f_X12_finds_2 n m a1 a2 a3 M) := by
  intro m
  induction m with
  | zero =>
    intro a1 a2 a3 M
    exact qr_none
  | succ m ih =>
    intro a1 a2 a3 M
    exact wb_X12_finds_2 n j r hj hr o (f_X12_finds_2 n m) ih a1 a2 a3 M
def f_X12_finds (n : Nat) (a1 a2 : Int32) (M : qM) : qR :=
  f_X12_finds_2 n n a1 a2 (0 : Int32) M
set_option maxRecDepth 4000 in
theorem w_X12_finds {g : qG} {k : qK} (n : Nat) (j r : Nat) (hj : q_isLaw j) (hr : q_isLaw r) (o : qOk g 3 zX12_finds k) (a1 a2 : Int32) (M : qM) : qAE g k zX12_finds (qL j r) 0 [some (.inr (some 77)), some (.inl a1), some (.inl a2), none] [] (qL j r, M) (f_X12_finds n a1 a2 M) := by
  unfold f_X12_finds
  refine qr_iconst o (q_dm dm_X12_finds 0 rfl) ic_0 ?_
  refine qs_istore_n (L' := [some (.inr (some 77)), some (.inl a1), some (.inl a2), some (.inl (0 : Int32))]) o (q_dm dm_X12_finds 1 rfl) (Nat.le_of_ble_eq_true rfl) rfl ?_
  exact qr_loc (q_leS (q_leS (q_leS (q_leS q_le0)))) (w_X12_finds_2 n j r hj hr o n a1 a2 (0 : Int32) M)

theorem a_X12_finds (g : qG) (l : Launch) (n : Nat) (j r : Nat) (hj : q_isLaw j) (hr : q_isLaw r) (a1 a2 : Int32) (M : qM) : qAM g l 3 zX12_finds (qL j r) [.inr (some 77), .inl a1, .inl a2] (qL j r, M) (f_X12_finds n a1 a2 M) :=
  qAM.of zv_X12_finds.1 (by show 3 ≤ 4; decide) (fun k hk o => w_X12_finds n j r hj hr o a1 a2 M)
def tb_X12_gainOf : List (Nat × Instr × Nat) := [(0, (.iload_n 0, 1)), (1, (.iload_n 1, 1)), (2, (.invokestatic 149, 3)), (5, (.istore 4, 2)), (7, (.iload_n 0, 1)), (8, (.iconst 1, 1)), (9, (.iload_n 1, 1)), (10, (.isub, 1)), (11, (.invokestatic 149, 3)), (14, (.istore 5, 2)), (16, (.iload 4, 2)), (18, (.ifCond .eq 20, 3)), (21, (.iload 5, 2)), (23, (.ifCond .eq 10, 3)), (26, (.iload_n 2, 1)), (27, (.iconst 2, 1)), (28, (.idiv, 1)), (29, (.ineg, 1)), (30, (.goto 18, 3)), (33, (.iload_n 2, 1)), (34, (.ineg, 1)), (35, (.goto 13, 3)), (38, (.iload 5, 2)), (40, (.ifCond .eq 7, 3)), (43, (.iload_n 3, 1)), (44, (.goto 4, 3)), (47, (.iconst (-1), 1)), (48, (.ireturn, 1))]
theorem dm_X12_gainOf : ∀ q ∈ tb_X12_gainOf, decode zX12_gainOf.2.1 q.1 = .ok q.2 := by decide +kernel
def f_X12_gainOf (n : Nat) (a0 a1 a2 a3 : Int32) (M : qM) : qR :=
  qc (f_X12_has0 n a0 a1 M) (fun r1 m2 => qc (f_X12_has0 n a0 ((1 : Int32) - a1) m2) (fun r3 m4 => (if r1 = (0 : Int32) then (if r3 = (0 : Int32) then some ((-1 : Int32), m4) else some (a3, m4)) else (if r3 = (0 : Int32) then some ((-a2), m4) else some ((-(a2 / (2 : Int32))), m4)))))
set_option maxRecDepth 4000 in
theorem w_X12_gainOf {g : qG} {k : qK} (n : Nat) (j r : Nat) (hj : q_isLaw j) (hr : q_isLaw r) (o : qOk g 1 zX12_gainOf k) (a0 a1 a2 a3 : Int32) (M : qM) : qAE g k zX12_gainOf (qL j r) 0 [some (.inl a0), some (.inl a1), some (.inl a2), some (.inl a3), none, none] [] (qL j r, M) (f_X12_gainOf n a0 a1 a2 a3 M) := by
  unfold f_X12_gainOf
  refine qr_iload_n o (q_dm dm_X12_gainOf 0 rfl) rfl ?_
  refine qr_iload_n o (q_dm dm_X12_gainOf 1 rfl) rfl ?_
  refine qr_calls_i (As := [.inl a0, .inl a1]) (S := []) o (a_X12_has0 g k.2.1 n j r hj hr a0 a1 M) (Nat.le_of_ble_eq_true rfl) zs_X12_has0 rfl ml_X12_149 (Nat.le_of_ble_eq_true rfl) (q_dm dm_X12_gainOf 2 rfl) (fun r1 m2 => ?_)
  refine qs_istore (L' := [some (.inl a0), some (.inl a1), some (.inl a2), some (.inl a3), some (.inl r1), none]) o (q_dm dm_X12_gainOf 3 rfl) (Nat.le_of_ble_eq_true rfl) rfl ?_
  refine qr_iload_n o (q_dm dm_X12_gainOf 4 rfl) rfl ?_
  refine qr_iconst o (q_dm dm_X12_gainOf 5 rfl) ic_1 ?_
  refine qr_iload_n o (q_dm dm_X12_gainOf 6 rfl) rfl ?_
  refine qr_isub o (q_dm dm_X12_gainOf 7 rfl) ?_
  refine qr_calls_i (As := [.inl a0, .inl ((1 : Int32) - a1)]) (S := []) o (a_X12_has0 g k.2.1 n j r hj hr a0 ((1 : Int32) - a1) m2) (Nat.le_of_ble_eq_true rfl) zs_X12_has0 rfl ml_X12_149 (Nat.le_of_ble_eq_true rfl) (q_dm dm_X12_gainOf 8 rfl) (fun r3 m4 => ?_)
  refine qs_istore (L' := [some (.inl a0), some (.inl a1), some (.inl a2), some (.inl a3), some (.inl r1), some (.inl r3)]) o (q_dm dm_X12_gainOf 9 rfl) (Nat.le_of_ble_eq_true rfl) rfl ?_
  refine qr_iload o (q_dm dm_X12_gainOf 10 rfl) rfl ?_
  refine qr_if_eq (tgt := 38) o (q_dm dm_X12_gainOf 11 rfl) (by decide) ?_ ?_
  · refine qr_iload o (q_dm dm_X12_gainOf 22 rfl) rfl ?_
    refine qr_if_eq (tgt := 47) o (q_dm dm_X12_gainOf 23 rfl) (by decide) ?_ ?_
    · refine qr_iconst o (q_dm dm_X12_gainOf 26 rfl) ic_m1 ?_
      exact qr_iret o rfl rfl (q_dm dm_X12_gainOf 27 rfl)
    · refine qr_iload_n o (q_dm dm_X12_gainOf 24 rfl) rfl ?_
      refine qr_goto (tgt := 48) o (q_dm dm_X12_gainOf 25 rfl) (by decide) ?_
      exact qr_iret o rfl rfl (q_dm dm_X12_gainOf 27 rfl)
  · refine qr_iload o (q_dm dm_X12_gainOf 12 rfl) rfl ?_
    refine qr_if_eq (tgt := 33) o (q_dm dm_X12_gainOf 13 rfl) (by decide) ?_ ?_
    · refine qr_iload_n o (q_dm dm_X12_gainOf 19 rfl) rfl ?_
      refine qr_ineg o (q_dm dm_X12_gainOf 20 rfl) ?_
      refine qr_goto (tgt := 48) o (q_dm dm_X12_gainOf 21 rfl) (by decide) ?_
      exact qr_iret o rfl rfl (q_dm dm_X12_gainOf 27 rfl)
    · refine qr_iload_n o (q_dm dm_X12_gainOf 14 rfl) rfl ?_
      refine qr_iconst o (q_dm dm_X12_gainOf 15 rfl) ic_2 ?_
      refine qr_idivc o (q_dm dm_X12_gainOf 16 rfl) (by decide) ?_
      refine qr_ineg o (q_dm dm_X12_gainOf 17 rfl) ?_
      refine qr_goto (tgt := 48) o (q_dm dm_X12_gainOf 18 rfl) (by decide) ?_
      exact qr_iret o rfl rfl (q_dm dm_X12_gainOf 27 rfl)

theorem a_X12_gainOf (g : qG) (l : Launch) (n : Nat) (j r : Nat) (hj : q_isLaw j) (hr : q_isLaw r) (a0 a1 a2 a3 : Int32) (M : qM) : qAM g l 1 zX12_gainOf (qL j r) [.inl a0, .inl a1, .inl a2, .inl a3] (qL j r, M) (f_X12_gainOf n a0 a1 a2 a3 M) :=
  qAM.of zs_X12_gainOf.1 (by show 4 ≤ 6; decide) (fun k hk o => w_X12_gainOf n j r hj hr o a0 a1 a2 a3 M)
def tb_X12_gameState : List (Nat × Instr × Nat) := [(0, (.iconst 4, 1)), (1, (.iload_n 0, 1)), (2, (.imul, 1)), (3, (.iload_n 1, 1)), (4, (.ifCond .eq 7, 3)), (7, (.iconst 2, 1)), (8, (.goto 4, 3)), (11, (.iconst 0, 1)), (12, (.iadd, 1)), (13, (.iload_n 2, 1)), (14, (.ifCond .eq 7, 3)), (17, (.iconst 1, 1)), (18, (.goto 4, 3)), (21, (.iconst 0, 1)), (22, (.iadd, 1)), (23, (.ireturn, 1))]
theorem dm_X12_gameState : ∀ q ∈ tb_X12_gameState, decode zX12_gameState.2.1 q.1 = .ok q.2 := by decide +kernel
def f_X12_gameState_12 (n : Nat) (a2 s0 s1 : Int32) (M : qM) : qR :=
  (if a2 = (0 : Int32) then some (((s0 + s1) + (0 : Int32)), M) else some (((s0 + s1) + (1 : Int32)), M))
set_option maxRecDepth 4000 in
theorem w_X12_gameState_12 {g : qG} {k : qK} (n : Nat) (j r : Nat) (hj : q_isLaw j) (hr : q_isLaw r) (o : qOk g 0 zX12_gameState k) (a2 s0 s1 : Int32) (M : qM) : qAE g k zX12_gameState (qL j r) 12 [none, none, some (.inl a2)] [.inl s1, .inl s0] (qL j r, M) (f_X12_gameState_12 n a2 s0 s1 M) := by
  unfold f_X12_gameState_12
  refine qr_iadd o (q_dm dm_X12_gameState 8 rfl) ?_
  refine qr_iload_n o (q_dm dm_X12_gameState 9 rfl) rfl ?_
  refine qr_if_eq (tgt := 21) o (q_dm dm_X12_gameState 10 rfl) (by decide) ?_ ?_
  · refine qr_iconst o (q_dm dm_X12_gameState 13 rfl) ic_0 ?_
    refine qr_iadd o (q_dm dm_X12_gameState 14 rfl) ?_
    exact qr_iret o rfl rfl (q_dm dm_X12_gameState 15 rfl)
  · refine qr_iconst o (q_dm dm_X12_gameState 11 rfl) ic_1 ?_
    refine qr_goto (tgt := 22) o (q_dm dm_X12_gameState 12 rfl) (by decide) ?_
    refine qr_iadd o (q_dm dm_X12_gameState 14 rfl) ?_
    exact qr_iret o rfl rfl (q_dm dm_X12_gameState 15 rfl)

def f_X12_gameState (n : Nat) (a0 a1 a2 : Int32) (M : qM) : qR :=
  (if a1 = (0 : Int32) then f_X12_gameState_12 n a2 ((4 : Int32) * a0) (0 : Int32) M else f_X12_gameState_12 n a2 ((4 : Int32) * a0) (2 : Int32) M)
set_option maxRecDepth 4000 in
theorem w_X12_gameState {g : qG} {k : qK} (n : Nat) (j r : Nat) (hj : q_isLaw j) (hr : q_isLaw r) (o : qOk g 0 zX12_gameState k) (a0 a1 a2 : Int32) (M : qM) : qAE g k zX12_gameState (qL j r) 0 [some (.inl a0), some (.inl a1), some (.inl a2)] [] (qL j r, M) (f_X12_gameState n a0 a1 a2 M) := by
  unfold f_X12_gameState
  refine qr_iconst o (q_dm dm_X12_gameState 0 rfl) ic_4 ?_
  refine qr_iload_n o (q_dm dm_X12_gameState 1 rfl) rfl ?_
  refine qr_imul o (q_dm dm_X12_gameState 2 rfl) ?_
  refine qr_iload_n o (q_dm dm_X12_gameState 3 rfl) rfl ?_
  refine qr_if_eq (tgt := 11) o (q_dm dm_X12_gameState 4 rfl) (by decide) ?_ ?_
  · refine qr_iconst o (q_dm dm_X12_gameState 7 rfl) ic_0 ?_
    exact qr_loc (q_leN (q_leN (q_leS q_le0))) (w_X12_gameState_12 n j r hj hr o a2 ((4 : Int32) * a0) (0 : Int32) M)
  · refine qr_iconst o (q_dm dm_X12_gameState 5 rfl) ic_2 ?_
    refine qr_goto (tgt := 12) o (q_dm dm_X12_gameState 6 rfl) (by decide) ?_
    exact qr_loc (q_leN (q_leN (q_leS q_le0))) (w_X12_gameState_12 n j r hj hr o a2 ((4 : Int32) * a0) (2 : Int32) M)

theorem a_X12_gameState (g : qG) (l : Launch) (n : Nat) (j r : Nat) (hj : q_isLaw j) (hr : q_isLaw r) (a0 a1 a2 : Int32) (M : qM) : qAM g l 0 zX12_gameState (qL j r) [.inl a0, .inl a1, .inl a2] (qL j r, M) (f_X12_gameState n a0 a1 a2 M) :=
  qAM.of zs_X12_gameState.1 (by show 3 ≤ 3; decide) (fun k hk o => w_X12_gameState n j r hj hr o a0 a1 a2 M)
def tb_X12_heapIn : List (Nat × Instr × Nat) := [(0, (.iload_n 1, 1)), (1, (.ifCond .ne 10, 3)), (4, (.iload_n 0, 1)), (5, (.bipush 64, 2)), (7, (.idiv, 1)), (8, (.goto 22, 3)), (11, (.iload_n 1, 1)), (12, (.iconst 1, 1)), (13, (.if_icmp .ne 13, 3)), (16, (.iload_n 0, 1)), (17, (.bipush 8, 2)), (19, (.idiv, 1)), (20, (.bipush 8, 2)), (22, (.irem, 1)), (23, (.goto 7, 3)), (26, (.iload_n 0, 1)), (27, (.bipush 8, 2)), (29, (.irem, 1)), (30, (.ireturn, 1))]
theorem dm_X12_heapIn : ∀ q ∈ tb_X12_heapIn, decode zX12_heapIn.2.1 q.1 = .ok q.2 := by decide +kernel
def f_X12_heapIn (n : Nat) (a0 a1 : Int32) (M : qM) : qR :=
  (if a1 = (0 : Int32) then some ((a0 / (64 : Int32)), M) else (if a1 = (1 : Int32) then some (((a0 / (8 : Int32)) - (a0 / (8 : Int32)) / (8 : Int32) * (8 : Int32)), M) else some ((a0 - a0 / (8 : Int32) * (8 : Int32)), M)))
set_option maxRecDepth 4000 in
theorem w_X12_heapIn {g : qG} {k : qK} (n : Nat) (j r : Nat) (hj : q_isLaw j) (hr : q_isLaw r) (o : qOk g 0 zX12_heapIn k) (a0 a1 : Int32) (M : qM) : qAE g k zX12_heapIn (qL j r) 0 [some (.inl a0), some (.inl a1)] [] (qL j r, M) (f_X12_heapIn n a0 a1 M) := by
  unfold f_X12_heapIn
  refine qr_iload_n o (q_dm dm_X12_heapIn 0 rfl) rfl ?_
  refine qr_if_ne (tgt := 11) o (q_dm dm_X12_heapIn 1 rfl) (by decide) ?_ ?_
  · refine qr_iload_n o (q_dm dm_X12_heapIn 6 rfl) rfl ?_
    refine qr_iconst o (q_dm dm_X12_heapIn 7 rfl) ic_1 ?_
    refine qr_icmp_ne (tgt := 26) o (q_dm dm_X12_heapIn 8 rfl) (by decide) ?_ ?_
    · refine qr_iload_n o (q_dm dm_X12_heapIn 15 rfl) rfl ?_
      refine qr_bipush o (q_dm dm_X12_heapIn 16 rfl) bi_8 ?_
      refine qr_iremc o (q_dm dm_X12_heapIn 17 rfl) (by decide) ?_
      exact qr_iret o rfl rfl (q_dm dm_X12_heapIn 18 rfl)
    · refine qr_iload_n o (q_dm dm_X12_heapIn 9 rfl) rfl ?_
      refine qr_bipush o (q_dm dm_X12_heapIn 10 rfl) bi_8 ?_
      refine qr_idivc o (q_dm dm_X12_heapIn 11 rfl) (by decide) ?_
      refine qr_bipush o (q_dm dm_X12_heapIn 12 rfl) bi_8 ?_
      refine qr_iremc o (q_dm dm_X12_heapIn 13 rfl) (by decide) ?_
      refine qr_goto (tgt := 30) o (q_dm dm_X12_heapIn 14 rfl) (by decide) ?_
      exact qr_iret o rfl rfl (q_dm dm_X12_heapIn 18 rfl)
  · refine qr_iload_n o (q_dm dm_X12_heapIn 2 rfl) rfl ?_
    refine qr_bipush o (q_dm dm_X12_heapIn 3 rfl) bi_64 ?_
    refine qr_idivc o (q_dm dm_X12_heapIn 4 rfl) (by decide) ?_
    refine qr_goto (tgt := 30) o (q_dm dm_X12_heapIn 5 rfl) (by decide) ?_
    exact qr_iret o rfl rfl (q_dm dm_X12_heapIn 18 rfl)

theorem a_X12_heapIn (g : qG) (l : Launch) (n : Nat) (j r : Nat) (hj : q_isLaw j) (hr : q_isLaw r) (a0 a1 : Int32) (M : qM) : qAM g l 0 zX12_heapIn (qL j r) [.inl a0, .inl a1] (qL j r, M) (f_X12_heapIn n a0 a1 M) :=
  qAM.of zs_X12_heapIn.1 (by show 2 ≤ 2; decide) (fun k hk o => w_X12_heapIn n j r hj hr o a0 a1 M)
def tb_X12_heapUnit : List (Nat × Instr × Nat) := [(0, (.iload_n 0, 1)), (1, (.ifCond .ne 8, 3)), (4, (.bipush 64, 2)), (6, (.goto 14, 3)), (9, (.iload_n 0, 1)), (10, (.iconst 1, 1)), (11, (.if_icmp .ne 8, 3)), (14, (.bipush 8, 2)), (16, (.goto 4, 3)), (19, (.iconst 1, 1)), (20, (.ireturn, 1))]
theorem dm_X12_heapUnit : ∀ q ∈ tb_X12_heapUnit, decode zX12_heapUnit.2.1 q.1 = .ok q.2 := by decide +kernel
def f_X12_heapUnit (n : Nat) (a0 : Int32) (M : qM) : qR :=
  (if a0 = (0 : Int32) then some ((64 : Int32), M) else (if a0 = (1 : Int32) then some ((8 : Int32), M) else some ((1 : Int32), M)))
set_option maxRecDepth 4000 in
theorem w_X12_heapUnit {g : qG} {k : qK} (n : Nat) (j r : Nat) (hj : q_isLaw j) (hr : q_isLaw r) (o : qOk g 0 zX12_heapUnit k) (a0 : Int32) (M : qM) : qAE g k zX12_heapUnit (qL j r) 0 [some (.inl a0)] [] (qL j r, M) (f_X12_heapUnit n a0 M) := by
  unfold f_X12_heapUnit
  refine qr_iload_n o (q_dm dm_X12_heapUnit 0 rfl) rfl ?_
  refine qr_if_ne (tgt := 9) o (q_dm dm_X12_heapUnit 1 rfl) (by decide) ?_ ?_
  · refine qr_iload_n o (q_dm dm_X12_heapUnit 4 rfl) rfl ?_
    refine qr_iconst o (q_dm dm_X12_heapUnit 5 rfl) ic_1 ?_
    refine qr_icmp_ne (tgt := 19) o (q_dm dm_X12_heapUnit 6 rfl) (by decide) ?_ ?_
    · refine qr_iconst o (q_dm dm_X12_heapUnit 9 rfl) ic_1 ?_
      exact qr_iret o rfl rfl (q_dm dm_X12_heapUnit 10 rfl)
    · refine qr_bipush o (q_dm dm_X12_heapUnit 7 rfl) bi_8 ?_
      refine qr_goto (tgt := 20) o (q_dm dm_X12_heapUnit 8 rfl) (by decide) ?_
      exact qr_iret o rfl rfl (q_dm dm_X12_heapUnit 10 rfl)
  · refine qr_bipush o (q_dm dm_X12_heapUnit 2 rfl) bi_64 ?_
    refine qr_goto (tgt := 20) o (q_dm dm_X12_heapUnit 3 rfl) (by decide) ?_
    exact qr_iret o rfl rfl (q_dm dm_X12_heapUnit 10 rfl)

theorem a_X12_heapUnit (g : qG) (l : Launch) (n : Nat) (j r : Nat) (hj : q_isLaw j) (hr : q_isLaw r) (a0 : Int32) (M : qM) : qAM g l 0 zX12_heapUnit (qL j r) [.inl a0] (qL j r, M) (f_X12_heapUnit n a0 M) :=
  qAM.of zs_X12_heapUnit.1 (by show 1 ≤ 1; decide) (fun k hk o => w_X12_heapUnit n j r hj hr o a0 M)
def tb_X12_wins : List (Nat × Instr × Nat) := [(0, (.aload_n 0, 1)), (1, (.getfield 139, 3)), (4, (.iload_n 2, 1)), (5, (.ifCond .eq 16, 3)), (8, (.iload_n 1, 1)), (9, (.iload 5, 2)), (11, (.iload 4, 2)), (13, (.invokestatic 472, 3)), (16, (.imul, 1)), (17, (.isub, 1)), (18, (.goto 4, 3)), (21, (.iload_n 1, 1)), (22, (.iload_n 3, 1)), (23, (.iconst 1, 1)), (24, (.invokestatic 475, 3)), (27, (.baload, 1)), (28, (.ifCond .ne 7, 3)), (31, (.iconst 1, 1)), (32, (.goto 4, 3)), (35, (.iconst 0, 1)), (36, (.ireturn, 1))]
theorem dm_X12_wins : ∀ q ∈ tb_X12_wins, decode zX12_wins.2.1 q.1 = .ok q.2 := by decide +kernel
def f_X12_wins_22 (n : Nat) (a3 s1 : Int32) (M : qM) : qR :=
  qc (f_X12_gameState n s1 a3 (1 : Int32) M) (fun r1 m2 => qg r1 2048 ((if (m2 120 r1.toNatClampNeg) = (0 : Int32) then some ((1 : Int32), m2) else some ((0 : Int32), m2))))
set_option maxRecDepth 4000 in
theorem w_X12_wins_22 {g : qG} {k : qK} (n : Nat) (j r : Nat) (hj : q_isLaw j) (hr : q_isLaw r) (o : qOk g 1 zX12_wins k) (a3 s1 : Int32) (M : qM) : qAE g k zX12_wins (qL j r) 22 [none, none, none, some (.inl a3), none, none] [.inl s1, .inr (some 120)] (qL j r, M) (f_X12_wins_22 n a3 s1 M) := by
  unfold f_X12_wins_22
  refine qr_iload_n o (q_dm dm_X12_wins 12 rfl) rfl ?_
  refine qr_iconst o (q_dm dm_X12_wins 13 rfl) ic_1 ?_
  refine qr_calls_i (As := [.inl s1, .inl a3, .inl (1 : Int32)]) (S := [.inr (some 120)]) o (a_X12_gameState g k.2.1 n j r hj hr s1 a3 (1 : Int32) M) (Nat.le_of_ble_eq_true rfl) zs_X12_gameState rfl ml_X12_475 (Nat.le_of_ble_eq_true rfl) (q_dm dm_X12_wins 14 rfl) (fun r1 m2 => ?_)
  refine qr_zald o (sh120 j r) (q_dm dm_X12_wins 15 rfl) ?_
  refine qr_if_ne (tgt := 35) o (q_dm dm_X12_wins 16 rfl) (by decide) ?_ ?_
  · refine qr_iconst o (q_dm dm_X12_wins 19 rfl) ic_0 ?_
    exact qr_iret o rfl (by decide) (q_dm dm_X12_wins 20 rfl)
  · refine qr_iconst o (q_dm dm_X12_wins 17 rfl) ic_1 ?_
    refine qr_goto (tgt := 36) o (q_dm dm_X12_wins 18 rfl) (by decide) ?_
    exact qr_iret o rfl (by decide) (q_dm dm_X12_wins 20 rfl)

def f_X12_wins (n : Nat) (a1 a2 a3 a4 a5 : Int32) (M : qM) : qR :=
  (if a2 = (0 : Int32) then f_X12_wins_22 n a3 a1 M else qc (f_X12_heapUnit n a4 M) (fun r1 m2 => f_X12_wins_22 n a3 (a1 - (a5 * r1)) m2))
set_option maxRecDepth 4000 in
theorem w_X12_wins {g : qG} {k : qK} (n : Nat) (j r : Nat) (hj : q_isLaw j) (hr : q_isLaw r) (o : qOk g 1 zX12_wins k) (a1 a2 a3 a4 a5 : Int32) (M : qM) : qAE g k zX12_wins (qL j r) 0 [some (.inr (some 77)), some (.inl a1), some (.inl a2), some (.inl a3), some (.inl a4), some (.inl a5)] [] (qL j r, M) (f_X12_wins n a1 a2 a3 a4 a5 M) := by
  unfold f_X12_wins
  refine qr_aload_n o (q_dm dm_X12_wins 0 rfl) rfl ?_
  refine qr_getr (kf := 66) o cf_X12 (sh77 j r) rfl (Nat.le_of_ble_eq_true rfl) fl_X12_139 (q_dm dm_X12_wins 1 rfl) ?_
  refine qr_iload_n o (q_dm dm_X12_wins 2 rfl) rfl ?_
  refine qr_if_eq (tgt := 21) o (q_dm dm_X12_wins 3 rfl) (by decide) ?_ ?_
  · refine qr_iload_n o (q_dm dm_X12_wins 11 rfl) rfl ?_
    exact qr_loc (q_leN (q_leN (q_leN (q_leS (q_leN (q_leN q_le0)))))) (w_X12_wins_22 n j r hj hr o a3 a1 M)
  · refine qr_iload_n o (q_dm dm_X12_wins 4 rfl) rfl ?_
    refine qr_iload o (q_dm dm_X12_wins 5 rfl) rfl ?_
    refine qr_iload o (q_dm dm_X12_wins 6 rfl) rfl ?_
    refine qr_calls_i (As := [.inl a4]) (S := [.inl a5, .inl a1, .inr (some 120)]) o (a_X12_heapUnit g k.2.1 n j r hj hr a4 M) (Nat.le_of_ble_eq_true rfl) zs_X12_heapUnit rfl ml_X12_472 (Nat.le_of_ble_eq_true rfl) (q_dm dm_X12_wins 7 rfl) (fun r1 m2 => ?_)
    refine qr_imul o (q_dm dm_X12_wins 8 rfl) ?_
    refine qr_isub o (q_dm dm_X12_wins 9 rfl) ?_
    refine qr_goto (tgt := 22) o (q_dm dm_X12_wins 10 rfl) (by decide) ?_
    exact qr_loc (q_leN (q_leN (q_leN (q_leS (q_leN (q_leN q_le0)))))) (w_X12_wins_22 n j r hj hr o a3 (a1 - (a5 * r1)) m2)

theorem a_X12_wins (g : qG) (l : Launch) (n : Nat) (j r : Nat) (hj : q_isLaw j) (hr : q_isLaw r) (a1 a2 a3 a4 a5 : Int32) (M : qM) : qAM g l 1 zX12_wins (qL j r) [.inr (some 77), .inl a1, .inl a2, .inl a3, .inl a4, .inl a5] (qL j r, M) (f_X12_wins n a1 a2 a3 a4 a5 M) :=
  qAM.of zv_X12_wins.1 (by show 6 ≤ 6; decide) (fun k hk o => w_X12_wins n j r hj hr o a1 a2 a3 a4 a5 M)
def tb_X12_winningMove : List (Nat × Instr × Nat) := [(0, (.iconst 0, 1)), (1, (.istore 4, 2)), (3, (.iload 4, 2)), (5, (.iconst 3, 1)), (6, (.if_icmp .ge 58, 3)), (9, (.iconst 1, 1)), (10, (.istore 5, 2)), (12, (.iload 5, 2)), (14, (.iconst 3, 1)), (15, (.if_icmp .gt 43, 3)), (18, (.iload_n 1, 1)), (19, (.iload 4, 2)), (21, (.invokestatic 479, 3)), (24, (.iload 5, 2)), (26, (.if_icmp .lt 26, 3)), (29, (.aload_n 0, 1)), (30, (.iload_n 1, 1)), (31, (.iload_n 2, 1)), (32, (.iload_n 3, 1)), (33, (.iload 4, 2)), (35, (.iload 5, 2)), (37, (.invokevirtual 482, 3)), (40, (.ifCond .eq 12, 3)), (43, (.bipush 10, 2)), (45, (.iload 4, 2)), (47, (.imul, 1)), (48, (.iload 5, 2)), (50, (.iadd, 1)), (51, (.ireturn, 1)), (52, (.iinc 5 1, 3)), (55, (.goto (-43), 3)), (58, (.iinc 4 1, 3)), (61, (.goto (-58), 3)), (64, (.iconst (-1), 1)), (65, (.ireturn, 1))]
theorem dm_X12_winningMove : ∀ q ∈ tb_X12_winningMove, decode zX12_winningMove.2.1 q.1 = .ok q.2 := by decide +kernel
def b_X12_winningMove_12 (n : Nat) (K3 : Int32 → Int32 → Int32 → Int32 → qM → qR) (K12 : Int32 → Int32 → Int32 → Int32 → Int32 → qM → qR) (a1 a2 a3 a4 a5 : Int32) (M : qM) : qR :=
  (if (3 : Int32) < a5 then ql (a4 + (1 : Int32)) (fun x1 => K3 a1 a2 a3 x1 M) else qc (f_X12_heapIn n a1 a4 M) (fun r2 m3 => (if r2 < a5 then ql (a5 + (1 : Int32)) (fun x4 => K12 a1 a2 a3 a4 x4 m3) else qc (f_X12_wins n a1 a2 a3 a4 a5 m3) (fun r5 m6 => (if r5 = (0 : Int32) then ql (a5 + (1 : Int32)) (fun x7 => K12 a1 a2 a3 a4 x7 m6) else some ((((10 : Int32) * a4) + a5), m6))))))
set_option maxRecDepth 4000 in
theorem wb_X12_winningMove_12 {g : qG} {k : qK} (n : Nat) (j r : Nat) (hj : q_isLaw j) (hr : q_isLaw r) (o : qOk g 2 zX12_winningMove k) (K3 : Int32 → Int32 → Int32 → Int32 → qM → qR) (hK3 : ∀ (a1 a2 a3 a4 : Int32) (M : qM), qAE g k zX12_winningMove (qL j r) 3 [some (.inr (some 77)), some (.inl a1), some (.inl a2), some (.inl a3), some (.inl a4), none] [] (qL j r, M) (K3 a1 a2 a3 a4 M)) (K12 : Int32 → Int32 → Int32 → Int32 → Int32 → qM → qR) (hK12 : ∀ (a1 a2 a3 a4 a5 : Int32) (M : qM), qAE g k zX12_winningMove (qL j r) 12 [some (.inr (some 77)), some (.inl a1), some (.inl a2), some (.inl a3), some (.inl a4), some (.inl a5)] [] (qL j r, M) (K12 a1 a2 a3 a4 a5 M)) (a1 a2 a3 a4 a5 : Int32) (M : qM) : qAE g k zX12_winningMove (qL j r) 12 [some (.inr (some 77)), some (.inl a1), some (.inl a2), some (.inl a3), some (.inl a4), some (.inl a5)] [] (qL j r, M) (b_X12_winningMove_12 n K3 K12 a1 a2 a3 a4 a5 M) := by
  unfold b_X12_winningMove_12
  refine qr_iload o (q_dm dm_X12_winningMove 7 rfl) rfl ?_
  refine qr_iconst o (q_dm dm_X12_winningMove 8 rfl) ic_3 ?_
  refine qr_icmp_gt (tgt := 58) o (q_dm dm_X12_winningMove 9 rfl) (by decide) ?_ ?_
  · refine qs_iincl2 (L' := fun x1 => [some (.inr (some 77)), some (.inl a1), some (.inl a2), some (.inl a3), some (.inl x1), some (.inl a5)]) o (q_dm dm_X12_winningMove 31 rfl) rfl ic_1 (Nat.le_of_ble_eq_true rfl) (fun _ => rfl) (fun x1 => ?_)
    refine qr_goto (tgt := 3) o (q_dm dm_X12_winningMove 32 rfl) (by decide) ?_
    exact qr_loc (q_leS (q_leS (q_leS (q_leS (q_leS (q_leN q_le0)))))) (hK3 a1 a2 a3 x1 M)
  · refine qr_iload_n o (q_dm dm_X12_winningMove 10 rfl) rfl ?_
    refine qr_iload o (q_dm dm_X12_winningMove 11 rfl) rfl ?_
    refine qr_calls_i (As := [.inl a1, .inl a4]) (S := []) o (a_X12_heapIn g k.2.1 n j r hj hr a1 a4 M) (Nat.le_of_ble_eq_true rfl) zs_X12_heapIn rfl ml_X12_479 (Nat.le_of_ble_eq_true rfl) (q_dm dm_X12_winningMove 12 rfl) (fun r2 m3 => ?_)
    refine qr_iload o (q_dm dm_X12_winningMove 13 rfl) rfl ?_
    refine qr_icmp_lt (tgt := 52) o (q_dm dm_X12_winningMove 14 rfl) (by decide) ?_ ?_
    · refine qs_iincl2 (L' := fun x4 => [some (.inr (some 77)), some (.inl a1), some (.inl a2), some (.inl a3), some (.inl a4), some (.inl x4)]) o (q_dm dm_X12_winningMove 29 rfl) rfl ic_1 (Nat.le_of_ble_eq_true rfl) (fun _ => rfl) (fun x4 => ?_)
      refine qr_goto (tgt := 12) o (q_dm dm_X12_winningMove 30 rfl) (by decide) ?_
      exact qr_loc (q_leS (q_leS (q_leS (q_leS (q_leS (q_leS q_le0)))))) (hK12 a1 a2 a3 a4 x4 m3)
    · refine qr_aload_n o (q_dm dm_X12_winningMove 15 rfl) rfl ?_
      refine qr_iload_n o (q_dm dm_X12_winningMove 16 rfl) rfl ?_
      refine qr_iload_n o (q_dm dm_X12_winningMove 17 rfl) rfl ?_
      refine qr_iload_n o (q_dm dm_X12_winningMove 18 rfl) rfl ?_
      refine qr_iload o (q_dm dm_X12_winningMove 19 rfl) rfl ?_
      refine qr_iload o (q_dm dm_X12_winningMove 20 rfl) rfl ?_
      refine qr_callv_i (As := [.inl a1, .inl a2, .inl a3, .inl a4, .inl a5]) (S := []) o (a_X12_wins g k.2.1 n j r hj hr a1 a2 a3 a4 a5 m3) (Nat.le_of_ble_eq_true rfl) zv_X12_wins rfl cf_X12 (sh77 j r) ml_X12_482 (Nat.le_of_ble_eq_true rfl) (q_dm dm_X12_winningMove 21 rfl) (fun r5 m6 => ?_)
      refine qr_if_eq (tgt := 52) o (q_dm dm_X12_winningMove 22 rfl) (by decide) ?_ ?_
      · refine qs_iincl2 (L' := fun x7 => [some (.inr (some 77)), some (.inl a1), some (.inl a2), some (.inl a3), some (.inl a4), some (.inl x7)]) o (q_dm dm_X12_winningMove 29 rfl) rfl ic_1 (Nat.le_of_ble_eq_true rfl) (fun _ => rfl) (fun x7 => ?_)
        refine qr_goto (tgt := 12) o (q_dm dm_X12_winningMove 30 rfl) (by decide) ?_
        exact qr_loc (q_leS (q_leS (q_leS (q_leS (q_leS (q_leS q_le0)))))) (hK12 a1 a2 a3 a4 x7 m6)
      · refine qr_bipush o (q_dm dm_X12_winningMove 23 rfl) bi_10 ?_
        refine qr_iload o (q_dm dm_X12_winningMove 24 rfl) rfl ?_
        refine qr_imul o (q_dm dm_X12_winningMove 25 rfl) ?_
        refine qr_iload o (q_dm dm_X12_winningMove 26 rfl) rfl ?_
        refine qr_iadd o (q_dm dm_X12_winningMove 27 rfl) ?_
        exact qr_iret o rfl rfl (q_dm dm_X12_winningMove 28 rfl)

def f_X12_winningMove_12 (n : Nat) (K3 : Int32 → Int32 → Int32 → Int32 → qM → qR) : Nat → Int32 → Int32 → Int32 → Int32 → Int32 → qM → qR
  | 0, _, _, _, _, _, _ => none
  | m + 1, a1, a2, a3, a4, a5, M => b_X12_winningMove_12 n K3 (f_X12_winningMove_12 n K3 m) a1 a2 a3 a4 a5 M
theorem w_X12_winningMove_12 {g : qG} {k : qK} (n : Nat) (j r : Nat) (hj : q_isLaw j) (hr : q_isLaw r) (o : qOk g 2 zX12_winningMove k) (K3 : Int32 → Int32 → Int32 → Int32 → qM → qR) (hK3 : ∀ (a1 a2 a3 a4 : Int32) (M : qM), qAE g k zX12_winningMove (qL j r) 3 [some (.inr (some 77)), some (.inl a1), some (.inl a2), some (.inl a3), some (.inl a4), none] [] (qL j r, M) (K3 a1 a2 a3 a4 M)) : ∀ (m : Nat) (a1 a2 a3 a4 a5 : Int32) (M : qM), qAE g k zX12_winningMove (qL j r) 12 [some (.inr (some 77)), some (.inl a1), some (.inl a2), some (.inl a3), some (.inl a4), some (.inl a5)] [] (qL j r, M) (f_X12_winningMove_12 n K3 m a1 a2 a3 a4 a5 M) := by
  intro m
  induction m with
  | zero =>
    intro a1 a2 a3 a4 a5 M
    exact qr_none
  | succ m ih =>
    intro a1 a2 a3 a4 a5 M
    exact wb_X12_winningMove_12 n j r hj hr o K3 hK3 (f_X12_winningMove_12 n K3 m) ih a1 a2 a3 a4 a5 M
def b_X12_winningMove_3 (n : Nat) (K3 : Int32 → Int32 → Int32 → Int32 → qM → qR) (a1 a2 a3 a4 : Int32) (M : qM) : qR :=
  (if (3 : Int32) ≤ a4 then some ((-1 : Int32), M) else f_X12_winningMove_12 n K3 n a1 a2 a3 a4 (1 : Int32) M)
set_option maxRecDepth 4000 in
theorem wb_X12_winningMove_3 {g : qG} {k : qK} (n : Nat) (j r : Nat) (hj : q_isLaw j) (hr : q_isLaw r) (o : qOk g 2 zX12_winningMove k) (K3 : Int32 → Int32 → Int32 → Int32 → qM → qR) (hK3 : ∀ (a1 a2 a3 a4 : Int32) (M : qM), qAE g k zX12_winningMove (qL j r) 3 [some (.inr (some 77)), some (.inl a1), some (.inl a2), some (.inl a3), some (.inl a4), none] [] (qL j r, M) (K3 a1 a2 a3 a4 M)) (a1 a2 a3 a4 : Int32) (M : qM) : qAE g k zX12_winningMove (qL j r) 3 [some (.inr (some 77)), some (.inl a1), some (.inl a2), some (.inl a3), some (.inl a4), none] [] (qL j r, M) (b_X12_winningMove_3 n K3 a1 a2 a3 a4 M) := by
  unfold b_X12_winningMove_3
  refine qr_iload o (q_dm dm_X12_winningMove 2 rfl) rfl ?_
  refine qr_iconst o (q_dm dm_X12_winningMove 3 rfl) ic_3 ?_
  refine qr_icmp_ge (tgt := 64) o (q_dm dm_X12_winningMove 4 rfl) (by decide) ?_ ?_
  · refine qr_iconst o (q_dm dm_X12_winningMove 33 rfl) ic_m1 ?_
    exact qr_iret o rfl rfl (q_dm dm_X12_winningMove 34 rfl)
  · refine qr_iconst o (q_dm dm_X12_winningMove 5 rfl) ic_1 ?_
    refine qs_istore (L' := [some (.inr (some 77)), some (.inl a1), some (.inl a2), some (.inl a3), some (.inl a4), some (.inl (1 : Int32))]) o (q_dm dm_X12_winningMove 6 rfl) (Nat.le_of_ble_eq_true rfl) rfl ?_
    exact qr_loc (q_leS (q_leS (q_leS (q_leS (q_leS (q_leS q_le0)))))) (w_X12_winningMove_12 n j r hj hr o K3 hK3 n a1 a2 a3 a4 (1 : Int32) M)

def f_X12_winningMove_3 (n : Nat) : Nat → Int32 → Int32 → Int32 → Int32 → qM → qR
  | 0, _, _, _, _, _ => none
  | m + 1, a1, a2, a3, a4, M => b_X12_winningMove_3 n (f_X12_winningMove_3 n m) a1 a2 a3 a4 M
theorem w_X12_winningMove_3 {g : qG} {k : qK} (n : Nat) (j r : Nat) (hj : q_isLaw j) (hr : q_isLaw r) (o : qOk g 2 zX12_winningMove k) : ∀ (m : Nat) (a1 a2 a3 a4 : Int32) (M : qM), qAE g k zX12_winningMove (qL j r) 3 [some (.inr (some 77)), some (.inl a1), some (.inl a2), some (.inl a3), some (.inl a4), none] [] (qL j r, M) (f_X12_winningMove_3 n m a1 a2 a3 a4 M) := by
  intro m
  induction m with
  | zero =>
    intro a1 a2 a3 a4 M
    exact qr_none
  | succ m ih =>
    intro a1 a2 a3 a4 M
    exact wb_X12_winningMove_3 n j r hj hr o (f_X12_winningMove_3 n m) ih a1 a2 a3 a4 M
def f_X12_winningMove (n : Nat) (a1 a2 a3 : Int32) (M : qM) : qR :=
  f_X12_winningMove_3 n n a1 a2 a3 (0 : Int32) M
set_option maxRecDepth 4000 in
theorem w_X12_winningMove {g : qG} {k : qK} (n : Nat) (j r : Nat) (hj : q_isLaw j) (hr : q_isLaw r) (o : qOk g 2 zX12_winningMove k) (a1 a2 a3 : Int32) (M : qM) : qAE g k zX12_winningMove (qL j r) 0 [some (.inr (some 77)), some (.inl a1), some (.inl a2), some (.inl a3), none, none] [] (qL j r, M) (f_X12_winningMove n a1 a2 a3 M) := by
  unfold f_X12_winningMove
  refine qr_iconst o (q_dm dm_X12_winningMove 0 rfl) ic_0 ?_
  refine qs_istore (L' := [some (.inr (some 77)), some (.inl a1), some (.inl a2), some (.inl a3), some (.inl (0 : Int32)), none]) o (q_dm dm_X12_winningMove 1 rfl) (Nat.le_of_ble_eq_true rfl) rfl ?_
  exact qr_loc (q_leS (q_leS (q_leS (q_leS (q_leS (q_leN q_le0)))))) (w_X12_winningMove_3 n j r hj hr o n a1 a2 a3 (0 : Int32) M)

theorem a_X12_winningMove (g : qG) (l : Launch) (n : Nat) (j r : Nat) (hj : q_isLaw j) (hr : q_isLaw r) (a1 a2 a3 : Int32) (M : qM) : qAM g l 2 zX12_winningMove (qL j r) [.inr (some 77), .inl a1, .inl a2, .inl a3] (qL j r, M) (f_X12_winningMove n a1 a2 a3 M) :=
  qAM.of zv_X12_winningMove.1 (by show 4 ≤ 6; decide) (fun k hk o => w_X12_winningMove n j r hj hr o a1 a2 a3 M)

def tb_X12_game : List (Nat × Instr × Nat) := [(0, (.iload_n 1, 1)), (1, (.iconst 0, 1)), (2, (.bipush 7, 2)), (4, (.invokestatic 153, 3)), (7, (.ifCond .eq 33, 3)), (10, (.iload_n 2, 1)), (11, (.iconst 0, 1)), (12, (.bipush 7, 2)), (14, (.invokestatic 153, 3)), (17, (.ifCond .eq 23, 3)), (20, (.iload_n 3, 1)), (21, (.iconst 0, 1)), (22, (.bipush 7, 2)), (24, (.invokestatic 153, 3)), (27, (.ifCond .eq 13, 3)), (30, (.iload 6, 2)), (32, (.iconst 0, 1)), (33, (.iconst 1, 1)), (34, (.invokestatic 153, 3)), (37, (.ifCond .ne 5, 3)), (40, (.iconst (-1), 1)), (41, (.ireturn, 1)), (42, (.bipush 64, 2)), (44, (.iload_n 1, 1)), (45, (.imul, 1)), (46, (.bipush 8, 2)), (48, (.iload_n 2, 1)), (49, (.imul, 1)), (50, (.iadd, 1)), (51, (.iload_n 3, 1)), (52, (.iadd, 1)), (53, (.istore 7, 2)), (55, (.iconst 0, 1)), (56, (.istore 8, 2)), (58, (.iload 8, 2)), (60, (.iload 7, 2)), (62, (.if_icmp .gt 125, 3)), (65, (.aload_n 0, 1)), (66, (.getfield 139, 3)), (69, (.iload 8, 2)), (71, (.iconst 1, 1)), (72, (.iconst 1, 1)), (73, (.invokestatic 475, 3)), (76, (.aload_n 0, 1)), (77, (.iload 8, 2)), (79, (.iconst 1, 1)), (80, (.iconst 1, 1)), (81, (.invokevirtual 486, 3)), (84, (.iconst (-1), 1)), (85, (.if_icmp .eq 7, 3)), (88, (.iconst 1, 1)), (89, (.goto 4, 3)), (92, (.iconst 0, 1)), (93, (.bastore, 1)), (94, (.aload_n 0, 1)), (95, (.getfield 139, 3)), (98, (.iload 8, 2)), (100, (.iconst 0, 1)), (101, (.iconst 1, 1)), (102, (.invokestatic 475, 3)), (105, (.aload_n 0, 1)), (106, (.iload 8, 2)), (108, (.iconst 0, 1)), (109, (.iconst 1, 1)), (110, (.invokevirtual 486, 3)), (113, (.iconst (-1), 1)), (114, (.if_icmp .eq 7, 3)), (117, (.iconst 1, 1)), (118, (.goto 4, 3)), (121, (.iconst 0, 1)), (122, (.bastore, 1)), (123, (.aload_n 0, 1)), (124, (.getfield 139, 3)), (127, (.iload 8, 2)), (129, (.iconst 1, 1)), (130, (.iconst 0, 1)), (131, (.invokestatic 475, 3)), (134, (.aload_n 0, 1)), (135, (.iload 8, 2)), (137, (.iconst 1, 1)), (138, (.iconst 0, 1)), (139, (.invokevirtual 486, 3)), (142, (.iconst (-1), 1)), (143, (.if_icmp .eq 7, 3)), (146, (.iconst 1, 1)), (147, (.goto 4, 3)), (150, (.iconst 0, 1)), (151, (.bastore, 1)), (152, (.aload_n 0, 1)), (153, (.getfield 139, 3)), (156, (.iload 8, 2)), (158, (.iconst 0, 1)), (159, (.iconst 0, 1)), (160, (.invokestatic 475, 3)), (163, (.aload_n 0, 1)), (164, (.iload 8, 2)), (166, (.iconst 0, 1)), (167, (.iconst 0, 1)), (168, (.invokevirtual 486, 3)), (171, (.iconst (-1), 1)), (172, (.if_icmp .eq 7, 3)), (175, (.iconst 1, 1)), (176, (.goto 4, 3)), (179, (.iconst 0, 1)), (180, (.bastore, 1)), (181, (.iinc 8 1, 3)), (184, (.goto (-126), 3)), (187, (.aload_n 0, 1)), (188, (.iload 7, 2)), (190, (.iload 4, 2)), (192, (.iload 5, 2)), (194, (.invokevirtual 486, 3)), (197, (.istore 8, 2)), (199, (.iload 6, 2)), (201, (.ifCond .ne 17, 3)), (204, (.iload 8, 2)), (206, (.iconst (-1), 1)), (207, (.if_icmp .ne 7, 3)), (210, (.iconst 0, 1)), (211, (.goto 20, 3)), (214, (.iconst 1, 1)), (215, (.goto 16, 3)), (218, (.iload 8, 2)), (220, (.iconst (-1), 1)), (221, (.if_icmp .ne 8, 3)), (224, (.bipush (-2), 2)), (226, (.goto 5, 3)), (229, (.iload 8, 2)), (231, (.ireturn, 1))]
theorem dm_X12_game : ∀ q ∈ tb_X12_game, decode zX12_game.2.1 q.1 = .ok q.2 := by decide +kernel
def f_X12_game_151 (n : Nat) (K58 : Int32 → Int32 → Int32 → Int32 → Int32 → qM → qR) (a4 a5 a6 a7 a8 s1 s2 : Int32) (M : qM) : qR :=
  qg s1 2048 (qlm (mu M 120 s1.toNatClampNeg (vp_nar .boolean s2)) (fun m1 => qc (f_X12_gameState n a8 (0 : Int32) (0 : Int32) m1) (fun r2 m3 => qc (f_X12_winningMove n a8 (0 : Int32) (0 : Int32) m3) (fun r4 m5 => (if r4 = (-1 : Int32) then qg r2 2048 (qlm (mu m5 120 r2.toNatClampNeg (vp_nar .boolean (0 : Int32))) (fun m6 => ql (a8 + (1 : Int32)) (fun x7 => K58 a4 a5 a6 a7 x7 m6))) else qg r2 2048 (qlm (mu m5 120 r2.toNatClampNeg (vp_nar .boolean (1 : Int32))) (fun m8 => ql (a8 + (1 : Int32)) (fun x9 => K58 a4 a5 a6 a7 x9 m8))))))))
set_option maxRecDepth 4000 in
theorem w_X12_game_151 {g : qG} {k : qK} (n : Nat) (j r : Nat) (hj : q_isLaw j) (hr : q_isLaw r) (o : qOk g 3 zX12_game k) (K58 : Int32 → Int32 → Int32 → Int32 → Int32 → qM → qR) (hK58 : ∀ (a4 a5 a6 a7 a8 : Int32) (M : qM), qAE g k zX12_game (qL j r) 58 [some (.inr (some 77)), none, none, none, some (.inl a4), some (.inl a5), some (.inl a6), some (.inl a7), some (.inl a8)] [] (qL j r, M) (K58 a4 a5 a6 a7 a8 M)) (a4 a5 a6 a7 a8 s1 s2 : Int32) (M : qM) : qAE g k zX12_game (qL j r) 151 [some (.inr (some 77)), none, none, none, some (.inl a4), some (.inl a5), some (.inl a6), some (.inl a7), some (.inl a8)] [.inl s2, .inl s1, .inr (some 120)] (qL j r, M) (f_X12_game_151 n K58 a4 a5 a6 a7 a8 s1 s2 M) := by
  unfold f_X12_game_151
  refine qr_zast o (sh120 j r) (q_dm dm_X12_game 87 rfl) ?_
  refine qr_letm (fun m1 => ?_)
  refine qr_aload_n o (q_dm dm_X12_game 88 rfl) rfl ?_
  refine qr_getr (kf := 66) o cf_X12 (sh77 j r) rfl (Nat.le_of_ble_eq_true rfl) fl_X12_139 (q_dm dm_X12_game 89 rfl) ?_
  refine qr_iload o (q_dm dm_X12_game 90 rfl) rfl ?_
  refine qr_iconst o (q_dm dm_X12_game 91 rfl) ic_0 ?_
  refine qr_iconst o (q_dm dm_X12_game 92 rfl) ic_0 ?_
  refine qr_calls_i (As := [.inl a8, .inl (0 : Int32), .inl (0 : Int32)]) (S := [.inr (some 120)]) o (a_X12_gameState g k.2.1 n j r hj hr a8 (0 : Int32) (0 : Int32) m1) (Nat.le_of_ble_eq_true rfl) zs_X12_gameState rfl ml_X12_475 (Nat.le_of_ble_eq_true rfl) (q_dm dm_X12_game 93 rfl) (fun r2 m3 => ?_)
  refine qr_aload_n o (q_dm dm_X12_game 94 rfl) rfl ?_
  refine qr_iload o (q_dm dm_X12_game 95 rfl) rfl ?_
  refine qr_iconst o (q_dm dm_X12_game 96 rfl) ic_0 ?_
  refine qr_iconst o (q_dm dm_X12_game 97 rfl) ic_0 ?_
  refine qr_callv_i (As := [.inl a8, .inl (0 : Int32), .inl (0 : Int32)]) (S := [.inl r2, .inr (some 120)]) o (a_X12_winningMove g k.2.1 n j r hj hr a8 (0 : Int32) (0 : Int32) m3) (Nat.le_of_ble_eq_true rfl) zv_X12_winningMove rfl cf_X12 (sh77 j r) ml_X12_486 (Nat.le_of_ble_eq_true rfl) (q_dm dm_X12_game 98 rfl) (fun r4 m5 => ?_)
  refine qr_iconst o (q_dm dm_X12_game 99 rfl) ic_m1 ?_
  refine qr_icmp_eq (tgt := 179) o (q_dm dm_X12_game 100 rfl) (by decide) ?_ ?_
  · refine qr_iconst o (q_dm dm_X12_game 103 rfl) ic_0 ?_
    refine qr_zast o (sh120 j r) (q_dm dm_X12_game 104 rfl) ?_
    refine qr_letm (fun m6 => ?_)
    refine qs_iincl2 (L' := fun x7 => [some (.inr (some 77)), none, none, none, some (.inl a4), some (.inl a5), some (.inl a6), some (.inl a7), some (.inl x7)]) o (q_dm dm_X12_game 105 rfl) rfl ic_1 (Nat.le_of_ble_eq_true rfl) (fun _ => rfl) (fun x7 => ?_)
    refine qr_goto (tgt := 58) o (q_dm dm_X12_game 106 rfl) (by decide) ?_
    exact qr_loc (q_leS (q_leN (q_leN (q_leN (q_leS (q_leS (q_leS (q_leS (q_leS q_le0))))))))) (hK58 a4 a5 a6 a7 x7 m6)
  · refine qr_iconst o (q_dm dm_X12_game 101 rfl) ic_1 ?_
    refine qr_goto (tgt := 180) o (q_dm dm_X12_game 102 rfl) (by decide) ?_
    refine qr_zast o (sh120 j r) (q_dm dm_X12_game 104 rfl) ?_
    refine qr_letm (fun m8 => ?_)
    refine qs_iincl2 (L' := fun x9 => [some (.inr (some 77)), none, none, none, some (.inl a4), some (.inl a5), some (.inl a6), some (.inl a7), some (.inl x9)]) o (q_dm dm_X12_game 105 rfl) rfl ic_1 (Nat.le_of_ble_eq_true rfl) (fun _ => rfl) (fun x9 => ?_)
    refine qr_goto (tgt := 58) o (q_dm dm_X12_game 106 rfl) (by decide) ?_
    exact qr_loc (q_leS (q_leN (q_leN (q_leN (q_leS (q_leS (q_leS (q_leS (q_leS q_le0))))))))) (hK58 a4 a5 a6 a7 x9 m8)

def f_X12_game_122 (n : Nat) (K58 : Int32 → Int32 → Int32 → Int32 → Int32 → qM → qR) (a4 a5 a6 a7 a8 s1 s2 : Int32) (M : qM) : qR :=
  qg s1 2048 (qlm (mu M 120 s1.toNatClampNeg (vp_nar .boolean s2)) (fun m1 => qc (f_X12_gameState n a8 (1 : Int32) (0 : Int32) m1) (fun r2 m3 => qc (f_X12_winningMove n a8 (1 : Int32) (0 : Int32) m3) (fun r4 m5 => (if r4 = (-1 : Int32) then f_X12_game_151 n K58 a4 a5 a6 a7 a8 r2 (0 : Int32) m5 else f_X12_game_151 n K58 a4 a5 a6 a7 a8 r2 (1 : Int32) m5)))))
set_option maxRecDepth 4000 in
theorem w_X12_game_122 {g : qG} {k : qK} (n : Nat) (j r : Nat) (hj : q_isLaw j) (hr : q_isLaw r) (o : qOk g 3 zX12_game k) (K58 : Int32 → Int32 → Int32 → Int32 → Int32 → qM → qR) (hK58 : ∀ (a4 a5 a6 a7 a8 : Int32) (M : qM), qAE g k zX12_game (qL j r) 58 [some (.inr (some 77)), none, none, none, some (.inl a4), some (.inl a5), some (.inl a6), some (.inl a7), some (.inl a8)] [] (qL j r, M) (K58 a4 a5 a6 a7 a8 M)) (a4 a5 a6 a7 a8 s1 s2 : Int32) (M : qM) : qAE g k zX12_game (qL j r) 122 [some (.inr (some 77)), none, none, none, some (.inl a4), some (.inl a5), some (.inl a6), some (.inl a7), some (.inl a8)] [.inl s2, .inl s1, .inr (some 120)] (qL j r, M) (f_X12_game_122 n K58 a4 a5 a6 a7 a8 s1 s2 M) := by
  unfold f_X12_game_122
  refine qr_zast o (sh120 j r) (q_dm dm_X12_game 70 rfl) ?_
  refine qr_letm (fun m1 => ?_)
  refine qr_aload_n o (q_dm dm_X12_game 71 rfl) rfl ?_
  refine qr_getr (kf := 66) o cf_X12 (sh77 j r) rfl (Nat.le_of_ble_eq_true rfl) fl_X12_139 (q_dm dm_X12_game 72 rfl) ?_
  refine qr_iload o (q_dm dm_X12_game 73 rfl) rfl ?_
  refine qr_iconst o (q_dm dm_X12_game 74 rfl) ic_1 ?_
  refine qr_iconst o (q_dm dm_X12_game 75 rfl) ic_0 ?_
  refine qr_calls_i (As := [.inl a8, .inl (1 : Int32), .inl (0 : Int32)]) (S := [.inr (some 120)]) o (a_X12_gameState g k.2.1 n j r hj hr a8 (1 : Int32) (0 : Int32) m1) (Nat.le_of_ble_eq_true rfl) zs_X12_gameState rfl ml_X12_475 (Nat.le_of_ble_eq_true rfl) (q_dm dm_X12_game 76 rfl) (fun r2 m3 => ?_)
  refine qr_aload_n o (q_dm dm_X12_game 77 rfl) rfl ?_
  refine qr_iload o (q_dm dm_X12_game 78 rfl) rfl ?_
  refine qr_iconst o (q_dm dm_X12_game 79 rfl) ic_1 ?_
  refine qr_iconst o (q_dm dm_X12_game 80 rfl) ic_0 ?_
  refine qr_callv_i (As := [.inl a8, .inl (1 : Int32), .inl (0 : Int32)]) (S := [.inl r2, .inr (some 120)]) o (a_X12_winningMove g k.2.1 n j r hj hr a8 (1 : Int32) (0 : Int32) m3) (Nat.le_of_ble_eq_true rfl) zv_X12_winningMove rfl cf_X12 (sh77 j r) ml_X12_486 (Nat.le_of_ble_eq_true rfl) (q_dm dm_X12_game 81 rfl) (fun r4 m5 => ?_)
  refine qr_iconst o (q_dm dm_X12_game 82 rfl) ic_m1 ?_
  refine qr_icmp_eq (tgt := 150) o (q_dm dm_X12_game 83 rfl) (by decide) ?_ ?_
  · refine qr_iconst o (q_dm dm_X12_game 86 rfl) ic_0 ?_
    exact qr_loc (q_leS (q_leN (q_leN (q_leN (q_leS (q_leS (q_leS (q_leS (q_leS q_le0))))))))) (w_X12_game_151 n j r hj hr o K58 hK58 a4 a5 a6 a7 a8 r2 (0 : Int32) m5)
  · refine qr_iconst o (q_dm dm_X12_game 84 rfl) ic_1 ?_
    refine qr_goto (tgt := 151) o (q_dm dm_X12_game 85 rfl) (by decide) ?_
    exact qr_loc (q_leS (q_leN (q_leN (q_leN (q_leS (q_leS (q_leS (q_leS (q_leS q_le0))))))))) (w_X12_game_151 n j r hj hr o K58 hK58 a4 a5 a6 a7 a8 r2 (1 : Int32) m5)

def f_X12_game_93 (n : Nat) (K58 : Int32 → Int32 → Int32 → Int32 → Int32 → qM → qR) (a4 a5 a6 a7 a8 s1 s2 : Int32) (M : qM) : qR :=
  qg s1 2048 (qlm (mu M 120 s1.toNatClampNeg (vp_nar .boolean s2)) (fun m1 => qc (f_X12_gameState n a8 (0 : Int32) (1 : Int32) m1) (fun r2 m3 => qc (f_X12_winningMove n a8 (0 : Int32) (1 : Int32) m3) (fun r4 m5 => (if r4 = (-1 : Int32) then f_X12_game_122 n K58 a4 a5 a6 a7 a8 r2 (0 : Int32) m5 else f_X12_game_122 n K58 a4 a5 a6 a7 a8 r2 (1 : Int32) m5)))))
set_option maxRecDepth 4000 in
theorem w_X12_game_93 {g : qG} {k : qK} (n : Nat) (j r : Nat) (hj : q_isLaw j) (hr : q_isLaw r) (o : qOk g 3 zX12_game k) (K58 : Int32 → Int32 → Int32 → Int32 → Int32 → qM → qR) (hK58 : ∀ (a4 a5 a6 a7 a8 : Int32) (M : qM), qAE g k zX12_game (qL j r) 58 [some (.inr (some 77)), none, none, none, some (.inl a4), some (.inl a5), some (.inl a6), some (.inl a7), some (.inl a8)] [] (qL j r, M) (K58 a4 a5 a6 a7 a8 M)) (a4 a5 a6 a7 a8 s1 s2 : Int32) (M : qM) : qAE g k zX12_game (qL j r) 93 [some (.inr (some 77)), none, none, none, some (.inl a4), some (.inl a5), some (.inl a6), some (.inl a7), some (.inl a8)] [.inl s2, .inl s1, .inr (some 120)] (qL j r, M) (f_X12_game_93 n K58 a4 a5 a6 a7 a8 s1 s2 M) := by
  unfold f_X12_game_93
  refine qr_zast o (sh120 j r) (q_dm dm_X12_game 53 rfl) ?_
  refine qr_letm (fun m1 => ?_)
  refine qr_aload_n o (q_dm dm_X12_game 54 rfl) rfl ?_
  refine qr_getr (kf := 66) o cf_X12 (sh77 j r) rfl (Nat.le_of_ble_eq_true rfl) fl_X12_139 (q_dm dm_X12_game 55 rfl) ?_
  refine qr_iload o (q_dm dm_X12_game 56 rfl) rfl ?_
  refine qr_iconst o (q_dm dm_X12_game 57 rfl) ic_0 ?_
  refine qr_iconst o (q_dm dm_X12_game 58 rfl) ic_1 ?_
  refine qr_calls_i (As := [.inl a8, .inl (0 : Int32), .inl (1 : Int32)]) (S := [.inr (some 120)]) o (a_X12_gameState g k.2.1 n j r hj hr a8 (0 : Int32) (1 : Int32) m1) (Nat.le_of_ble_eq_true rfl) zs_X12_gameState rfl ml_X12_475 (Nat.le_of_ble_eq_true rfl) (q_dm dm_X12_game 59 rfl) (fun r2 m3 => ?_)
  refine qr_aload_n o (q_dm dm_X12_game 60 rfl) rfl ?_
  refine qr_iload o (q_dm dm_X12_game 61 rfl) rfl ?_
  refine qr_iconst o (q_dm dm_X12_game 62 rfl) ic_0 ?_
  refine qr_iconst o (q_dm dm_X12_game 63 rfl) ic_1 ?_
  refine qr_callv_i (As := [.inl a8, .inl (0 : Int32), .inl (1 : Int32)]) (S := [.inl r2, .inr (some 120)]) o (a_X12_winningMove g k.2.1 n j r hj hr a8 (0 : Int32) (1 : Int32) m3) (Nat.le_of_ble_eq_true rfl) zv_X12_winningMove rfl cf_X12 (sh77 j r) ml_X12_486 (Nat.le_of_ble_eq_true rfl) (q_dm dm_X12_game 64 rfl) (fun r4 m5 => ?_)
  refine qr_iconst o (q_dm dm_X12_game 65 rfl) ic_m1 ?_
  refine qr_icmp_eq (tgt := 121) o (q_dm dm_X12_game 66 rfl) (by decide) ?_ ?_
  · refine qr_iconst o (q_dm dm_X12_game 69 rfl) ic_0 ?_
    exact qr_loc (q_leS (q_leN (q_leN (q_leN (q_leS (q_leS (q_leS (q_leS (q_leS q_le0))))))))) (w_X12_game_122 n j r hj hr o K58 hK58 a4 a5 a6 a7 a8 r2 (0 : Int32) m5)
  · refine qr_iconst o (q_dm dm_X12_game 67 rfl) ic_1 ?_
    refine qr_goto (tgt := 122) o (q_dm dm_X12_game 68 rfl) (by decide) ?_
    exact qr_loc (q_leS (q_leN (q_leN (q_leN (q_leS (q_leS (q_leS (q_leS (q_leS q_le0))))))))) (w_X12_game_122 n j r hj hr o K58 hK58 a4 a5 a6 a7 a8 r2 (1 : Int32) m5)

def b_X12_game_58 (n : Nat) (K58 : Int32 → Int32 → Int32 → Int32 → Int32 → qM → qR) (a4 a5 a6 a7 a8 : Int32) (M : qM) : qR :=
  (if a7 < a8 then qc (f_X12_winningMove n a7 a4 a5 M) (fun r1 m2 => (if a6 = (0 : Int32) then (if r1 = (-1 : Int32) then some ((0 : Int32), m2) else some ((1 : Int32), m2)) else (if r1 = (-1 : Int32) then some ((-2 : Int32), m2) else some (r1, m2)))) else qc (f_X12_gameState n a8 (1 : Int32) (1 : Int32) M) (fun r3 m4 => qc (f_X12_winningMove n a8 (1 : Int32) (1 : Int32) m4) (fun r5 m6 => (if r5 = (-1 : Int32) then f_X12_game_93 n K58 a4 a5 a6 a7 a8 r3 (0 : Int32) m6 else f_X12_game_93 n K58 a4 a5 a6 a7 a8 r3 (1 : Int32) m6))))
set_option maxRecDepth 4000 in
theorem wb_X12_game_58 {g : qG} {k : qK} (n : Nat) (j r : Nat) (hj : q_isLaw j) (hr : q_isLaw r) (o : qOk g 3 zX12_game k) (K58 : Int32 → Int32 → Int32 → Int32 → Int32 → qM → qR) (hK58 : ∀ (a4 a5 a6 a7 a8 : Int32) (M : qM), qAE g k zX12_game (qL j r) 58 [some (.inr (some 77)), none, none, none, some (.inl a4), some (.inl a5), some (.inl a6), some (.inl a7), some (.inl a8)] [] (qL j r, M) (K58 a4 a5 a6 a7 a8 M)) (a4 a5 a6 a7 a8 : Int32) (M : qM) : qAE g k zX12_game (qL j r) 58 [some (.inr (some 77)), none, none, none, some (.inl a4), some (.inl a5), some (.inl a6), some (.inl a7), some (.inl a8)] [] (qL j r, M) (b_X12_game_58 n K58 a4 a5 a6 a7 a8 M) := by
  unfold b_X12_game_58
  refine qr_iload o (q_dm dm_X12_game 34 rfl) rfl ?_
  refine qr_iload o (q_dm dm_X12_game 35 rfl) rfl ?_
  refine qr_icmp_gt (tgt := 187) o (q_dm dm_X12_game 36 rfl) (by decide) ?_ ?_
  · refine qr_aload_n o (q_dm dm_X12_game 107 rfl) rfl ?_
    refine qr_iload o (q_dm dm_X12_game 108 rfl) rfl ?_
    refine qr_iload o (q_dm dm_X12_game 109 rfl) rfl ?_
    refine qr_iload o (q_dm dm_X12_game 110 rfl) rfl ?_
    refine qr_callv_i (As := [.inl a7, .inl a4, .inl a5]) (S := []) o (a_X12_winningMove g k.2.1 n j r hj hr a7 a4 a5 M) (Nat.le_of_ble_eq_true rfl) zv_X12_winningMove rfl cf_X12 (sh77 j r) ml_X12_486 (Nat.le_of_ble_eq_true rfl) (q_dm dm_X12_game 111 rfl) (fun r1 m2 => ?_)
    refine qs_istore (L' := [some (.inr (some 77)), none, none, none, some (.inl a4), some (.inl a5), some (.inl a6), some (.inl a7), some (.inl r1)]) o (q_dm dm_X12_game 112 rfl) (Nat.le_of_ble_eq_true rfl) rfl ?_
    refine qr_iload o (q_dm dm_X12_game 113 rfl) rfl ?_
    refine qr_if_ne (tgt := 218) o (q_dm dm_X12_game 114 rfl) (by decide) ?_ ?_
    · refine qr_iload o (q_dm dm_X12_game 122 rfl) rfl ?_
      refine qr_iconst o (q_dm dm_X12_game 123 rfl) ic_m1 ?_
      refine qr_icmp_ne (tgt := 229) o (q_dm dm_X12_game 124 rfl) (by decide) ?_ ?_
      · refine qr_iload o (q_dm dm_X12_game 127 rfl) rfl ?_
        exact qr_iret o rfl rfl (q_dm dm_X12_game 128 rfl)
      · refine qr_bipush o (q_dm dm_X12_game 125 rfl) bi_m2 ?_
        refine qr_goto (tgt := 231) o (q_dm dm_X12_game 126 rfl) (by decide) ?_
        exact qr_iret o rfl rfl (q_dm dm_X12_game 128 rfl)
    · refine qr_iload o (q_dm dm_X12_game 115 rfl) rfl ?_
      refine qr_iconst o (q_dm dm_X12_game 116 rfl) ic_m1 ?_
      refine qr_icmp_ne (tgt := 214) o (q_dm dm_X12_game 117 rfl) (by decide) ?_ ?_
      · refine qr_iconst o (q_dm dm_X12_game 120 rfl) ic_1 ?_
        refine qr_goto (tgt := 231) o (q_dm dm_X12_game 121 rfl) (by decide) ?_
        exact qr_iret o rfl rfl (q_dm dm_X12_game 128 rfl)
      · refine qr_iconst o (q_dm dm_X12_game 118 rfl) ic_0 ?_
        refine qr_goto (tgt := 231) o (q_dm dm_X12_game 119 rfl) (by decide) ?_
        exact qr_iret o rfl rfl (q_dm dm_X12_game 128 rfl)
  · refine qr_aload_n o (q_dm dm_X12_game 37 rfl) rfl ?_
    refine qr_getr (kf := 66) o cf_X12 (sh77 j r) rfl (Nat.le_of_ble_eq_true rfl) fl_X12_139 (q_dm dm_X12_game 38 rfl) ?_
    refine qr_iload o (q_dm dm_X12_game 39 rfl) rfl ?_
    refine qr_iconst o (q_dm dm_X12_game 40 rfl) ic_1 ?_
    refine qr_iconst o (q_dm dm_X12_game 41 rfl) ic_1 ?_
    refine qr_calls_i (As := [.inl a8, .inl (1 : Int32), .inl (1 : Int32)]) (S := [.inr (some 120)]) o (a_X12_gameState g k.2.1 n j r hj hr a8 (1 : Int32) (1 : Int32) M) (Nat.le_of_ble_eq_true rfl) zs_X12_gameState rfl ml_X12_475 (Nat.le_of_ble_eq_true rfl) (q_dm dm_X12_game 42 rfl) (fun r3 m4 => ?_)
    refine qr_aload_n o (q_dm dm_X12_game 43 rfl) rfl ?_
    refine qr_iload o (q_dm dm_X12_game 44 rfl) rfl ?_
    refine qr_iconst o (q_dm dm_X12_game 45 rfl) ic_1 ?_
    refine qr_iconst o (q_dm dm_X12_game 46 rfl) ic_1 ?_
    refine qr_callv_i (As := [.inl a8, .inl (1 : Int32), .inl (1 : Int32)]) (S := [.inl r3, .inr (some 120)]) o (a_X12_winningMove g k.2.1 n j r hj hr a8 (1 : Int32) (1 : Int32) m4) (Nat.le_of_ble_eq_true rfl) zv_X12_winningMove rfl cf_X12 (sh77 j r) ml_X12_486 (Nat.le_of_ble_eq_true rfl) (q_dm dm_X12_game 47 rfl) (fun r5 m6 => ?_)
    refine qr_iconst o (q_dm dm_X12_game 48 rfl) ic_m1 ?_
    refine qr_icmp_eq (tgt := 92) o (q_dm dm_X12_game 49 rfl) (by decide) ?_ ?_
    · refine qr_iconst o (q_dm dm_X12_game 52 rfl) ic_0 ?_
      exact qr_loc (q_leS (q_leN (q_leN (q_leN (q_leS (q_leS (q_leS (q_leS (q_leS q_le0))))))))) (w_X12_game_93 n j r hj hr o K58 hK58 a4 a5 a6 a7 a8 r3 (0 : Int32) m6)
    · refine qr_iconst o (q_dm dm_X12_game 50 rfl) ic_1 ?_
      refine qr_goto (tgt := 93) o (q_dm dm_X12_game 51 rfl) (by decide) ?_
      exact qr_loc (q_leS (q_leN (q_leN (q_leN (q_leS (q_leS (q_leS (q_leS (q_leS q_le0))))))))) (w_X12_game_93 n j r hj hr o K58 hK58 a4 a5 a6 a7 a8 r3 (1 : Int32) m6)

def f_X12_game_58 (n : Nat) : Nat → Int32 → Int32 → Int32 → Int32 → Int32 → qM → qR
  | 0, _, _, _, _, _, _ => none
  | m + 1, a4, a5, a6, a7, a8, M => b_X12_game_58 n (f_X12_game_58 n m) a4 a5 a6 a7 a8 M
theorem w_X12_game_58 {g : qG} {k : qK} (n : Nat) (j r : Nat) (hj : q_isLaw j) (hr : q_isLaw r) (o : qOk g 3 zX12_game k) : ∀ (m : Nat) (a4 a5 a6 a7 a8 : Int32) (M : qM), qAE g k zX12_game (qL j r) 58 [some (.inr (some 77)), none, none, none, some (.inl a4), some (.inl a5), some (.inl a6), some (.inl a7), some (.inl a8)] [] (qL j r, M) (f_X12_game_58 n m a4 a5 a6 a7 a8 M) := by
  intro m
  induction m with
  | zero =>
    intro a4 a5 a6 a7 a8 M
    exact qr_none
  | succ m ih =>
    intro a4 a5 a6 a7 a8 M
    exact wb_X12_game_58 n j r hj hr o (f_X12_game_58 n m) ih a4 a5 a6 a7 a8 M
def f_X12_game (n : Nat) (a1 a2 a3 a4 a5 a6 : Int32) (M : qM) : qR :=
  qc (f_X12_in n a1 (0 : Int32) (7 : Int32) M) (fun r1 m2 => (if r1 = (0 : Int32) then some ((-1 : Int32), m2) else qc (f_X12_in n a2 (0 : Int32) (7 : Int32) m2) (fun r3 m4 => (if r3 = (0 : Int32) then some ((-1 : Int32), m4) else qc (f_X12_in n a3 (0 : Int32) (7 : Int32) m4) (fun r5 m6 => (if r5 = (0 : Int32) then some ((-1 : Int32), m6) else qc (f_X12_in n a6 (0 : Int32) (1 : Int32) m6) (fun r7 m8 => (if r7 = (0 : Int32) then some ((-1 : Int32), m8) else ql ((((64 : Int32) * a1) + ((8 : Int32) * a2)) + a3) (fun x9 => f_X12_game_58 n n a4 a5 a6 x9 (0 : Int32) m8)))))))))
set_option maxRecDepth 4000 in
theorem w_X12_game {g : qG} {k : qK} (n : Nat) (j r : Nat) (hj : q_isLaw j) (hr : q_isLaw r) (o : qOk g 3 zX12_game k) (a1 a2 a3 a4 a5 a6 : Int32) (M : qM) : qAE g k zX12_game (qL j r) 0 [some (.inr (some 77)), some (.inl a1), some (.inl a2), some (.inl a3), some (.inl a4), some (.inl a5), some (.inl a6), none, none] [] (qL j r, M) (f_X12_game n a1 a2 a3 a4 a5 a6 M) := by
  unfold f_X12_game
  refine qr_iload_n o (q_dm dm_X12_game 0 rfl) rfl ?_
  refine qr_iconst o (q_dm dm_X12_game 1 rfl) ic_0 ?_
  refine qr_bipush o (q_dm dm_X12_game 2 rfl) bi_7 ?_
  refine qr_calls_i (As := [.inl a1, .inl (0 : Int32), .inl (7 : Int32)]) (S := []) o (a_X12_in g k.2.1 n j r hj hr a1 (0 : Int32) (7 : Int32) M) (Nat.le_of_ble_eq_true rfl) zs_X12_in rfl ml_X12_153 (Nat.le_of_ble_eq_true rfl) (q_dm dm_X12_game 3 rfl) (fun r1 m2 => ?_)
  refine qr_if_eq (tgt := 40) o (q_dm dm_X12_game 4 rfl) (by decide) ?_ ?_
  · refine qr_iconst o (q_dm dm_X12_game 20 rfl) ic_m1 ?_
    exact qr_iret o rfl rfl (q_dm dm_X12_game 21 rfl)
  · refine qr_iload_n o (q_dm dm_X12_game 5 rfl) rfl ?_
    refine qr_iconst o (q_dm dm_X12_game 6 rfl) ic_0 ?_
    refine qr_bipush o (q_dm dm_X12_game 7 rfl) bi_7 ?_
    refine qr_calls_i (As := [.inl a2, .inl (0 : Int32), .inl (7 : Int32)]) (S := []) o (a_X12_in g k.2.1 n j r hj hr a2 (0 : Int32) (7 : Int32) m2) (Nat.le_of_ble_eq_true rfl) zs_X12_in rfl ml_X12_153 (Nat.le_of_ble_eq_true rfl) (q_dm dm_X12_game 8 rfl) (fun r3 m4 => ?_)
    refine qr_if_eq (tgt := 40) o (q_dm dm_X12_game 9 rfl) (by decide) ?_ ?_
    · refine qr_iconst o (q_dm dm_X12_game 20 rfl) ic_m1 ?_
      exact qr_iret o rfl rfl (q_dm dm_X12_game 21 rfl)
    · refine qr_iload_n o (q_dm dm_X12_game 10 rfl) rfl ?_
      refine qr_iconst o (q_dm dm_X12_game 11 rfl) ic_0 ?_
      refine qr_bipush o (q_dm dm_X12_game 12 rfl) bi_7 ?_
      refine qr_calls_i (As := [.inl a3, .inl (0 : Int32), .inl (7 : Int32)]) (S := []) o (a_X12_in g k.2.1 n j r hj hr a3 (0 : Int32) (7 : Int32) m4) (Nat.le_of_ble_eq_true rfl) zs_X12_in rfl ml_X12_153 (Nat.le_of_ble_eq_true rfl) (q_dm dm_X12_game 13 rfl) (fun r5 m6 => ?_)
      refine qr_if_eq (tgt := 40) o (q_dm dm_X12_game 14 rfl) (by decide) ?_ ?_
      · refine qr_iconst o (q_dm dm_X12_game 20 rfl) ic_m1 ?_
        exact qr_iret o rfl rfl (q_dm dm_X12_game 21 rfl)
      · refine qr_iload o (q_dm dm_X12_game 15 rfl) rfl ?_
        refine qr_iconst o (q_dm dm_X12_game 16 rfl) ic_0 ?_
        refine qr_iconst o (q_dm dm_X12_game 17 rfl) ic_1 ?_
        refine qr_calls_i (As := [.inl a6, .inl (0 : Int32), .inl (1 : Int32)]) (S := []) o (a_X12_in g k.2.1 n j r hj hr a6 (0 : Int32) (1 : Int32) m6) (Nat.le_of_ble_eq_true rfl) zs_X12_in rfl ml_X12_153 (Nat.le_of_ble_eq_true rfl) (q_dm dm_X12_game 18 rfl) (fun r7 m8 => ?_)
        refine qr_if_ne (tgt := 42) o (q_dm dm_X12_game 19 rfl) (by decide) ?_ ?_
        · refine qr_bipush o (q_dm dm_X12_game 22 rfl) bi_64 ?_
          refine qr_iload_n o (q_dm dm_X12_game 23 rfl) rfl ?_
          refine qr_imul o (q_dm dm_X12_game 24 rfl) ?_
          refine qr_bipush o (q_dm dm_X12_game 25 rfl) bi_8 ?_
          refine qr_iload_n o (q_dm dm_X12_game 26 rfl) rfl ?_
          refine qr_imul o (q_dm dm_X12_game 27 rfl) ?_
          refine qr_iadd o (q_dm dm_X12_game 28 rfl) ?_
          refine qr_iload_n o (q_dm dm_X12_game 29 rfl) rfl ?_
          refine qr_iadd o (q_dm dm_X12_game 30 rfl) ?_
          refine qr_lt (fun x9 => ?_)
          refine qs_istore (L' := [some (.inr (some 77)), some (.inl a1), some (.inl a2), some (.inl a3), some (.inl a4), some (.inl a5), some (.inl a6), some (.inl x9), none]) o (q_dm dm_X12_game 31 rfl) (Nat.le_of_ble_eq_true rfl) rfl ?_
          refine qr_iconst o (q_dm dm_X12_game 32 rfl) ic_0 ?_
          refine qs_istore (L' := [some (.inr (some 77)), some (.inl a1), some (.inl a2), some (.inl a3), some (.inl a4), some (.inl a5), some (.inl a6), some (.inl x9), some (.inl (0 : Int32))]) o (q_dm dm_X12_game 33 rfl) (Nat.le_of_ble_eq_true rfl) rfl ?_
          exact qr_loc (q_leS (q_leN (q_leN (q_leN (q_leS (q_leS (q_leS (q_leS (q_leS q_le0))))))))) (w_X12_game_58 n j r hj hr o n a4 a5 a6 x9 (0 : Int32) m8)
        · refine qr_iconst o (q_dm dm_X12_game 20 rfl) ic_m1 ?_
          exact qr_iret o rfl rfl (q_dm dm_X12_game 21 rfl)

theorem a_X12_game (g : qG) (l : Launch) (n : Nat) (j r : Nat) (hj : q_isLaw j) (hr : q_isLaw r) (a1 a2 a3 a4 a5 a6 : Int32) (M : qM) : qAM g l 3 zX12_game (qL j r) [.inr (some 77), .inl a1, .inl a2, .inl a3, .inl a4, .inl a5, .inl a6] (qL j r, M) (f_X12_game n a1 a2 a3 a4 a5 a6 M) :=
  qAM.of zv_X12_game.1 (by show 7 ≤ 9; decide) (fun k hk o => w_X12_game n j r hj hr o a1 a2 a3 a4 a5 a6 M)
def tb_X12_pastCounts : List (Nat × Instr × Nat) := [(0, (.iconst 0, 1)), (1, (.istore_n 3, 1)), (2, (.iconst 0, 1)), (3, (.istore 4, 2)), (5, (.iload 4, 2)), (7, (.aload_n 0, 1)), (8, (.getfield 454, 3)), (11, (.if_icmp .ge 33, 3)), (14, (.aload_n 0, 1)), (15, (.getfield 130, 3)), (18, (.iload_n 1, 1)), (19, (.iaload, 1)), (20, (.iload 4, 2)), (22, (.invokestatic 149, 3)), (25, (.ifCond .eq 13, 3)), (28, (.iload_n 3, 1)), (29, (.aload_n 0, 1)), (30, (.getfield 133, 3)), (33, (.iload 4, 2)), (35, (.iaload, 1)), (36, (.iadd, 1)), (37, (.istore_n 3, 1)), (38, (.iinc 4 1, 3)), (41, (.goto (-36), 3)), (44, (.iload_n 3, 1)), (45, (.iload_n 2, 1)), (46, (.if_icmp .lt 7, 3)), (49, (.iconst 1, 1)), (50, (.goto 4, 3)), (53, (.iconst 0, 1)), (54, (.ireturn, 1))]
theorem dm_X12_pastCounts : ∀ q ∈ tb_X12_pastCounts, decode zX12_pastCounts.2.1 q.1 = .ok q.2 := by decide +kernel
def b_X12_pastCounts_5 (n : Nat) (K5 : Int32 → Int32 → Int32 → Int32 → qM → qR) (a1 a2 a3 a4 : Int32) (M : qM) : qR :=
  (if (M 77 61) ≤ a4 then (if a3 < a2 then some ((0 : Int32), M) else some ((1 : Int32), M)) else qg a1 4 (qc (f_X12_has0 n (M 117 a1.toNatClampNeg) a4 M) (fun r1 m2 => (if r1 = (0 : Int32) then ql (a4 + (1 : Int32)) (fun x3 => K5 a1 a2 a3 x3 m2) else qg a4 4 (ql (a3 + (m2 118 a4.toNatClampNeg)) (fun x4 => ql (a4 + (1 : Int32)) (fun x5 => K5 a1 a2 x4 x5 m2)))))))
set_option maxRecDepth 4000 in
theorem wb_X12_pastCounts_5 {g : qG} {k : qK} (n : Nat) (j r : Nat) (hj : q_isLaw j) (hr : q_isLaw r) (o : qOk g 1 zX12_pastCounts k) (K5 : Int32 → Int32 → Int32 → Int32 → qM → qR) (hK5 : ∀ (a1 a2 a3 a4 : Int32) (M : qM), qAE g k zX12_pastCounts (qL j r) 5 [some (.inr (some 77)), some (.inl a1), some (.inl a2), some (.inl a3), some (.inl a4)] [] (qL j r, M) (K5 a1 a2 a3 a4 M)) (a1 a2 a3 a4 : Int32) (M : qM) : qAE g k zX12_pastCounts (qL j r) 5 [some (.inr (some 77)), some (.inl a1), some (.inl a2), some (.inl a3), some (.inl a4)] [] (qL j r, M) (b_X12_pastCounts_5 n K5 a1 a2 a3 a4 M) := by
  unfold b_X12_pastCounts_5
  refine qr_iload o (q_dm dm_X12_pastCounts 4 rfl) rfl ?_
  refine qr_aload_n o (q_dm dm_X12_pastCounts 5 rfl) rfl ?_
  refine qr_getf (kf := 61) o cf_X12 (sh77 j r) rfl (Nat.le_of_ble_eq_true rfl) fl_X12_454 (q_dm dm_X12_pastCounts 6 rfl) ?_
  refine qr_icmp_ge (tgt := 44) o (q_dm dm_X12_pastCounts 7 rfl) (by decide) ?_ ?_
  · refine qr_iload_n o (q_dm dm_X12_pastCounts 24 rfl) rfl ?_
    refine qr_iload_n o (q_dm dm_X12_pastCounts 25 rfl) rfl ?_
    refine qr_icmp_lt (tgt := 53) o (q_dm dm_X12_pastCounts 26 rfl) (by decide) ?_ ?_
    · refine qr_iconst o (q_dm dm_X12_pastCounts 29 rfl) ic_0 ?_
      exact qr_iret o rfl (by decide) (q_dm dm_X12_pastCounts 30 rfl)
    · refine qr_iconst o (q_dm dm_X12_pastCounts 27 rfl) ic_1 ?_
      refine qr_goto (tgt := 54) o (q_dm dm_X12_pastCounts 28 rfl) (by decide) ?_
      exact qr_iret o rfl (by decide) (q_dm dm_X12_pastCounts 30 rfl)
  · refine qr_aload_n o (q_dm dm_X12_pastCounts 8 rfl) rfl ?_
    refine qr_getr (kf := 63) o cf_X12 (sh77 j r) rfl (Nat.le_of_ble_eq_true rfl) fl_X12_130 (q_dm dm_X12_pastCounts 9 rfl) ?_
    refine qr_iload_n o (q_dm dm_X12_pastCounts 10 rfl) rfl ?_
    refine qr_iald o (sh117 j r) (q_dm dm_X12_pastCounts 11 rfl) ?_
    refine qr_iload o (q_dm dm_X12_pastCounts 12 rfl) rfl ?_
    refine qr_calls_i (As := [.inl (M 117 a1.toNatClampNeg), .inl a4]) (S := []) o (a_X12_has0 g k.2.1 n j r hj hr (M 117 a1.toNatClampNeg) a4 M) (Nat.le_of_ble_eq_true rfl) zs_X12_has0 rfl ml_X12_149 (Nat.le_of_ble_eq_true rfl) (q_dm dm_X12_pastCounts 13 rfl) (fun r1 m2 => ?_)
    refine qr_if_eq (tgt := 38) o (q_dm dm_X12_pastCounts 14 rfl) (by decide) ?_ ?_
    · refine qs_iincl2 (L' := fun x3 => [some (.inr (some 77)), some (.inl a1), some (.inl a2), some (.inl a3), some (.inl x3)]) o (q_dm dm_X12_pastCounts 22 rfl) rfl ic_1 (Nat.le_of_ble_eq_true rfl) (fun _ => rfl) (fun x3 => ?_)
      refine qr_goto (tgt := 5) o (q_dm dm_X12_pastCounts 23 rfl) (by decide) ?_
      exact qr_loc (q_leS (q_leS (q_leS (q_leS (q_leS q_le0))))) (hK5 a1 a2 a3 x3 m2)
    · refine qr_iload_n o (q_dm dm_X12_pastCounts 15 rfl) rfl ?_
      refine qr_aload_n o (q_dm dm_X12_pastCounts 16 rfl) rfl ?_
      refine qr_getr (kf := 64) o cf_X12 (sh77 j r) rfl (Nat.le_of_ble_eq_true rfl) fl_X12_133 (q_dm dm_X12_pastCounts 17 rfl) ?_
      refine qr_iload o (q_dm dm_X12_pastCounts 18 rfl) rfl ?_
      refine qr_iald o (sh118 j r) (q_dm dm_X12_pastCounts 19 rfl) ?_
      refine qr_iadd o (q_dm dm_X12_pastCounts 20 rfl) ?_
      refine qr_lt (fun x4 => ?_)
      refine qs_istore_n (L' := [some (.inr (some 77)), some (.inl a1), some (.inl a2), some (.inl x4), some (.inl a4)]) o (q_dm dm_X12_pastCounts 21 rfl) (Nat.le_of_ble_eq_true rfl) rfl ?_
      refine qs_iincl2 (L' := fun x5 => [some (.inr (some 77)), some (.inl a1), some (.inl a2), some (.inl x4), some (.inl x5)]) o (q_dm dm_X12_pastCounts 22 rfl) rfl ic_1 (Nat.le_of_ble_eq_true rfl) (fun _ => rfl) (fun x5 => ?_)
      refine qr_goto (tgt := 5) o (q_dm dm_X12_pastCounts 23 rfl) (by decide) ?_
      exact qr_loc (q_leS (q_leS (q_leS (q_leS (q_leS q_le0))))) (hK5 a1 a2 x4 x5 m2)

def f_X12_pastCounts_5 (n : Nat) : Nat → Int32 → Int32 → Int32 → Int32 → qM → qR
  | 0, _, _, _, _, _ => none
  | m + 1, a1, a2, a3, a4, M => b_X12_pastCounts_5 n (f_X12_pastCounts_5 n m) a1 a2 a3 a4 M
theorem w_X12_pastCounts_5 {g : qG} {k : qK} (n : Nat) (j r : Nat) (hj : q_isLaw j) (hr : q_isLaw r) (o : qOk g 1 zX12_pastCounts k) : ∀ (m : Nat) (a1 a2 a3 a4 : Int32) (M : qM), qAE g k zX12_pastCounts (qL j r) 5 [some (.inr (some 77)), some (.inl a1), some (.inl a2), some (.inl a3), some (.inl a4)] [] (qL j r, M) (f_X12_pastCounts_5 n m a1 a2 a3 a4 M) := by
  intro m
  induction m with
  | zero =>
    intro a1 a2 a3 a4 M
    exact qr_none
  | succ m ih =>
    intro a1 a2 a3 a4 M
    exact wb_X12_pastCounts_5 n j r hj hr o (f_X12_pastCounts_5 n m) ih a1 a2 a3 a4 M
def f_X12_pastCounts (n : Nat) (a1 a2 : Int32) (M : qM) : qR :=
  f_X12_pastCounts_5 n n a1 a2 (0 : Int32) (0 : Int32) M
set_option maxRecDepth 4000 in
theorem w_X12_pastCounts {g : qG} {k : qK} (n : Nat) (j r : Nat) (hj : q_isLaw j) (hr : q_isLaw r) (o : qOk g 1 zX12_pastCounts k) (a1 a2 : Int32) (M : qM) : qAE g k zX12_pastCounts (qL j r) 0 [some (.inr (some 77)), some (.inl a1), some (.inl a2), none, none] [] (qL j r, M) (f_X12_pastCounts n a1 a2 M) := by
  unfold f_X12_pastCounts
  refine qr_iconst o (q_dm dm_X12_pastCounts 0 rfl) ic_0 ?_
  refine qs_istore_n (L' := [some (.inr (some 77)), some (.inl a1), some (.inl a2), some (.inl (0 : Int32)), none]) o (q_dm dm_X12_pastCounts 1 rfl) (Nat.le_of_ble_eq_true rfl) rfl ?_
  refine qr_iconst o (q_dm dm_X12_pastCounts 2 rfl) ic_0 ?_
  refine qs_istore (L' := [some (.inr (some 77)), some (.inl a1), some (.inl a2), some (.inl (0 : Int32)), some (.inl (0 : Int32))]) o (q_dm dm_X12_pastCounts 3 rfl) (Nat.le_of_ble_eq_true rfl) rfl ?_
  exact qr_loc (q_leS (q_leS (q_leS (q_leS (q_leS q_le0))))) (w_X12_pastCounts_5 n j r hj hr o n a1 a2 (0 : Int32) (0 : Int32) M)

theorem a_X12_pastCounts (g : qG) (l : Launch) (n : Nat) (j r : Nat) (hj : q_isLaw j) (hr : q_isLaw r) (a1 a2 : Int32) (M : qM) : qAM g l 1 zX12_pastCounts (qL j r) [.inr (some 77), .inl a1, .inl a2] (qL j r, M) (f_X12_pastCounts n a1 a2 M) :=
  qAM.of zv_X12_pastCounts.1 (by show 3 ≤ 5; decide) (fun k hk o => w_X12_pastCounts n j r hj hr o a1 a2 M)
def tb_X12_goesWith : List (Nat × Instr × Nat) := [(0, (.aload_n 0, 1)), (1, (.iload_n 1, 1)), (2, (.invokevirtual 457, 3)), (5, (.iconst 0, 1)), (6, (.istore 4, 2)), (8, (.iload 4, 2)), (10, (.iload_n 2, 1)), (11, (.if_icmp .ge 78, 3)), (14, (.aload_n 0, 1)), (15, (.getfield 28, 3)), (18, (.aload_n 0, 1)), (19, (.getfield 454, 3)), (22, (.iconst 2, 1)), (23, (.iload 4, 2)), (25, (.imul, 1)), (26, (.iadd, 1)), (27, (.baload, 1)), (28, (.istore 5, 2)), (30, (.aload_n 0, 1)), (31, (.iload 5, 2)), (33, (.iload_n 3, 1)), (34, (.invokevirtual 460, 3)), (37, (.aload_n 0, 1)), (38, (.getfield 28, 3)), (41, (.aload_n 0, 1)), (42, (.getfield 454, 3)), (45, (.iconst 2, 1)), (46, (.iload 4, 2)), (48, (.imul, 1)), (49, (.iadd, 1)), (50, (.iconst 1, 1)), (51, (.iadd, 1)), (52, (.baload, 1)), (53, (.iconst 1, 1)), (54, (.if_icmp .ne 7, 3)), (57, (.iconst 1, 1)), (58, (.goto 4, 3)), (61, (.iconst 0, 1)), (62, (.if_icmp .eq 5, 3)), (65, (.iconst 0, 1)), (66, (.ireturn, 1)), (67, (.aload_n 0, 1)), (68, (.getfield 133, 3)), (71, (.iload 5, 2)), (73, (.aload_n 0, 1)), (74, (.getfield 133, 3)), (77, (.iload 5, 2)), (79, (.iaload, 1)), (80, (.iconst 1, 1)), (81, (.iadd, 1)), (82, (.iastore, 1)), (83, (.iinc 4 1, 3)), (86, (.goto (-78), 3)), (89, (.iconst 1, 1)), (90, (.ireturn, 1))]
theorem dm_X12_goesWith : ∀ q ∈ tb_X12_goesWith, decode zX12_goesWith.2.1 q.1 = .ok q.2 := by decide +kernel
def f_X12_goesWith_62 (n : Nat) (K8 : Int32 → Int32 → Int32 → qM → qR) (a2 a3 a4 a5 s0 s1 : Int32) (M : qM) : qR :=
  (if s0 = s1 then qg a5 4 (qg a5 4 (qlm (mu M 118 a5.toNatClampNeg ((M 118 a5.toNatClampNeg) + (1 : Int32))) (fun m1 => ql (a4 + (1 : Int32)) (fun x2 => K8 a2 a3 x2 m1)))) else some ((0 : Int32), M))
set_option maxRecDepth 4000 in
theorem w_X12_goesWith_62 {g : qG} {k : qK} (n : Nat) (j r : Nat) (hj : q_isLaw j) (hr : q_isLaw r) (o : qOk g 2 zX12_goesWith k) (K8 : Int32 → Int32 → Int32 → qM → qR) (hK8 : ∀ (a2 a3 a4 : Int32) (M : qM), qAE g k zX12_goesWith (qL j r) 8 [some (.inr (some 77)), none, some (.inl a2), some (.inl a3), some (.inl a4), none] [] (qL j r, M) (K8 a2 a3 a4 M)) (a2 a3 a4 a5 s0 s1 : Int32) (M : qM) : qAE g k zX12_goesWith (qL j r) 62 [some (.inr (some 77)), none, some (.inl a2), some (.inl a3), some (.inl a4), some (.inl a5)] [.inl s1, .inl s0] (qL j r, M) (f_X12_goesWith_62 n K8 a2 a3 a4 a5 s0 s1 M) := by
  unfold f_X12_goesWith_62
  refine qr_icmp_eq (tgt := 67) o (q_dm dm_X12_goesWith 38 rfl) (by decide) ?_ ?_
  · refine qr_aload_n o (q_dm dm_X12_goesWith 41 rfl) rfl ?_
    refine qr_getr (kf := 64) o cf_X12 (sh77 j r) rfl (Nat.le_of_ble_eq_true rfl) fl_X12_133 (q_dm dm_X12_goesWith 42 rfl) ?_
    refine qr_iload o (q_dm dm_X12_goesWith 43 rfl) rfl ?_
    refine qr_aload_n o (q_dm dm_X12_goesWith 44 rfl) rfl ?_
    refine qr_getr (kf := 64) o cf_X12 (sh77 j r) rfl (Nat.le_of_ble_eq_true rfl) fl_X12_133 (q_dm dm_X12_goesWith 45 rfl) ?_
    refine qr_iload o (q_dm dm_X12_goesWith 46 rfl) rfl ?_
    refine qr_iald o (sh118 j r) (q_dm dm_X12_goesWith 47 rfl) ?_
    refine qr_iconst o (q_dm dm_X12_goesWith 48 rfl) ic_1 ?_
    refine qr_iadd o (q_dm dm_X12_goesWith 49 rfl) ?_
    refine qr_iast o (sh118 j r) (q_dm dm_X12_goesWith 50 rfl) ?_
    refine qr_letm (fun m1 => ?_)
    refine qs_iincl2 (L' := fun x2 => [some (.inr (some 77)), none, some (.inl a2), some (.inl a3), some (.inl x2), some (.inl a5)]) o (q_dm dm_X12_goesWith 51 rfl) rfl ic_1 (Nat.le_of_ble_eq_true rfl) (fun _ => rfl) (fun x2 => ?_)
    refine qr_goto (tgt := 8) o (q_dm dm_X12_goesWith 52 rfl) (by decide) ?_
    exact qr_loc (q_leS (q_leN (q_leS (q_leS (q_leS (q_leN q_le0)))))) (hK8 a2 a3 x2 m1)
  · refine qr_iconst o (q_dm dm_X12_goesWith 39 rfl) ic_0 ?_
    exact qr_iret o rfl (by decide) (q_dm dm_X12_goesWith 40 rfl)

def b_X12_goesWith_8 (n : Nat) (K8 : Int32 → Int32 → Int32 → qM → qR) (a2 a3 a4 : Int32) (M : qM) : qR :=
  (if a2 ≤ a4 then some ((1 : Int32), M) else qg ((M 77 61) + ((2 : Int32) * a4)) 260 (ql (M 84 ((M 77 61) + ((2 : Int32) * a4)).toNatClampNeg) (fun x1 => qc (f_X12_pastCounts n x1 a3 M) (fun r2 m3 => qg (((m3 77 61) + ((2 : Int32) * a4)) + (1 : Int32)) 260 ((if (m3 84 (((m3 77 61) + ((2 : Int32) * a4)) + (1 : Int32)).toNatClampNeg) = (1 : Int32) then f_X12_goesWith_62 n K8 a2 a3 a4 x1 r2 (1 : Int32) m3 else f_X12_goesWith_62 n K8 a2 a3 a4 x1 r2 (0 : Int32) m3))))))
set_option maxRecDepth 4000 in
theorem wb_X12_goesWith_8 {g : qG} {k : qK} (n : Nat) (j r : Nat) (hj : q_isLaw j) (hr : q_isLaw r) (o : qOk g 2 zX12_goesWith k) (K8 : Int32 → Int32 → Int32 → qM → qR) (hK8 : ∀ (a2 a3 a4 : Int32) (M : qM), qAE g k zX12_goesWith (qL j r) 8 [some (.inr (some 77)), none, some (.inl a2), some (.inl a3), some (.inl a4), none] [] (qL j r, M) (K8 a2 a3 a4 M)) (a2 a3 a4 : Int32) (M : qM) : qAE g k zX12_goesWith (qL j r) 8 [some (.inr (some 77)), none, some (.inl a2), some (.inl a3), some (.inl a4), none] [] (qL j r, M) (b_X12_goesWith_8 n K8 a2 a3 a4 M) := by
  unfold b_X12_goesWith_8
  refine qr_iload o (q_dm dm_X12_goesWith 5 rfl) rfl ?_
  refine qr_iload_n o (q_dm dm_X12_goesWith 6 rfl) rfl ?_
  refine qr_icmp_ge (tgt := 89) o (q_dm dm_X12_goesWith 7 rfl) (by decide) ?_ ?_
  · refine qr_iconst o (q_dm dm_X12_goesWith 53 rfl) ic_1 ?_
    exact qr_iret o rfl (by decide) (q_dm dm_X12_goesWith 54 rfl)
  · refine qr_aload_n o (q_dm dm_X12_goesWith 8 rfl) rfl ?_
    refine qr_getr (kf := 7) o cf_X12 (sh77 j r) rfl (Nat.le_of_ble_eq_true rfl) fl_X12_28 (q_dm dm_X12_goesWith 9 rfl) ?_
    refine qr_aload_n o (q_dm dm_X12_goesWith 10 rfl) rfl ?_
    refine qr_getf (kf := 61) o cf_X12 (sh77 j r) rfl (Nat.le_of_ble_eq_true rfl) fl_X12_454 (q_dm dm_X12_goesWith 11 rfl) ?_
    refine qr_iconst o (q_dm dm_X12_goesWith 12 rfl) ic_2 ?_
    refine qr_iload o (q_dm dm_X12_goesWith 13 rfl) rfl ?_
    refine qr_imul o (q_dm dm_X12_goesWith 14 rfl) ?_
    refine qr_iadd o (q_dm dm_X12_goesWith 15 rfl) ?_
    refine qr_bald o (sh84 j r) (q_dm dm_X12_goesWith 16 rfl) ?_
    refine qr_lt (fun x1 => ?_)
    refine qs_istore (L' := [some (.inr (some 77)), none, some (.inl a2), some (.inl a3), some (.inl a4), some (.inl x1)]) o (q_dm dm_X12_goesWith 17 rfl) (Nat.le_of_ble_eq_true rfl) rfl ?_
    refine qr_aload_n o (q_dm dm_X12_goesWith 18 rfl) rfl ?_
    refine qr_iload o (q_dm dm_X12_goesWith 19 rfl) rfl ?_
    refine qr_iload_n o (q_dm dm_X12_goesWith 20 rfl) rfl ?_
    refine qr_callv_i (As := [.inl x1, .inl a3]) (S := []) o (a_X12_pastCounts g k.2.1 n j r hj hr x1 a3 M) (Nat.le_of_ble_eq_true rfl) zv_X12_pastCounts rfl cf_X12 (sh77 j r) ml_X12_460 (Nat.le_of_ble_eq_true rfl) (q_dm dm_X12_goesWith 21 rfl) (fun r2 m3 => ?_)
    refine qr_aload_n o (q_dm dm_X12_goesWith 22 rfl) rfl ?_
    refine qr_getr (kf := 7) o cf_X12 (sh77 j r) rfl (Nat.le_of_ble_eq_true rfl) fl_X12_28 (q_dm dm_X12_goesWith 23 rfl) ?_
    refine qr_aload_n o (q_dm dm_X12_goesWith 24 rfl) rfl ?_
    refine qr_getf (kf := 61) o cf_X12 (sh77 j r) rfl (Nat.le_of_ble_eq_true rfl) fl_X12_454 (q_dm dm_X12_goesWith 25 rfl) ?_
    refine qr_iconst o (q_dm dm_X12_goesWith 26 rfl) ic_2 ?_
    refine qr_iload o (q_dm dm_X12_goesWith 27 rfl) rfl ?_
    refine qr_imul o (q_dm dm_X12_goesWith 28 rfl) ?_
    refine qr_iadd o (q_dm dm_X12_goesWith 29 rfl) ?_
    refine qr_iconst o (q_dm dm_X12_goesWith 30 rfl) ic_1 ?_
    refine qr_iadd o (q_dm dm_X12_goesWith 31 rfl) ?_
    refine qr_bald o (sh84 j r) (q_dm dm_X12_goesWith 32 rfl) ?_
    refine qr_iconst o (q_dm dm_X12_goesWith 33 rfl) ic_1 ?_
    refine qr_icmp_ne (tgt := 61) o (q_dm dm_X12_goesWith 34 rfl) (by decide) ?_ ?_
    · refine qr_iconst o (q_dm dm_X12_goesWith 37 rfl) ic_0 ?_
      exact qr_loc (q_leS (q_leN (q_leS (q_leS (q_leS (q_leS q_le0)))))) (w_X12_goesWith_62 n j r hj hr o K8 hK8 a2 a3 a4 x1 r2 (0 : Int32) m3)
    · refine qr_iconst o (q_dm dm_X12_goesWith 35 rfl) ic_1 ?_
      refine qr_goto (tgt := 62) o (q_dm dm_X12_goesWith 36 rfl) (by decide) ?_
      exact qr_loc (q_leS (q_leN (q_leS (q_leS (q_leS (q_leS q_le0)))))) (w_X12_goesWith_62 n j r hj hr o K8 hK8 a2 a3 a4 x1 r2 (1 : Int32) m3)

def f_X12_goesWith_8 (n : Nat) : Nat → Int32 → Int32 → Int32 → qM → qR
  | 0, _, _, _, _ => none
  | m + 1, a2, a3, a4, M => b_X12_goesWith_8 n (f_X12_goesWith_8 n m) a2 a3 a4 M
theorem w_X12_goesWith_8 {g : qG} {k : qK} (n : Nat) (j r : Nat) (hj : q_isLaw j) (hr : q_isLaw r) (o : qOk g 2 zX12_goesWith k) : ∀ (m : Nat) (a2 a3 a4 : Int32) (M : qM), qAE g k zX12_goesWith (qL j r) 8 [some (.inr (some 77)), none, some (.inl a2), some (.inl a3), some (.inl a4), none] [] (qL j r, M) (f_X12_goesWith_8 n m a2 a3 a4 M) := by
  intro m
  induction m with
  | zero =>
    intro a2 a3 a4 M
    exact qr_none
  | succ m ih =>
    intro a2 a3 a4 M
    exact wb_X12_goesWith_8 n j r hj hr o (f_X12_goesWith_8 n m) ih a2 a3 a4 M
def f_X12_goesWith (n : Nat) (a1 a2 a3 : Int32) (M : qM) : qR :=
  qc (f_X12_begins n a1 M) (fun _ m1 => f_X12_goesWith_8 n n a2 a3 (0 : Int32) m1)
set_option maxRecDepth 4000 in
theorem w_X12_goesWith {g : qG} {k : qK} (n : Nat) (j r : Nat) (hj : q_isLaw j) (hr : q_isLaw r) (o : qOk g 2 zX12_goesWith k) (a1 a2 a3 : Int32) (M : qM) : qAE g k zX12_goesWith (qL j r) 0 [some (.inr (some 77)), some (.inl a1), some (.inl a2), some (.inl a3), none, none] [] (qL j r, M) (f_X12_goesWith n a1 a2 a3 M) := by
  unfold f_X12_goesWith
  refine qr_aload_n o (q_dm dm_X12_goesWith 0 rfl) rfl ?_
  refine qr_iload_n o (q_dm dm_X12_goesWith 1 rfl) rfl ?_
  refine qr_callv_v (As := [.inl a1]) (S := []) o (a_X12_begins g k.2.1 n j r hj hr a1 M) (Nat.le_of_ble_eq_true rfl) zv_X12_begins rfl cf_X12 (sh77 j r) ml_X12_457 (Nat.le_of_ble_eq_true rfl) (q_dm dm_X12_goesWith 2 rfl) (fun _ m1 => ?_)
  refine qr_iconst o (q_dm dm_X12_goesWith 3 rfl) ic_0 ?_
  refine qs_istore (L' := [some (.inr (some 77)), some (.inl a1), some (.inl a2), some (.inl a3), some (.inl (0 : Int32)), none]) o (q_dm dm_X12_goesWith 4 rfl) (Nat.le_of_ble_eq_true rfl) rfl ?_
  exact qr_loc (q_leS (q_leN (q_leS (q_leS (q_leS (q_leN q_le0)))))) (w_X12_goesWith_8 n j r hj hr o n a2 a3 (0 : Int32) m1)

theorem a_X12_goesWith (g : qG) (l : Launch) (n : Nat) (j r : Nat) (hj : q_isLaw j) (hr : q_isLaw r) (a1 a2 a3 : Int32) (M : qM) : qAM g l 2 zX12_goesWith (qL j r) [.inr (some 77), .inl a1, .inl a2, .inl a3] (qL j r, M) (f_X12_goesWith n a1 a2 a3 M) :=
  qAM.of zv_X12_goesWith.1 (by show 4 ≤ 6; decide) (fun k hk o => w_X12_goesWith n j r hj hr o a1 a2 a3 M)
def tb_X12_max : List (Nat × Instr × Nat) := [(0, (.iload_n 0, 1)), (1, (.iload_n 1, 1)), (2, (.if_icmp .le 7, 3)), (5, (.iload_n 0, 1)), (6, (.goto 4, 3)), (9, (.iload_n 1, 1)), (10, (.ireturn, 1))]
theorem dm_X12_max : ∀ q ∈ tb_X12_max, decode zX12_max.2.1 q.1 = .ok q.2 := by decide +kernel
def f_X12_max (n : Nat) (a0 a1 : Int32) (M : qM) : qR :=
  (if a0 ≤ a1 then some (a1, M) else some (a0, M))
set_option maxRecDepth 4000 in
theorem w_X12_max {g : qG} {k : qK} (n : Nat) (j r : Nat) (hj : q_isLaw j) (hr : q_isLaw r) (o : qOk g 0 zX12_max k) (a0 a1 : Int32) (M : qM) : qAE g k zX12_max (qL j r) 0 [some (.inl a0), some (.inl a1)] [] (qL j r, M) (f_X12_max n a0 a1 M) := by
  unfold f_X12_max
  refine qr_iload_n o (q_dm dm_X12_max 0 rfl) rfl ?_
  refine qr_iload_n o (q_dm dm_X12_max 1 rfl) rfl ?_
  refine qr_icmp_le (tgt := 9) o (q_dm dm_X12_max 2 rfl) (by decide) ?_ ?_
  · refine qr_iload_n o (q_dm dm_X12_max 5 rfl) rfl ?_
    exact qr_iret o rfl rfl (q_dm dm_X12_max 6 rfl)
  · refine qr_iload_n o (q_dm dm_X12_max 3 rfl) rfl ?_
    refine qr_goto (tgt := 10) o (q_dm dm_X12_max 4 rfl) (by decide) ?_
    exact qr_iret o rfl rfl (q_dm dm_X12_max 6 rfl)

theorem a_X12_max (g : qG) (l : Launch) (n : Nat) (j r : Nat) (hj : q_isLaw j) (hr : q_isLaw r) (a0 a1 : Int32) (M : qM) : qAM g l 0 zX12_max (qL j r) [.inl a0, .inl a1] (qL j r, M) (f_X12_max n a0 a1 M) :=
  qAM.of zs_X12_max.1 (by show 2 ≤ 2; decide) (fun k hk o => w_X12_max n j r hj hr o a0 a1 M)
def tb_X12_greaterBy : List (Nat × Instr × Nat) := [(0, (.iconst 0, 1)), (1, (.istore 5, 2)), (3, (.iconst 0, 1)), (4, (.istore 6, 2)), (6, (.iconst 0, 1)), (7, (.istore 7, 2)), (9, (.iload 7, 2)), (11, (.iload_n 2, 1)), (12, (.if_icmp .ge 58, 3)), (15, (.aload_n 0, 1)), (16, (.getfield 136, 3)), (19, (.iload 7, 2)), (21, (.baload, 1)), (22, (.ifCond .ne 6, 3)), (25, (.goto 39, 3)), (28, (.aload_n 0, 1)), (29, (.iload 7, 2)), (31, (.iload_n 3, 1)), (32, (.iload 4, 2)), (34, (.invokevirtual 463, 3)), (37, (.pop, 1)), (38, (.iload 6, 2)), (40, (.iconst 1, 1)), (41, (.iadd, 1)), (42, (.istore 6, 2)), (44, (.iload 5, 2)), (46, (.aload_n 0, 1)), (47, (.iload_n 1, 1)), (48, (.iload 4, 2)), (50, (.invokevirtual 460, 3)), (53, (.ifCond .eq 7, 3)), (56, (.iconst 1, 1)), (57, (.goto 4, 3)), (60, (.iconst 0, 1)), (61, (.iadd, 1)), (62, (.istore 5, 2)), (64, (.iinc 7 1, 3)), (67, (.goto (-58), 3)), (70, (.iload 5, 2)), (72, (.iload 6, 2)), (74, (.iload 5, 2)), (76, (.isub, 1)), (77, (.invokestatic 441, 3)), (80, (.ireturn, 1))]
theorem dm_X12_greaterBy : ∀ q ∈ tb_X12_greaterBy, decode zX12_greaterBy.2.1 q.1 = .ok q.2 := by decide +kernel
def f_X12_greaterBy_61 (n : Nat) (K9 : Int32 → Int32 → Int32 → Int32 → Int32 → Int32 → Int32 → qM → qR) (a1 a2 a3 a4 a6 a7 s0 s1 : Int32) (M : qM) : qR :=
  ql (s0 + s1) (fun x1 => ql (a7 + (1 : Int32)) (fun x2 => K9 a1 a2 a3 a4 x1 a6 x2 M))
set_option maxRecDepth 4000 in
theorem w_X12_greaterBy_61 {g : qG} {k : qK} (n : Nat) (j r : Nat) (hj : q_isLaw j) (hr : q_isLaw r) (o : qOk g 3 zX12_greaterBy k) (K9 : Int32 → Int32 → Int32 → Int32 → Int32 → Int32 → Int32 → qM → qR) (hK9 : ∀ (a1 a2 a3 a4 a5 a6 a7 : Int32) (M : qM), qAE g k zX12_greaterBy (qL j r) 9 [some (.inr (some 77)), some (.inl a1), some (.inl a2), some (.inl a3), some (.inl a4), some (.inl a5), some (.inl a6), some (.inl a7)] [] (qL j r, M) (K9 a1 a2 a3 a4 a5 a6 a7 M)) (a1 a2 a3 a4 a6 a7 s0 s1 : Int32) (M : qM) : qAE g k zX12_greaterBy (qL j r) 61 [some (.inr (some 77)), some (.inl a1), some (.inl a2), some (.inl a3), some (.inl a4), none, some (.inl a6), some (.inl a7)] [.inl s1, .inl s0] (qL j r, M) (f_X12_greaterBy_61 n K9 a1 a2 a3 a4 a6 a7 s0 s1 M) := by
  unfold f_X12_greaterBy_61
  refine qr_iadd o (q_dm dm_X12_greaterBy 34 rfl) ?_
  refine qr_lt (fun x1 => ?_)
  refine qs_istore (L' := [some (.inr (some 77)), some (.inl a1), some (.inl a2), some (.inl a3), some (.inl a4), some (.inl x1), some (.inl a6), some (.inl a7)]) o (q_dm dm_X12_greaterBy 35 rfl) (Nat.le_of_ble_eq_true rfl) rfl ?_
  refine qs_iincl2 (L' := fun x2 => [some (.inr (some 77)), some (.inl a1), some (.inl a2), some (.inl a3), some (.inl a4), some (.inl x1), some (.inl a6), some (.inl x2)]) o (q_dm dm_X12_greaterBy 36 rfl) rfl ic_1 (Nat.le_of_ble_eq_true rfl) (fun _ => rfl) (fun x2 => ?_)
  refine qr_goto (tgt := 9) o (q_dm dm_X12_greaterBy 37 rfl) (by decide) ?_
  exact qr_loc (q_leS (q_leS (q_leS (q_leS (q_leS (q_leS (q_leS (q_leS q_le0)))))))) (hK9 a1 a2 a3 a4 x1 a6 x2 M)

def b_X12_greaterBy_9 (n : Nat) (K9 : Int32 → Int32 → Int32 → Int32 → Int32 → Int32 → Int32 → qM → qR) (a1 a2 a3 a4 a5 a6 a7 : Int32) (M : qM) : qR :=
  (if a2 ≤ a7 then qc (f_X12_max n a5 (a6 - a5) M) (fun r1 m2 => some (r1, m2)) else qg a7 256 ((if (M 119 a7.toNatClampNeg) = (0 : Int32) then ql (a7 + (1 : Int32)) (fun x8 => K9 a1 a2 a3 a4 a5 a6 x8 M) else qc (f_X12_goesWith n a7 a3 a4 M) (fun r3 m4 => ql (a6 + (1 : Int32)) (fun x5 => qc (f_X12_pastCounts n a1 a4 m4) (fun r6 m7 => (if r6 = (0 : Int32) then f_X12_greaterBy_61 n K9 a1 a2 a3 a4 x5 a7 a5 (0 : Int32) m7 else f_X12_greaterBy_61 n K9 a1 a2 a3 a4 x5 a7 a5 (1 : Int32) m7)))))))
set_option maxRecDepth 4000 in
theorem wb_X12_greaterBy_9 {g : qG} {k : qK} (n : Nat) (j r : Nat) (hj : q_isLaw j) (hr : q_isLaw r) (o : qOk g 3 zX12_greaterBy k) (K9 : Int32 → Int32 → Int32 → Int32 → Int32 → Int32 → Int32 → qM → qR) (hK9 : ∀ (a1 a2 a3 a4 a5 a6 a7 : Int32) (M : qM), qAE g k zX12_greaterBy (qL j r) 9 [some (.inr (some 77)), some (.inl a1), some (.inl a2), some (.inl a3), some (.inl a4), some (.inl a5), some (.inl a6), some (.inl a7)] [] (qL j r, M) (K9 a1 a2 a3 a4 a5 a6 a7 M)) (a1 a2 a3 a4 a5 a6 a7 : Int32) (M : qM) : qAE g k zX12_greaterBy (qL j r) 9 [some (.inr (some 77)), some (.inl a1), some (.inl a2), some (.inl a3), some (.inl a4), some (.inl a5), some (.inl a6), some (.inl a7)] [] (qL j r, M) (b_X12_greaterBy_9 n K9 a1 a2 a3 a4 a5 a6 a7 M) := by
  unfold b_X12_greaterBy_9
  refine qr_iload o (q_dm dm_X12_greaterBy 6 rfl) rfl ?_
  refine qr_iload_n o (q_dm dm_X12_greaterBy 7 rfl) rfl ?_
  refine qr_icmp_ge (tgt := 70) o (q_dm dm_X12_greaterBy 8 rfl) (by decide) ?_ ?_
  · refine qr_iload o (q_dm dm_X12_greaterBy 38 rfl) rfl ?_
    refine qr_iload o (q_dm dm_X12_greaterBy 39 rfl) rfl ?_
    refine qr_iload o (q_dm dm_X12_greaterBy 40 rfl) rfl ?_
    refine qr_isub o (q_dm dm_X12_greaterBy 41 rfl) ?_
    refine qr_calls_i (As := [.inl a5, .inl (a6 - a5)]) (S := []) o (a_X12_max g k.2.1 n j r hj hr a5 (a6 - a5) M) (Nat.le_of_ble_eq_true rfl) zs_X12_max rfl ml_X12_441 (Nat.le_of_ble_eq_true rfl) (q_dm dm_X12_greaterBy 42 rfl) (fun r1 m2 => ?_)
    exact qr_iret o rfl rfl (q_dm dm_X12_greaterBy 43 rfl)
  · refine qr_aload_n o (q_dm dm_X12_greaterBy 9 rfl) rfl ?_
    refine qr_getr (kf := 65) o cf_X12 (sh77 j r) rfl (Nat.le_of_ble_eq_true rfl) fl_X12_136 (q_dm dm_X12_greaterBy 10 rfl) ?_
    refine qr_iload o (q_dm dm_X12_greaterBy 11 rfl) rfl ?_
    refine qr_zald o (sh119 j r) (q_dm dm_X12_greaterBy 12 rfl) ?_
    refine qr_if_ne (tgt := 28) o (q_dm dm_X12_greaterBy 13 rfl) (by decide) ?_ ?_
    · refine qr_aload_n o (q_dm dm_X12_greaterBy 15 rfl) rfl ?_
      refine qr_iload o (q_dm dm_X12_greaterBy 16 rfl) rfl ?_
      refine qr_iload_n o (q_dm dm_X12_greaterBy 17 rfl) rfl ?_
      refine qr_iload o (q_dm dm_X12_greaterBy 18 rfl) rfl ?_
      refine qr_callv_i (As := [.inl a7, .inl a3, .inl a4]) (S := []) o (a_X12_goesWith g k.2.1 n j r hj hr a7 a3 a4 M) (Nat.le_of_ble_eq_true rfl) zv_X12_goesWith rfl cf_X12 (sh77 j r) ml_X12_463 (Nat.le_of_ble_eq_true rfl) (q_dm dm_X12_greaterBy 19 rfl) (fun r3 m4 => ?_)
      refine qr_pop o (q_dm dm_X12_greaterBy 20 rfl) ?_
      refine qr_iload o (q_dm dm_X12_greaterBy 21 rfl) rfl ?_
      refine qr_iconst o (q_dm dm_X12_greaterBy 22 rfl) ic_1 ?_
      refine qr_iadd o (q_dm dm_X12_greaterBy 23 rfl) ?_
      refine qr_lt (fun x5 => ?_)
      refine qs_istore (L' := [some (.inr (some 77)), some (.inl a1), some (.inl a2), some (.inl a3), some (.inl a4), some (.inl a5), some (.inl x5), some (.inl a7)]) o (q_dm dm_X12_greaterBy 24 rfl) (Nat.le_of_ble_eq_true rfl) rfl ?_
      refine qr_iload o (q_dm dm_X12_greaterBy 25 rfl) rfl ?_
      refine qr_aload_n o (q_dm dm_X12_greaterBy 26 rfl) rfl ?_
      refine qr_iload_n o (q_dm dm_X12_greaterBy 27 rfl) rfl ?_
      refine qr_iload o (q_dm dm_X12_greaterBy 28 rfl) rfl ?_
      refine qr_callv_i (As := [.inl a1, .inl a4]) (S := [.inl a5]) o (a_X12_pastCounts g k.2.1 n j r hj hr a1 a4 m4) (Nat.le_of_ble_eq_true rfl) zv_X12_pastCounts rfl cf_X12 (sh77 j r) ml_X12_460 (Nat.le_of_ble_eq_true rfl) (q_dm dm_X12_greaterBy 29 rfl) (fun r6 m7 => ?_)
      refine qr_if_eq (tgt := 60) o (q_dm dm_X12_greaterBy 30 rfl) (by decide) ?_ ?_
      · refine qr_iconst o (q_dm dm_X12_greaterBy 33 rfl) ic_0 ?_
        exact qr_loc (q_leS (q_leS (q_leS (q_leS (q_leS (q_leN (q_leS (q_leS q_le0)))))))) (w_X12_greaterBy_61 n j r hj hr o K9 hK9 a1 a2 a3 a4 x5 a7 a5 (0 : Int32) m7)
      · refine qr_iconst o (q_dm dm_X12_greaterBy 31 rfl) ic_1 ?_
        refine qr_goto (tgt := 61) o (q_dm dm_X12_greaterBy 32 rfl) (by decide) ?_
        exact qr_loc (q_leS (q_leS (q_leS (q_leS (q_leS (q_leN (q_leS (q_leS q_le0)))))))) (w_X12_greaterBy_61 n j r hj hr o K9 hK9 a1 a2 a3 a4 x5 a7 a5 (1 : Int32) m7)
    · refine qr_goto (tgt := 64) o (q_dm dm_X12_greaterBy 14 rfl) (by decide) ?_
      refine qs_iincl2 (L' := fun x8 => [some (.inr (some 77)), some (.inl a1), some (.inl a2), some (.inl a3), some (.inl a4), some (.inl a5), some (.inl a6), some (.inl x8)]) o (q_dm dm_X12_greaterBy 36 rfl) rfl ic_1 (Nat.le_of_ble_eq_true rfl) (fun _ => rfl) (fun x8 => ?_)
      refine qr_goto (tgt := 9) o (q_dm dm_X12_greaterBy 37 rfl) (by decide) ?_
      exact qr_loc (q_leS (q_leS (q_leS (q_leS (q_leS (q_leS (q_leS (q_leS q_le0)))))))) (hK9 a1 a2 a3 a4 a5 a6 x8 M)

def f_X12_greaterBy_9 (n : Nat) : Nat → Int32 → Int32 → Int32 → Int32 → Int32 → Int32 → Int32 → qM → qR
  | 0, _, _, _, _, _, _, _, _ => none
  | m + 1, a1, a2, a3, a4, a5, a6, a7, M => b_X12_greaterBy_9 n (f_X12_greaterBy_9 n m) a1 a2 a3 a4 a5 a6 a7 M
theorem w_X12_greaterBy_9 {g : qG} {k : qK} (n : Nat) (j r : Nat) (hj : q_isLaw j) (hr : q_isLaw r) (o : qOk g 3 zX12_greaterBy k) : ∀ (m : Nat) (a1 a2 a3 a4 a5 a6 a7 : Int32) (M : qM), qAE g k zX12_greaterBy (qL j r) 9 [some (.inr (some 77)), some (.inl a1), some (.inl a2), some (.inl a3), some (.inl a4), some (.inl a5), some (.inl a6), some (.inl a7)] [] (qL j r, M) (f_X12_greaterBy_9 n m a1 a2 a3 a4 a5 a6 a7 M) := by
  intro m
  induction m with
  | zero =>
    intro a1 a2 a3 a4 a5 a6 a7 M
    exact qr_none
  | succ m ih =>
    intro a1 a2 a3 a4 a5 a6 a7 M
    exact wb_X12_greaterBy_9 n j r hj hr o (f_X12_greaterBy_9 n m) ih a1 a2 a3 a4 a5 a6 a7 M
def f_X12_greaterBy (n : Nat) (a1 a2 a3 a4 : Int32) (M : qM) : qR :=
  f_X12_greaterBy_9 n n a1 a2 a3 a4 (0 : Int32) (0 : Int32) (0 : Int32) M
set_option maxRecDepth 4000 in
theorem w_X12_greaterBy {g : qG} {k : qK} (n : Nat) (j r : Nat) (hj : q_isLaw j) (hr : q_isLaw r) (o : qOk g 3 zX12_greaterBy k) (a1 a2 a3 a4 : Int32) (M : qM) : qAE g k zX12_greaterBy (qL j r) 0 [some (.inr (some 77)), some (.inl a1), some (.inl a2), some (.inl a3), some (.inl a4), none, none, none] [] (qL j r, M) (f_X12_greaterBy n a1 a2 a3 a4 M) := by
  unfold f_X12_greaterBy
  refine qr_iconst o (q_dm dm_X12_greaterBy 0 rfl) ic_0 ?_
  refine qs_istore (L' := [some (.inr (some 77)), some (.inl a1), some (.inl a2), some (.inl a3), some (.inl a4), some (.inl (0 : Int32)), none, none]) o (q_dm dm_X12_greaterBy 1 rfl) (Nat.le_of_ble_eq_true rfl) rfl ?_
  refine qr_iconst o (q_dm dm_X12_greaterBy 2 rfl) ic_0 ?_
  refine qs_istore (L' := [some (.inr (some 77)), some (.inl a1), some (.inl a2), some (.inl a3), some (.inl a4), some (.inl (0 : Int32)), some (.inl (0 : Int32)), none]) o (q_dm dm_X12_greaterBy 3 rfl) (Nat.le_of_ble_eq_true rfl) rfl ?_
  refine qr_iconst o (q_dm dm_X12_greaterBy 4 rfl) ic_0 ?_
  refine qs_istore (L' := [some (.inr (some 77)), some (.inl a1), some (.inl a2), some (.inl a3), some (.inl a4), some (.inl (0 : Int32)), some (.inl (0 : Int32)), some (.inl (0 : Int32))]) o (q_dm dm_X12_greaterBy 5 rfl) (Nat.le_of_ble_eq_true rfl) rfl ?_
  exact qr_loc (q_leS (q_leS (q_leS (q_leS (q_leS (q_leS (q_leS (q_leS q_le0)))))))) (w_X12_greaterBy_9 n j r hj hr o n a1 a2 a3 a4 (0 : Int32) (0 : Int32) (0 : Int32) M)

theorem a_X12_greaterBy (g : qG) (l : Launch) (n : Nat) (j r : Nat) (hj : q_isLaw j) (hr : q_isLaw r) (a1 a2 a3 a4 : Int32) (M : qM) : qAM g l 3 zX12_greaterBy (qL j r) [.inr (some 77), .inl a1, .inl a2, .inl a3, .inl a4] (qL j r, M) (f_X12_greaterBy n a1 a2 a3 a4 M) :=
  qAM.of zv_X12_greaterBy.1 (by show 5 ≤ 8; decide) (fun k hk o => w_X12_greaterBy n j r hj hr o a1 a2 a3 a4 M)
def tb_X12_has : List (Nat × Instr × Nat) := [(0, (.aload_n 0, 1)), (1, (.iload_n 1, 1)), (2, (.invokevirtual 310, 3)), (5, (.ifCond .eq 20, 3)), (8, (.aload_n 0, 1)), (9, (.iload_n 2, 1)), (10, (.invokevirtual 157, 3)), (13, (.ifCond .eq 12, 3)), (16, (.iload_n 3, 1)), (17, (.iconst 0, 1)), (18, (.iconst 5, 1)), (19, (.invokestatic 153, 3)), (22, (.ifCond .ne 5, 3)), (25, (.iconst (-1), 1)), (26, (.ireturn, 1)), (27, (.iload_n 1, 1)), (28, (.iload_n 2, 1)), (29, (.invokestatic 282, 3)), (32, (.istore 4, 2)), (34, (.iload_n 3, 1)), (35, (.ifCond .ne 13, 3)), (38, (.aload_n 0, 1)), (39, (.getfield 7, 3)), (42, (.iconst 0, 1)), (43, (.iload 4, 2)), (45, (.iadd, 1)), (46, (.iaload, 1)), (47, (.ireturn, 1)), (48, (.iload_n 3, 1)), (49, (.iconst 1, 1)), (50, (.if_icmp .ne 15, 3)), (53, (.aload_n 0, 1)), (54, (.getfield 7, 3)), (57, (.sipush 192, 3)), (60, (.iload 4, 2)), (62, (.iadd, 1)), (63, (.iaload, 1)), (64, (.ireturn, 1)), (65, (.iload_n 3, 1)), (66, (.iconst 2, 1)), (67, (.if_icmp .ne 14, 3)), (70, (.aload_n 0, 1)), (71, (.getfield 7, 3)), (74, (.bipush 96, 2)), (76, (.iload 4, 2)), (78, (.iadd, 1)), (79, (.iaload, 1)), (80, (.ireturn, 1)), (81, (.aload_n 0, 1)), (82, (.getfield 7, 3)), (85, (.aload_n 0, 1)), (86, (.getfield 13, 3)), (89, (.invokestatic 319, 3)), (92, (.aload_n 0, 1)), (93, (.iload_n 1, 1)), (94, (.iload_n 2, 1)), (95, (.invokevirtual 295, 3)), (98, (.aload_n 0, 1)), (99, (.iload_n 1, 1)), (100, (.iload_n 2, 1)), (101, (.invokevirtual 298, 3)), (104, (.istore 5, 2)), (106, (.aload_n 0, 1)), (107, (.iload_n 1, 1)), (108, (.iload_n 2, 1)), (109, (.bipush 8, 2)), (111, (.invokevirtual 301, 3)), (114, (.istore 6, 2)), (116, (.iload 5, 2)), (118, (.iload 6, 2)), (120, (.if_icmp .lt 16, 3)), (123, (.aload_n 0, 1)), (124, (.iload_n 1, 1)), (125, (.iload_n 2, 1)), (126, (.invokevirtual 304, 3)), (129, (.ifCond .eq 7, 3)), (132, (.iconst 1, 1)), (133, (.goto 4, 3)), (136, (.iconst 0, 1)), (137, (.istore 7, 2)), (139, (.aload_n 0, 1)), (140, (.getfield 13, 3)), (143, (.aload_n 0, 1)), (144, (.getfield 7, 3)), (147, (.invokestatic 319, 3)), (150, (.iload_n 3, 1)), (151, (.iconst 3, 1)), (152, (.if_icmp .ne 8, 3)), (155, (.iload 5, 2)), (157, (.goto 23, 3)), (160, (.iload_n 3, 1)), (161, (.iconst 4, 1)), (162, (.if_icmp .ne 8, 3)), (165, (.iload 6, 2)), (167, (.goto 13, 3)), (170, (.iload 7, 2)), (172, (.ifCond .eq 7, 3)), (175, (.iconst 1, 1)), (176, (.goto 4, 3)), (179, (.iconst 0, 1)), (180, (.ireturn, 1))]
theorem dm_X12_has : ∀ q ∈ tb_X12_has, decode zX12_has.2.1 q.1 = .ok q.2 := by decide +kernel
def f_X12_has_137 (n : Nat) (a3 a5 a6 s0 : Int32) (M : qM) : qR :=
  qc (f_X12_copies n 79 78 M) (fun _ m1 => (if a3 = (3 : Int32) then some (a5, m1) else (if a3 = (4 : Int32) then some (a6, m1) else (if s0 = (0 : Int32) then some ((0 : Int32), m1) else some ((1 : Int32), m1)))))
set_option maxRecDepth 4000 in
theorem w_X12_has_137 {g : qG} {k : qK} (n : Nat) (j r : Nat) (hj : q_isLaw j) (hr : q_isLaw r) (o : qOk g 4 zX12_has k) (a3 a5 a6 s0 : Int32) (M : qM) : qAE g k zX12_has (qL j r) 137 [some (.inr (some 77)), none, none, some (.inl a3), none, some (.inl a5), some (.inl a6), none] [.inl s0] (qL j r, M) (f_X12_has_137 n a3 a5 a6 s0 M) := by
  unfold f_X12_has_137
  refine qs_istore (L' := [some (.inr (some 77)), none, none, some (.inl a3), none, some (.inl a5), some (.inl a6), some (.inl s0)]) o (q_dm dm_X12_has 79 rfl) (Nat.le_of_ble_eq_true rfl) rfl ?_
  refine qr_aload_n o (q_dm dm_X12_has 80 rfl) rfl ?_
  refine qr_getr (kf := 1) o cf_X12 (sh77 j r) rfl (Nat.le_of_ble_eq_true rfl) fl_X12_13 (q_dm dm_X12_has 81 rfl) ?_
  refine qr_aload_n o (q_dm dm_X12_has 82 rfl) rfl ?_
  refine qr_getr (kf := 0) o cf_X12 (sh77 j r) rfl (Nat.le_of_ble_eq_true rfl) fl_X12_7 (q_dm dm_X12_has 83 rfl) ?_
  refine qr_calls_v (As := [.inr (some 79), .inr (some 78)]) (S := []) o (a_X12_copies g k.2.1 n j r hj hr (sh79 j r) (sh78 j r) M) (Nat.le_of_ble_eq_true rfl) zs_X12_copies rfl ml_X12_319 (Nat.le_of_ble_eq_true rfl) (q_dm dm_X12_has 84 rfl) (fun _ m1 => ?_)
  refine qr_iload_n o (q_dm dm_X12_has 85 rfl) rfl ?_
  refine qr_iconst o (q_dm dm_X12_has 86 rfl) ic_3 ?_
  refine qr_icmp_ne (tgt := 160) o (q_dm dm_X12_has 87 rfl) (by decide) ?_ ?_
  · refine qr_iload_n o (q_dm dm_X12_has 90 rfl) rfl ?_
    refine qr_iconst o (q_dm dm_X12_has 91 rfl) ic_4 ?_
    refine qr_icmp_ne (tgt := 170) o (q_dm dm_X12_has 92 rfl) (by decide) ?_ ?_
    · refine qr_iload o (q_dm dm_X12_has 95 rfl) rfl ?_
      refine qr_if_eq (tgt := 179) o (q_dm dm_X12_has 96 rfl) (by decide) ?_ ?_
      · refine qr_iconst o (q_dm dm_X12_has 99 rfl) ic_0 ?_
        exact qr_iret o rfl rfl (q_dm dm_X12_has 100 rfl)
      · refine qr_iconst o (q_dm dm_X12_has 97 rfl) ic_1 ?_
        refine qr_goto (tgt := 180) o (q_dm dm_X12_has 98 rfl) (by decide) ?_
        exact qr_iret o rfl rfl (q_dm dm_X12_has 100 rfl)
    · refine qr_iload o (q_dm dm_X12_has 93 rfl) rfl ?_
      refine qr_goto (tgt := 180) o (q_dm dm_X12_has 94 rfl) (by decide) ?_
      exact qr_iret o rfl rfl (q_dm dm_X12_has 100 rfl)
  · refine qr_iload o (q_dm dm_X12_has 88 rfl) rfl ?_
    refine qr_goto (tgt := 180) o (q_dm dm_X12_has 89 rfl) (by decide) ?_
    exact qr_iret o rfl rfl (q_dm dm_X12_has 100 rfl)

def f_X12_has_136 (n : Nat) (a3 a5 a6 : Int32) (M : qM) : qR :=
  f_X12_has_137 n a3 a5 a6 (0 : Int32) M
set_option maxRecDepth 4000 in
theorem w_X12_has_136 {g : qG} {k : qK} (n : Nat) (j r : Nat) (hj : q_isLaw j) (hr : q_isLaw r) (o : qOk g 4 zX12_has k) (a3 a5 a6 : Int32) (M : qM) : qAE g k zX12_has (qL j r) 136 [some (.inr (some 77)), none, none, some (.inl a3), none, some (.inl a5), some (.inl a6), none] [] (qL j r, M) (f_X12_has_136 n a3 a5 a6 M) := by
  unfold f_X12_has_136
  refine qr_iconst o (q_dm dm_X12_has 78 rfl) ic_0 ?_
  exact qr_loc (q_leS (q_leN (q_leN (q_leS (q_leN (q_leS (q_leS (q_leN q_le0)))))))) (w_X12_has_137 n j r hj hr o a3 a5 a6 (0 : Int32) M)

def f_X12_has (n : Nat) (a1 a2 a3 : Int32) (M : qM) : qR :=
  qc (f_X12_isPerson n a1 M) (fun r1 m2 => (if r1 = (0 : Int32) then some ((-1 : Int32), m2) else qc (f_X12_isKind n a2 m2) (fun r3 m4 => (if r3 = (0 : Int32) then some ((-1 : Int32), m4) else qc (f_X12_in n a3 (0 : Int32) (5 : Int32) m4) (fun r5 m6 => (if r5 = (0 : Int32) then some ((-1 : Int32), m6) else qc (f_X12_at n a1 a2 m6) (fun r7 m8 => (if a3 = (0 : Int32) then qg ((0 : Int32) + r7) 954 (some ((m8 78 ((0 : Int32) + r7).toNatClampNeg), m8)) else (if a3 = (1 : Int32) then qg ((192 : Int32) + r7) 954 (some ((m8 78 ((192 : Int32) + r7).toNatClampNeg), m8)) else (if a3 = (2 : Int32) then qg ((96 : Int32) + r7) 954 (some ((m8 78 ((96 : Int32) + r7).toNatClampNeg), m8)) else qc (f_X12_copies n 78 79 m8) (fun _ m9 => qc (f_X12_forgets n a1 a2 m9) (fun _ m10 => qc (f_X12_oldOnes n a1 a2 m10) (fun r11 m12 => qc (f_X12_voidFor n a1 a2 (8 : Int32) m12) (fun r13 m14 => (if r11 < r13 then f_X12_has_136 n a3 r11 r13 m14 else qc (f_X12_hasNeeds n a1 a2 m14) (fun r15 m16 => (if r15 = (0 : Int32) then f_X12_has_136 n a3 r11 r13 m16 else f_X12_has_137 n a3 r11 r13 (1 : Int32) m16)))))))))))))))))
set_option maxRecDepth 4000 in
theorem w_X12_has {g : qG} {k : qK} (n : Nat) (j r : Nat) (hj : q_isLaw j) (hr : q_isLaw r) (o : qOk g 4 zX12_has k) (a1 a2 a3 : Int32) (M : qM) : qAE g k zX12_has (qL j r) 0 [some (.inr (some 77)), some (.inl a1), some (.inl a2), some (.inl a3), none, none, none, none] [] (qL j r, M) (f_X12_has n a1 a2 a3 M) := by
  unfold f_X12_has
  refine qr_aload_n o (q_dm dm_X12_has 0 rfl) rfl ?_
  refine qr_iload_n o (q_dm dm_X12_has 1 rfl) rfl ?_
  refine qr_callv_i (As := [.inl a1]) (S := []) o (a_X12_isPerson g k.2.1 n j r hj hr a1 M) (Nat.le_of_ble_eq_true rfl) zv_X12_isPerson rfl cf_X12 (sh77 j r) ml_X12_310 (Nat.le_of_ble_eq_true rfl) (q_dm dm_X12_has 2 rfl) (fun r1 m2 => ?_)
  refine qr_if_eq (tgt := 25) o (q_dm dm_X12_has 3 rfl) (by decide) ?_ ?_
  · refine qr_iconst o (q_dm dm_X12_has 13 rfl) ic_m1 ?_
    exact qr_iret o rfl rfl (q_dm dm_X12_has 14 rfl)
  · refine qr_aload_n o (q_dm dm_X12_has 4 rfl) rfl ?_
    refine qr_iload_n o (q_dm dm_X12_has 5 rfl) rfl ?_
    refine qr_callv_i (As := [.inl a2]) (S := []) o (a_X12_isKind g k.2.1 n j r hj hr a2 m2) (Nat.le_of_ble_eq_true rfl) zv_X12_isKind rfl cf_X12 (sh77 j r) ml_X12_157 (Nat.le_of_ble_eq_true rfl) (q_dm dm_X12_has 6 rfl) (fun r3 m4 => ?_)
    refine qr_if_eq (tgt := 25) o (q_dm dm_X12_has 7 rfl) (by decide) ?_ ?_
    · refine qr_iconst o (q_dm dm_X12_has 13 rfl) ic_m1 ?_
      exact qr_iret o rfl rfl (q_dm dm_X12_has 14 rfl)
    · refine qr_iload_n o (q_dm dm_X12_has 8 rfl) rfl ?_
      refine qr_iconst o (q_dm dm_X12_has 9 rfl) ic_0 ?_
      refine qr_iconst o (q_dm dm_X12_has 10 rfl) ic_5 ?_
      refine qr_calls_i (As := [.inl a3, .inl (0 : Int32), .inl (5 : Int32)]) (S := []) o (a_X12_in g k.2.1 n j r hj hr a3 (0 : Int32) (5 : Int32) m4) (Nat.le_of_ble_eq_true rfl) zs_X12_in rfl ml_X12_153 (Nat.le_of_ble_eq_true rfl) (q_dm dm_X12_has 11 rfl) (fun r5 m6 => ?_)
      refine qr_if_ne (tgt := 27) o (q_dm dm_X12_has 12 rfl) (by decide) ?_ ?_
      · refine qr_iload_n o (q_dm dm_X12_has 15 rfl) rfl ?_
        refine qr_iload_n o (q_dm dm_X12_has 16 rfl) rfl ?_
        refine qr_calls_i (As := [.inl a1, .inl a2]) (S := []) o (a_X12_at g k.2.1 n j r hj hr a1 a2 m6) (Nat.le_of_ble_eq_true rfl) zs_X12_at rfl ml_X12_282 (Nat.le_of_ble_eq_true rfl) (q_dm dm_X12_has 17 rfl) (fun r7 m8 => ?_)
        refine qs_istore (L' := [some (.inr (some 77)), some (.inl a1), some (.inl a2), some (.inl a3), some (.inl r7), none, none, none]) o (q_dm dm_X12_has 18 rfl) (Nat.le_of_ble_eq_true rfl) rfl ?_
        refine qr_iload_n o (q_dm dm_X12_has 19 rfl) rfl ?_
        refine qr_if_ne (tgt := 48) o (q_dm dm_X12_has 20 rfl) (by decide) ?_ ?_
        · refine qr_iload_n o (q_dm dm_X12_has 28 rfl) rfl ?_
          refine qr_iconst o (q_dm dm_X12_has 29 rfl) ic_1 ?_
          refine qr_icmp_ne (tgt := 65) o (q_dm dm_X12_has 30 rfl) (by decide) ?_ ?_
          · refine qr_iload_n o (q_dm dm_X12_has 38 rfl) rfl ?_
            refine qr_iconst o (q_dm dm_X12_has 39 rfl) ic_2 ?_
            refine qr_icmp_ne (tgt := 81) o (q_dm dm_X12_has 40 rfl) (by decide) ?_ ?_
            · refine qr_aload_n o (q_dm dm_X12_has 48 rfl) rfl ?_
              refine qr_getr (kf := 0) o cf_X12 (sh77 j r) rfl (Nat.le_of_ble_eq_true rfl) fl_X12_7 (q_dm dm_X12_has 49 rfl) ?_
              refine qr_aload_n o (q_dm dm_X12_has 50 rfl) rfl ?_
              refine qr_getr (kf := 1) o cf_X12 (sh77 j r) rfl (Nat.le_of_ble_eq_true rfl) fl_X12_13 (q_dm dm_X12_has 51 rfl) ?_
              refine qr_calls_v (As := [.inr (some 78), .inr (some 79)]) (S := []) o (a_X12_copies g k.2.1 n j r hj hr (sh78 j r) (sh79 j r) m8) (Nat.le_of_ble_eq_true rfl) zs_X12_copies rfl ml_X12_319 (Nat.le_of_ble_eq_true rfl) (q_dm dm_X12_has 52 rfl) (fun _ m9 => ?_)
              refine qr_aload_n o (q_dm dm_X12_has 53 rfl) rfl ?_
              refine qr_iload_n o (q_dm dm_X12_has 54 rfl) rfl ?_
              refine qr_iload_n o (q_dm dm_X12_has 55 rfl) rfl ?_
              refine qr_callv_v (As := [.inl a1, .inl a2]) (S := []) o (a_X12_forgets g k.2.1 n j r hj hr a1 a2 m9) (Nat.le_of_ble_eq_true rfl) zv_X12_forgets rfl cf_X12 (sh77 j r) ml_X12_295 (Nat.le_of_ble_eq_true rfl) (q_dm dm_X12_has 56 rfl) (fun _ m10 => ?_)
              refine qr_aload_n o (q_dm dm_X12_has 57 rfl) rfl ?_
              refine qr_iload_n o (q_dm dm_X12_has 58 rfl) rfl ?_
              refine qr_iload_n o (q_dm dm_X12_has 59 rfl) rfl ?_
              refine qr_callv_i (As := [.inl a1, .inl a2]) (S := []) o (a_X12_oldOnes g k.2.1 n j r hj hr a1 a2 m10) (Nat.le_of_ble_eq_true rfl) zv_X12_oldOnes rfl cf_X12 (sh77 j r) ml_X12_298 (Nat.le_of_ble_eq_true rfl) (q_dm dm_X12_has 60 rfl) (fun r11 m12 => ?_)
              refine qs_istore (L' := [some (.inr (some 77)), some (.inl a1), some (.inl a2), some (.inl a3), some (.inl r7), some (.inl r11), none, none]) o (q_dm dm_X12_has 61 rfl) (Nat.le_of_ble_eq_true rfl) rfl ?_
              refine qr_aload_n o (q_dm dm_X12_has 62 rfl) rfl ?_
              refine qr_iload_n o (q_dm dm_X12_has 63 rfl) rfl ?_
              refine qr_iload_n o (q_dm dm_X12_has 64 rfl) rfl ?_
              refine qr_bipush o (q_dm dm_X12_has 65 rfl) bi_8 ?_
              refine qr_callv_i (As := [.inl a1, .inl a2, .inl (8 : Int32)]) (S := []) o (a_X12_voidFor g k.2.1 n j r hj hr a1 a2 (8 : Int32) m12) (Nat.le_of_ble_eq_true rfl) zv_X12_voidFor rfl cf_X12 (sh77 j r) ml_X12_301 (Nat.le_of_ble_eq_true rfl) (q_dm dm_X12_has 66 rfl) (fun r13 m14 => ?_)
              refine qs_istore (L' := [some (.inr (some 77)), some (.inl a1), some (.inl a2), some (.inl a3), some (.inl r7), some (.inl r11), some (.inl r13), none]) o (q_dm dm_X12_has 67 rfl) (Nat.le_of_ble_eq_true rfl) rfl ?_
              refine qr_iload o (q_dm dm_X12_has 68 rfl) rfl ?_
              refine qr_iload o (q_dm dm_X12_has 69 rfl) rfl ?_
              refine qr_icmp_lt (tgt := 136) o (q_dm dm_X12_has 70 rfl) (by decide) ?_ ?_
              · exact qr_loc (q_leS (q_leN (q_leN (q_leS (q_leN (q_leS (q_leS (q_leN q_le0)))))))) (w_X12_has_136 n j r hj hr o a3 r11 r13 m14)
              · refine qr_aload_n o (q_dm dm_X12_has 71 rfl) rfl ?_
                refine qr_iload_n o (q_dm dm_X12_has 72 rfl) rfl ?_
                refine qr_iload_n o (q_dm dm_X12_has 73 rfl) rfl ?_
                refine qr_callv_i (As := [.inl a1, .inl a2]) (S := []) o (a_X12_hasNeeds g k.2.1 n j r hj hr a1 a2 m14) (Nat.le_of_ble_eq_true rfl) zv_X12_hasNeeds rfl cf_X12 (sh77 j r) ml_X12_304 (Nat.le_of_ble_eq_true rfl) (q_dm dm_X12_has 74 rfl) (fun r15 m16 => ?_)
                refine qr_if_eq (tgt := 136) o (q_dm dm_X12_has 75 rfl) (by decide) ?_ ?_
                · exact qr_loc (q_leS (q_leN (q_leN (q_leS (q_leN (q_leS (q_leS (q_leN q_le0)))))))) (w_X12_has_136 n j r hj hr o a3 r11 r13 m16)
                · refine qr_iconst o (q_dm dm_X12_has 76 rfl) ic_1 ?_
                  refine qr_goto (tgt := 137) o (q_dm dm_X12_has 77 rfl) (by decide) ?_
                  exact qr_loc (q_leS (q_leN (q_leN (q_leS (q_leN (q_leS (q_leS (q_leN q_le0)))))))) (w_X12_has_137 n j r hj hr o a3 r11 r13 (1 : Int32) m16)
            · refine qr_aload_n o (q_dm dm_X12_has 41 rfl) rfl ?_
              refine qr_getr (kf := 0) o cf_X12 (sh77 j r) rfl (Nat.le_of_ble_eq_true rfl) fl_X12_7 (q_dm dm_X12_has 42 rfl) ?_
              refine qr_bipush o (q_dm dm_X12_has 43 rfl) bi_96 ?_
              refine qr_iload o (q_dm dm_X12_has 44 rfl) rfl ?_
              refine qr_iadd o (q_dm dm_X12_has 45 rfl) ?_
              refine qr_iald o (sh78 j r) (q_dm dm_X12_has 46 rfl) ?_
              exact qr_iret o rfl rfl (q_dm dm_X12_has 47 rfl)
          · refine qr_aload_n o (q_dm dm_X12_has 31 rfl) rfl ?_
            refine qr_getr (kf := 0) o cf_X12 (sh77 j r) rfl (Nat.le_of_ble_eq_true rfl) fl_X12_7 (q_dm dm_X12_has 32 rfl) ?_
            refine qr_sipush o (q_dm dm_X12_has 33 rfl) si_192 ?_
            refine qr_iload o (q_dm dm_X12_has 34 rfl) rfl ?_
            refine qr_iadd o (q_dm dm_X12_has 35 rfl) ?_
            refine qr_iald o (sh78 j r) (q_dm dm_X12_has 36 rfl) ?_
            exact qr_iret o rfl rfl (q_dm dm_X12_has 37 rfl)
        · refine qr_aload_n o (q_dm dm_X12_has 21 rfl) rfl ?_
          refine qr_getr (kf := 0) o cf_X12 (sh77 j r) rfl (Nat.le_of_ble_eq_true rfl) fl_X12_7 (q_dm dm_X12_has 22 rfl) ?_
          refine qr_iconst o (q_dm dm_X12_has 23 rfl) ic_0 ?_
          refine qr_iload o (q_dm dm_X12_has 24 rfl) rfl ?_
          refine qr_iadd o (q_dm dm_X12_has 25 rfl) ?_
          refine qr_iald o (sh78 j r) (q_dm dm_X12_has 26 rfl) ?_
          exact qr_iret o rfl rfl (q_dm dm_X12_has 27 rfl)
      · refine qr_iconst o (q_dm dm_X12_has 13 rfl) ic_m1 ?_
        exact qr_iret o rfl rfl (q_dm dm_X12_has 14 rfl)

theorem a_X12_has (g : qG) (l : Launch) (n : Nat) (j r : Nat) (hj : q_isLaw j) (hr : q_isLaw r) (a1 a2 a3 : Int32) (M : qM) : qAM g l 4 zX12_has (qL j r) [.inr (some 77), .inl a1, .inl a2, .inl a3] (qL j r, M) (f_X12_has n a1 a2 a3 M) :=
  qAM.of zv_X12_has.1 (by show 4 ≤ 8; decide) (fun k hk o => w_X12_has n j r hj hr o a1 a2 a3 M)
def tb_X12_hasOpenSum : List (Nat × Instr × Nat) := [(0, (.iload_n 1, 1)), (1, (.istore_n 2, 1)), (2, (.iload_n 2, 1)), (3, (.aload_n 0, 1)), (4, (.getfield 199, 3)), (7, (.if_icmp .ge 25, 3)), (10, (.aload_n 0, 1)), (11, (.getfield 35, 3)), (14, (.iload_n 2, 1)), (15, (.iaload, 1)), (16, (.ldc 195, 2)), (18, (.idiv, 1)), (19, (.bipush 14, 2)), (21, (.if_icmp .ne 5, 3)), (24, (.iconst 1, 1)), (25, (.ireturn, 1)), (26, (.iinc 2 1, 3)), (29, (.goto (-27), 3)), (32, (.iconst 0, 1)), (33, (.ireturn, 1))]
theorem dm_X12_hasOpenSum : ∀ q ∈ tb_X12_hasOpenSum, decode zX12_hasOpenSum.2.1 q.1 = .ok q.2 := by decide +kernel
def b_X12_hasOpenSum_2 (n : Nat) (K2 : Int32 → qM → qR) (a2 : Int32) (M : qM) : qR :=
  (if (M 77 15) ≤ a2 then some ((0 : Int32), M) else qg a2 260 ((if ((M 86 a2.toNatClampNeg) / (1048576 : Int32)) = (14 : Int32) then some ((1 : Int32), M) else ql (a2 + (1 : Int32)) (fun x1 => K2 x1 M))))
set_option maxRecDepth 4000 in
theorem wb_X12_hasOpenSum_2 {g : qG} {k : qK} (n : Nat) (j r : Nat) (hj : q_isLaw j) (hr : q_isLaw r) (o : qOk g 0 zX12_hasOpenSum k) (K2 : Int32 → qM → qR) (hK2 : ∀ (a2 : Int32) (M : qM), qAE g k zX12_hasOpenSum (qL j r) 2 [some (.inr (some 77)), none, some (.inl a2)] [] (qL j r, M) (K2 a2 M)) (a2 : Int32) (M : qM) : qAE g k zX12_hasOpenSum (qL j r) 2 [some (.inr (some 77)), none, some (.inl a2)] [] (qL j r, M) (b_X12_hasOpenSum_2 n K2 a2 M) := by
  unfold b_X12_hasOpenSum_2
  refine qr_iload_n o (q_dm dm_X12_hasOpenSum 2 rfl) rfl ?_
  refine qr_aload_n o (q_dm dm_X12_hasOpenSum 3 rfl) rfl ?_
  refine qr_getf (kf := 15) o cf_X12 (sh77 j r) rfl (Nat.le_of_ble_eq_true rfl) fl_X12_199 (q_dm dm_X12_hasOpenSum 4 rfl) ?_
  refine qr_icmp_ge (tgt := 32) o (q_dm dm_X12_hasOpenSum 5 rfl) (by decide) ?_ ?_
  · refine qr_iconst o (q_dm dm_X12_hasOpenSum 18 rfl) ic_0 ?_
    exact qr_iret o rfl (by decide) (q_dm dm_X12_hasOpenSum 19 rfl)
  · refine qr_aload_n o (q_dm dm_X12_hasOpenSum 6 rfl) rfl ?_
    refine qr_getr (kf := 19) o cf_X12 (sh77 j r) rfl (Nat.le_of_ble_eq_true rfl) fl_X12_35 (q_dm dm_X12_hasOpenSum 7 rfl) ?_
    refine qr_iload_n o (q_dm dm_X12_hasOpenSum 8 rfl) rfl ?_
    refine qr_iald o (sh86 j r) (q_dm dm_X12_hasOpenSum 9 rfl) ?_
    refine qr_ldc o (q_dm dm_X12_hasOpenSum 10 rfl) kc_X12_195 ?_
    refine qr_idivc o (q_dm dm_X12_hasOpenSum 11 rfl) (by decide) ?_
    refine qr_bipush o (q_dm dm_X12_hasOpenSum 12 rfl) bi_14 ?_
    refine qr_icmp_ne (tgt := 26) o (q_dm dm_X12_hasOpenSum 13 rfl) (by decide) ?_ ?_
    · refine qs_iincl2 (L' := fun x1 => [some (.inr (some 77)), none, some (.inl x1)]) o (q_dm dm_X12_hasOpenSum 16 rfl) rfl ic_1 (Nat.le_of_ble_eq_true rfl) (fun _ => rfl) (fun x1 => ?_)
      refine qr_goto (tgt := 2) o (q_dm dm_X12_hasOpenSum 17 rfl) (by decide) ?_
      exact qr_loc (q_leS (q_leN (q_leS q_le0))) (hK2 x1 M)
    · refine qr_iconst o (q_dm dm_X12_hasOpenSum 14 rfl) ic_1 ?_
      exact qr_iret o rfl (by decide) (q_dm dm_X12_hasOpenSum 15 rfl)

def f_X12_hasOpenSum_2 (n : Nat) : Nat → Int32 → qM → qR
  | 0, _, _ => none
  | m + 1, a2, M => b_X12_hasOpenSum_2 n (f_X12_hasOpenSum_2 n m) a2 M
theorem w_X12_hasOpenSum_2 {g : qG} {k : qK} (n : Nat) (j r : Nat) (hj : q_isLaw j) (hr : q_isLaw r) (o : qOk g 0 zX12_hasOpenSum k) : ∀ (m : Nat) (a2 : Int32) (M : qM), qAE g k zX12_hasOpenSum (qL j r) 2 [some (.inr (some 77)), none, some (.inl a2)] [] (qL j r, M) (f_X12_hasOpenSum_2 n m a2 M) := by
  intro m
  induction m with
  | zero =>
    intro a2 M
    exact qr_none
  | succ m ih =>
    intro a2 M
    exact wb_X12_hasOpenSum_2 n j r hj hr o (f_X12_hasOpenSum_2 n m) ih a2 M
def f_X12_hasOpenSum (n : Nat) (a1 : Int32) (M : qM) : qR :=
  f_X12_hasOpenSum_2 n n a1 M
set_option maxRecDepth 4000 in
theorem w_X12_hasOpenSum {g : qG} {k : qK} (n : Nat) (j r : Nat) (hj : q_isLaw j) (hr : q_isLaw r) (o : qOk g 0 zX12_hasOpenSum k) (a1 : Int32) (M : qM) : qAE g k zX12_hasOpenSum (qL j r) 0 [some (.inr (some 77)), some (.inl a1), none] [] (qL j r, M) (f_X12_hasOpenSum n a1 M) := by
  unfold f_X12_hasOpenSum
  refine qr_iload_n o (q_dm dm_X12_hasOpenSum 0 rfl) rfl ?_
  refine qs_istore_n (L' := [some (.inr (some 77)), some (.inl a1), some (.inl a1)]) o (q_dm dm_X12_hasOpenSum 1 rfl) (Nat.le_of_ble_eq_true rfl) rfl ?_
  exact qr_loc (q_leS (q_leN (q_leS q_le0))) (w_X12_hasOpenSum_2 n j r hj hr o n a1 M)

theorem a_X12_hasOpenSum (g : qG) (l : Launch) (n : Nat) (j r : Nat) (hj : q_isLaw j) (hr : q_isLaw r) (a1 : Int32) (M : qM) : qAM g l 0 zX12_hasOpenSum (qL j r) [.inr (some 77), .inl a1] (qL j r, M) (f_X12_hasOpenSum n a1 M) :=
  qAM.of zv_X12_hasOpenSum.1 (by show 2 ≤ 3; decide) (fun k hk o => w_X12_hasOpenSum n j r hj hr o a1 M)

def tb_X12_takesPast : List (Nat × Instr × Nat) := [(0, (.aload_n 0, 1)), (1, (.iload_n 1, 1)), (2, (.putfield 454, 3)), (5, (.iconst 0, 1)), (6, (.istore_n 3, 1)), (7, (.iload_n 3, 1)), (8, (.iload_n 1, 1)), (9, (.if_icmp .ge 69, 3)), (12, (.aload_n 0, 1)), (13, (.getfield 127, 3)), (16, (.iload_n 3, 1)), (17, (.aload_n 0, 1)), (18, (.getfield 28, 3)), (21, (.iload_n 3, 1)), (22, (.baload, 1)), (23, (.iastore, 1)), (24, (.aload_n 0, 1)), (25, (.aload_n 0, 1)), (26, (.getfield 127, 3)), (29, (.iload_n 3, 1)), (30, (.iaload, 1)), (31, (.invokevirtual 157, 3)), (34, (.ifCond .ne 5, 3)), (37, (.iconst 0, 1)), (38, (.ireturn, 1)), (39, (.iconst 0, 1)), (40, (.istore 4, 2)), (42, (.iload 4, 2)), (44, (.iload_n 3, 1)), (45, (.if_icmp .ge 27, 3)), (48, (.aload_n 0, 1)), (49, (.getfield 127, 3)), (52, (.iload 4, 2)), (54, (.iaload, 1)), (55, (.aload_n 0, 1)), (56, (.getfield 127, 3)), (59, (.iload_n 3, 1)), (60, (.iaload, 1)), (61, (.if_icmp .ne 5, 3)), (64, (.iconst 0, 1)), (65, (.ireturn, 1)), (66, (.iinc 4 1, 3)), (69, (.goto (-27), 3)), (72, (.iinc 3 1, 3)), (75, (.goto (-68), 3)), (78, (.iconst 0, 1)), (79, (.istore_n 3, 1)), (80, (.iload_n 3, 1)), (81, (.iload_n 2, 1)), (82, (.if_icmp .ge 51, 3)), (85, (.aload_n 0, 1)), (86, (.getfield 28, 3)), (89, (.iload_n 1, 1)), (90, (.iconst 2, 1)), (91, (.iload_n 3, 1)), (92, (.imul, 1)), (93, (.iadd, 1)), (94, (.baload, 1)), (95, (.iconst 0, 1)), (96, (.iload_n 1, 1)), (97, (.iconst 1, 1)), (98, (.isub, 1)), (99, (.invokestatic 153, 3)), (102, (.ifCond .eq 23, 3)), (105, (.aload_n 0, 1)), (106, (.getfield 28, 3)), (109, (.iload_n 1, 1)), (110, (.iconst 2, 1)), (111, (.iload_n 3, 1)), (112, (.imul, 1)), (113, (.iadd, 1)), (114, (.iconst 1, 1)), (115, (.iadd, 1)), (116, (.baload, 1)), (117, (.iconst 0, 1)), (118, (.iconst 1, 1)), (119, (.invokestatic 153, 3)), (122, (.ifCond .ne 5, 3)), (125, (.iconst 0, 1)), (126, (.ireturn, 1)), (127, (.iinc 3 1, 3)), (130, (.goto (-50), 3)), (133, (.iconst 0, 1)), (134, (.istore_n 3, 1)), (135, (.iload_n 3, 1)), (136, (.iload_n 1, 1)), (137, (.if_icmp .ge 68, 3)), (140, (.aload_n 0, 1)), (141, (.getfield 130, 3)), (144, (.iload_n 3, 1)), (145, (.iconst 0, 1)), (146, (.iastore, 1)), (147, (.iconst 0, 1)), (148, (.istore 4, 2)), (150, (.iload 4, 2)), (152, (.iload_n 1, 1)), (153, (.if_icmp .ge 46, 3)), (156, (.aload_n 0, 1)), (157, (.aload_n 0, 1)), (158, (.getfield 127, 3)), (161, (.iload_n 3, 1)), (162, (.iaload, 1)), (163, (.aload_n 0, 1)), (164, (.getfield 127, 3)), (167, (.iload 4, 2)), (169, (.iaload, 1)), (170, (.invokevirtual 279, 3)), (173, (.ifCond .eq 20, 3)), (176, (.aload_n 0, 1)), (177, (.getfield 130, 3)), (180, (.iload_n 3, 1)), (181, (.aload_n 0, 1)), (182, (.getfield 130, 3)), (185, (.iload_n 3, 1)), (186, (.iaload, 1)), (187, (.iconst 1, 1)), (188, (.iload 4, 2)), (190, (.ishl, 1)), (191, (.ior, 1)), (192, (.iastore, 1)), (193, (.iinc 4 1, 3)), (196, (.goto (-46), 3)), (199, (.iinc 3 1, 3)), (202, (.goto (-67), 3)), (205, (.iconst 1, 1)), (206, (.ireturn, 1))]
theorem dm_X12_takesPast : ∀ q ∈ tb_X12_takesPast, decode zX12_takesPast.2.1 q.1 = .ok q.2 := by decide +kernel
def b_X12_takesPast_150 (n : Nat) (K135 : Int32 → Int32 → qM → qR) (K150 : Int32 → Int32 → Int32 → qM → qR) (a1 a3 a4 : Int32) (M : qM) : qR :=
  (if a1 ≤ a4 then ql (a3 + (1 : Int32)) (fun x1 => K135 a1 x1 M) else qg a3 4 (qg a4 4 (qc (f_X12_isLike n (M 116 a3.toNatClampNeg) (M 116 a4.toNatClampNeg) M) (fun r2 m3 => (if r2 = (0 : Int32) then ql (a4 + (1 : Int32)) (fun x4 => K150 a1 a3 x4 m3) else qg a3 4 (qg a3 4 (qlm (mu m3 117 a3.toNatClampNeg ((m3 117 a3.toNatClampNeg) ||| ((1 : Int32) <<< (a4 &&& 31)))) (fun m5 => ql (a4 + (1 : Int32)) (fun x6 => K150 a1 a3 x6 m5)))))))))
set_option maxRecDepth 4000 in
theorem wb_X12_takesPast_150 {g : qG} {k : qK} (n : Nat) (j r : Nat) (hj : q_isLaw j) (hr : q_isLaw r) (o : qOk g 3 zX12_takesPast k) (K135 : Int32 → Int32 → qM → qR) (hK135 : ∀ (a1 a3 : Int32) (M : qM), qAE g k zX12_takesPast (qL j r) 135 [some (.inr (some 77)), some (.inl a1), none, some (.inl a3), none] [] (qL j r, M) (K135 a1 a3 M)) (K150 : Int32 → Int32 → Int32 → qM → qR) (hK150 : ∀ (a1 a3 a4 : Int32) (M : qM), qAE g k zX12_takesPast (qL j r) 150 [some (.inr (some 77)), some (.inl a1), none, some (.inl a3), some (.inl a4)] [] (qL j r, M) (K150 a1 a3 a4 M)) (a1 a3 a4 : Int32) (M : qM) : qAE g k zX12_takesPast (qL j r) 150 [some (.inr (some 77)), some (.inl a1), none, some (.inl a3), some (.inl a4)] [] (qL j r, M) (b_X12_takesPast_150 n K135 K150 a1 a3 a4 M) := by
  unfold b_X12_takesPast_150
  refine qr_iload o (q_dm dm_X12_takesPast 94 rfl) rfl ?_
  refine qr_iload_n o (q_dm dm_X12_takesPast 95 rfl) rfl ?_
  refine qr_icmp_ge (tgt := 199) o (q_dm dm_X12_takesPast 96 rfl) (by decide) ?_ ?_
  · refine qs_iincl2 (L' := fun x1 => [some (.inr (some 77)), some (.inl a1), none, some (.inl x1), some (.inl a4)]) o (q_dm dm_X12_takesPast 122 rfl) rfl ic_1 (Nat.le_of_ble_eq_true rfl) (fun _ => rfl) (fun x1 => ?_)
    refine qr_goto (tgt := 135) o (q_dm dm_X12_takesPast 123 rfl) (by decide) ?_
    exact qr_loc (q_leS (q_leS (q_leN (q_leS (q_leN q_le0))))) (hK135 a1 x1 M)
  · refine qr_aload_n o (q_dm dm_X12_takesPast 97 rfl) rfl ?_
    refine qr_aload_n o (q_dm dm_X12_takesPast 98 rfl) rfl ?_
    refine qr_getr (kf := 62) o cf_X12 (sh77 j r) rfl (Nat.le_of_ble_eq_true rfl) fl_X12_127 (q_dm dm_X12_takesPast 99 rfl) ?_
    refine qr_iload_n o (q_dm dm_X12_takesPast 100 rfl) rfl ?_
    refine qr_iald o (sh116 j r) (q_dm dm_X12_takesPast 101 rfl) ?_
    refine qr_aload_n o (q_dm dm_X12_takesPast 102 rfl) rfl ?_
    refine qr_getr (kf := 62) o cf_X12 (sh77 j r) rfl (Nat.le_of_ble_eq_true rfl) fl_X12_127 (q_dm dm_X12_takesPast 103 rfl) ?_
    refine qr_iload o (q_dm dm_X12_takesPast 104 rfl) rfl ?_
    refine qr_iald o (sh116 j r) (q_dm dm_X12_takesPast 105 rfl) ?_
    refine qr_callv_i (As := [.inl (M 116 a3.toNatClampNeg), .inl (M 116 a4.toNatClampNeg)]) (S := []) o (a_X12_isLike g k.2.1 n j r hj hr (M 116 a3.toNatClampNeg) (M 116 a4.toNatClampNeg) M) (Nat.le_of_ble_eq_true rfl) zv_X12_isLike rfl cf_X12 (sh77 j r) ml_X12_279 (Nat.le_of_ble_eq_true rfl) (q_dm dm_X12_takesPast 106 rfl) (fun r2 m3 => ?_)
    refine qr_if_eq (tgt := 193) o (q_dm dm_X12_takesPast 107 rfl) (by decide) ?_ ?_
    · refine qs_iincl2 (L' := fun x4 => [some (.inr (some 77)), some (.inl a1), none, some (.inl a3), some (.inl x4)]) o (q_dm dm_X12_takesPast 120 rfl) rfl ic_1 (Nat.le_of_ble_eq_true rfl) (fun _ => rfl) (fun x4 => ?_)
      refine qr_goto (tgt := 150) o (q_dm dm_X12_takesPast 121 rfl) (by decide) ?_
      exact qr_loc (q_leS (q_leS (q_leN (q_leS (q_leS q_le0))))) (hK150 a1 a3 x4 m3)
    · refine qr_aload_n o (q_dm dm_X12_takesPast 108 rfl) rfl ?_
      refine qr_getr (kf := 63) o cf_X12 (sh77 j r) rfl (Nat.le_of_ble_eq_true rfl) fl_X12_130 (q_dm dm_X12_takesPast 109 rfl) ?_
      refine qr_iload_n o (q_dm dm_X12_takesPast 110 rfl) rfl ?_
      refine qr_aload_n o (q_dm dm_X12_takesPast 111 rfl) rfl ?_
      refine qr_getr (kf := 63) o cf_X12 (sh77 j r) rfl (Nat.le_of_ble_eq_true rfl) fl_X12_130 (q_dm dm_X12_takesPast 112 rfl) ?_
      refine qr_iload_n o (q_dm dm_X12_takesPast 113 rfl) rfl ?_
      refine qr_iald o (sh117 j r) (q_dm dm_X12_takesPast 114 rfl) ?_
      refine qr_iconst o (q_dm dm_X12_takesPast 115 rfl) ic_1 ?_
      refine qr_iload o (q_dm dm_X12_takesPast 116 rfl) rfl ?_
      refine qr_ishl o (q_dm dm_X12_takesPast 117 rfl) ?_
      refine qr_ior o (q_dm dm_X12_takesPast 118 rfl) ?_
      refine qr_iast o (sh117 j r) (q_dm dm_X12_takesPast 119 rfl) ?_
      refine qr_letm (fun m5 => ?_)
      refine qs_iincl2 (L' := fun x6 => [some (.inr (some 77)), some (.inl a1), none, some (.inl a3), some (.inl x6)]) o (q_dm dm_X12_takesPast 120 rfl) rfl ic_1 (Nat.le_of_ble_eq_true rfl) (fun _ => rfl) (fun x6 => ?_)
      refine qr_goto (tgt := 150) o (q_dm dm_X12_takesPast 121 rfl) (by decide) ?_
      exact qr_loc (q_leS (q_leS (q_leN (q_leS (q_leS q_le0))))) (hK150 a1 a3 x6 m5)

def f_X12_takesPast_150 (n : Nat) (K135 : Int32 → Int32 → qM → qR) : Nat → Int32 → Int32 → Int32 → qM → qR
  | 0, _, _, _, _ => none
  | m + 1, a1, a3, a4, M => b_X12_takesPast_150 n K135 (f_X12_takesPast_150 n K135 m) a1 a3 a4 M
theorem w_X12_takesPast_150 {g : qG} {k : qK} (n : Nat) (j r : Nat) (hj : q_isLaw j) (hr : q_isLaw r) (o : qOk g 3 zX12_takesPast k) (K135 : Int32 → Int32 → qM → qR) (hK135 : ∀ (a1 a3 : Int32) (M : qM), qAE g k zX12_takesPast (qL j r) 135 [some (.inr (some 77)), some (.inl a1), none, some (.inl a3), none] [] (qL j r, M) (K135 a1 a3 M)) : ∀ (m : Nat) (a1 a3 a4 : Int32) (M : qM), qAE g k zX12_takesPast (qL j r) 150 [some (.inr (some 77)), some (.inl a1), none, some (.inl a3), some (.inl a4)] [] (qL j r, M) (f_X12_takesPast_150 n K135 m a1 a3 a4 M) := by
  intro m
  induction m with
  | zero =>
    intro a1 a3 a4 M
    exact qr_none
  | succ m ih =>
    intro a1 a3 a4 M
    exact wb_X12_takesPast_150 n j r hj hr o K135 hK135 (f_X12_takesPast_150 n K135 m) ih a1 a3 a4 M
def b_X12_takesPast_135 (n : Nat) (K135 : Int32 → Int32 → qM → qR) (a1 a3 : Int32) (M : qM) : qR :=
  (if a1 ≤ a3 then some ((1 : Int32), M) else qg a3 4 (qlm (mu M 117 a3.toNatClampNeg (0 : Int32)) (fun m1 => f_X12_takesPast_150 n K135 n a1 a3 (0 : Int32) m1)))
set_option maxRecDepth 4000 in
theorem wb_X12_takesPast_135 {g : qG} {k : qK} (n : Nat) (j r : Nat) (hj : q_isLaw j) (hr : q_isLaw r) (o : qOk g 3 zX12_takesPast k) (K135 : Int32 → Int32 → qM → qR) (hK135 : ∀ (a1 a3 : Int32) (M : qM), qAE g k zX12_takesPast (qL j r) 135 [some (.inr (some 77)), some (.inl a1), none, some (.inl a3), none] [] (qL j r, M) (K135 a1 a3 M)) (a1 a3 : Int32) (M : qM) : qAE g k zX12_takesPast (qL j r) 135 [some (.inr (some 77)), some (.inl a1), none, some (.inl a3), none] [] (qL j r, M) (b_X12_takesPast_135 n K135 a1 a3 M) := by
  unfold b_X12_takesPast_135
  refine qr_iload_n o (q_dm dm_X12_takesPast 84 rfl) rfl ?_
  refine qr_iload_n o (q_dm dm_X12_takesPast 85 rfl) rfl ?_
  refine qr_icmp_ge (tgt := 205) o (q_dm dm_X12_takesPast 86 rfl) (by decide) ?_ ?_
  · refine qr_iconst o (q_dm dm_X12_takesPast 124 rfl) ic_1 ?_
    exact qr_iret o rfl (by decide) (q_dm dm_X12_takesPast 125 rfl)
  · refine qr_aload_n o (q_dm dm_X12_takesPast 87 rfl) rfl ?_
    refine qr_getr (kf := 63) o cf_X12 (sh77 j r) rfl (Nat.le_of_ble_eq_true rfl) fl_X12_130 (q_dm dm_X12_takesPast 88 rfl) ?_
    refine qr_iload_n o (q_dm dm_X12_takesPast 89 rfl) rfl ?_
    refine qr_iconst o (q_dm dm_X12_takesPast 90 rfl) ic_0 ?_
    refine qr_iast o (sh117 j r) (q_dm dm_X12_takesPast 91 rfl) ?_
    refine qr_letm (fun m1 => ?_)
    refine qr_iconst o (q_dm dm_X12_takesPast 92 rfl) ic_0 ?_
    refine qs_istore (L' := [some (.inr (some 77)), some (.inl a1), none, some (.inl a3), some (.inl (0 : Int32))]) o (q_dm dm_X12_takesPast 93 rfl) (Nat.le_of_ble_eq_true rfl) rfl ?_
    exact qr_loc (q_leS (q_leS (q_leN (q_leS (q_leS q_le0))))) (w_X12_takesPast_150 n j r hj hr o K135 hK135 n a1 a3 (0 : Int32) m1)

def f_X12_takesPast_135 (n : Nat) : Nat → Int32 → Int32 → qM → qR
  | 0, _, _, _ => none
  | m + 1, a1, a3, M => b_X12_takesPast_135 n (f_X12_takesPast_135 n m) a1 a3 M
theorem w_X12_takesPast_135 {g : qG} {k : qK} (n : Nat) (j r : Nat) (hj : q_isLaw j) (hr : q_isLaw r) (o : qOk g 3 zX12_takesPast k) : ∀ (m : Nat) (a1 a3 : Int32) (M : qM), qAE g k zX12_takesPast (qL j r) 135 [some (.inr (some 77)), some (.inl a1), none, some (.inl a3), none] [] (qL j r, M) (f_X12_takesPast_135 n m a1 a3 M) := by
  intro m
  induction m with
  | zero =>
    intro a1 a3 M
    exact qr_none
  | succ m ih =>
    intro a1 a3 M
    exact wb_X12_takesPast_135 n j r hj hr o (f_X12_takesPast_135 n m) ih a1 a3 M
def b_X12_takesPast_80 (n : Nat) (K80 : Int32 → Int32 → Int32 → qM → qR) (a1 a2 a3 : Int32) (M : qM) : qR :=
  (if a2 ≤ a3 then f_X12_takesPast_135 n n a1 (0 : Int32) M else qg (a1 + ((2 : Int32) * a3)) 260 (qc (f_X12_in n (M 84 (a1 + ((2 : Int32) * a3)).toNatClampNeg) (0 : Int32) (a1 - (1 : Int32)) M) (fun r1 m2 => (if r1 = (0 : Int32) then some ((0 : Int32), m2) else qg ((a1 + ((2 : Int32) * a3)) + (1 : Int32)) 260 (qc (f_X12_in n (m2 84 ((a1 + ((2 : Int32) * a3)) + (1 : Int32)).toNatClampNeg) (0 : Int32) (1 : Int32) m2) (fun r3 m4 => (if r3 = (0 : Int32) then some ((0 : Int32), m4) else ql (a3 + (1 : Int32)) (fun x5 => K80 a1 a2 x5 m4))))))))
set_option maxRecDepth 4000 in
theorem wb_X12_takesPast_80 {g : qG} {k : qK} (n : Nat) (j r : Nat) (hj : q_isLaw j) (hr : q_isLaw r) (o : qOk g 3 zX12_takesPast k) (K80 : Int32 → Int32 → Int32 → qM → qR) (hK80 : ∀ (a1 a2 a3 : Int32) (M : qM), qAE g k zX12_takesPast (qL j r) 80 [some (.inr (some 77)), some (.inl a1), some (.inl a2), some (.inl a3), none] [] (qL j r, M) (K80 a1 a2 a3 M)) (a1 a2 a3 : Int32) (M : qM) : qAE g k zX12_takesPast (qL j r) 80 [some (.inr (some 77)), some (.inl a1), some (.inl a2), some (.inl a3), none] [] (qL j r, M) (b_X12_takesPast_80 n K80 a1 a2 a3 M) := by
  unfold b_X12_takesPast_80
  refine qr_iload_n o (q_dm dm_X12_takesPast 47 rfl) rfl ?_
  refine qr_iload_n o (q_dm dm_X12_takesPast 48 rfl) rfl ?_
  refine qr_icmp_ge (tgt := 133) o (q_dm dm_X12_takesPast 49 rfl) (by decide) ?_ ?_
  · refine qr_iconst o (q_dm dm_X12_takesPast 82 rfl) ic_0 ?_
    refine qs_istore_n (L' := [some (.inr (some 77)), some (.inl a1), some (.inl a2), some (.inl (0 : Int32)), none]) o (q_dm dm_X12_takesPast 83 rfl) (Nat.le_of_ble_eq_true rfl) rfl ?_
    exact qr_loc (q_leS (q_leS (q_leN (q_leS (q_leN q_le0))))) (w_X12_takesPast_135 n j r hj hr o n a1 (0 : Int32) M)
  · refine qr_aload_n o (q_dm dm_X12_takesPast 50 rfl) rfl ?_
    refine qr_getr (kf := 7) o cf_X12 (sh77 j r) rfl (Nat.le_of_ble_eq_true rfl) fl_X12_28 (q_dm dm_X12_takesPast 51 rfl) ?_
    refine qr_iload_n o (q_dm dm_X12_takesPast 52 rfl) rfl ?_
    refine qr_iconst o (q_dm dm_X12_takesPast 53 rfl) ic_2 ?_
    refine qr_iload_n o (q_dm dm_X12_takesPast 54 rfl) rfl ?_
    refine qr_imul o (q_dm dm_X12_takesPast 55 rfl) ?_
    refine qr_iadd o (q_dm dm_X12_takesPast 56 rfl) ?_
    refine qr_bald o (sh84 j r) (q_dm dm_X12_takesPast 57 rfl) ?_
    refine qr_iconst o (q_dm dm_X12_takesPast 58 rfl) ic_0 ?_
    refine qr_iload_n o (q_dm dm_X12_takesPast 59 rfl) rfl ?_
    refine qr_iconst o (q_dm dm_X12_takesPast 60 rfl) ic_1 ?_
    refine qr_isub o (q_dm dm_X12_takesPast 61 rfl) ?_
    refine qr_calls_i (As := [.inl (M 84 (a1 + ((2 : Int32) * a3)).toNatClampNeg), .inl (0 : Int32), .inl (a1 - (1 : Int32))]) (S := []) o (a_X12_in g k.2.1 n j r hj hr (M 84 (a1 + ((2 : Int32) * a3)).toNatClampNeg) (0 : Int32) (a1 - (1 : Int32)) M) (Nat.le_of_ble_eq_true rfl) zs_X12_in rfl ml_X12_153 (Nat.le_of_ble_eq_true rfl) (q_dm dm_X12_takesPast 62 rfl) (fun r1 m2 => ?_)
    refine qr_if_eq (tgt := 125) o (q_dm dm_X12_takesPast 63 rfl) (by decide) ?_ ?_
    · refine qr_iconst o (q_dm dm_X12_takesPast 78 rfl) ic_0 ?_
      exact qr_iret o rfl (by decide) (q_dm dm_X12_takesPast 79 rfl)
    · refine qr_aload_n o (q_dm dm_X12_takesPast 64 rfl) rfl ?_
      refine qr_getr (kf := 7) o cf_X12 (sh77 j r) rfl (Nat.le_of_ble_eq_true rfl) fl_X12_28 (q_dm dm_X12_takesPast 65 rfl) ?_
      refine qr_iload_n o (q_dm dm_X12_takesPast 66 rfl) rfl ?_
      refine qr_iconst o (q_dm dm_X12_takesPast 67 rfl) ic_2 ?_
      refine qr_iload_n o (q_dm dm_X12_takesPast 68 rfl) rfl ?_
      refine qr_imul o (q_dm dm_X12_takesPast 69 rfl) ?_
      refine qr_iadd o (q_dm dm_X12_takesPast 70 rfl) ?_
      refine qr_iconst o (q_dm dm_X12_takesPast 71 rfl) ic_1 ?_
      refine qr_iadd o (q_dm dm_X12_takesPast 72 rfl) ?_
      refine qr_bald o (sh84 j r) (q_dm dm_X12_takesPast 73 rfl) ?_
      refine qr_iconst o (q_dm dm_X12_takesPast 74 rfl) ic_0 ?_
      refine qr_iconst o (q_dm dm_X12_takesPast 75 rfl) ic_1 ?_
      refine qr_calls_i (As := [.inl (m2 84 ((a1 + ((2 : Int32) * a3)) + (1 : Int32)).toNatClampNeg), .inl (0 : Int32), .inl (1 : Int32)]) (S := []) o (a_X12_in g k.2.1 n j r hj hr (m2 84 ((a1 + ((2 : Int32) * a3)) + (1 : Int32)).toNatClampNeg) (0 : Int32) (1 : Int32) m2) (Nat.le_of_ble_eq_true rfl) zs_X12_in rfl ml_X12_153 (Nat.le_of_ble_eq_true rfl) (q_dm dm_X12_takesPast 76 rfl) (fun r3 m4 => ?_)
      refine qr_if_ne (tgt := 127) o (q_dm dm_X12_takesPast 77 rfl) (by decide) ?_ ?_
      · refine qs_iincl2 (L' := fun x5 => [some (.inr (some 77)), some (.inl a1), some (.inl a2), some (.inl x5), none]) o (q_dm dm_X12_takesPast 80 rfl) rfl ic_1 (Nat.le_of_ble_eq_true rfl) (fun _ => rfl) (fun x5 => ?_)
        refine qr_goto (tgt := 80) o (q_dm dm_X12_takesPast 81 rfl) (by decide) ?_
        exact qr_loc (q_leS (q_leS (q_leS (q_leS (q_leN q_le0))))) (hK80 a1 a2 x5 m4)
      · refine qr_iconst o (q_dm dm_X12_takesPast 78 rfl) ic_0 ?_
        exact qr_iret o rfl (by decide) (q_dm dm_X12_takesPast 79 rfl)

def f_X12_takesPast_80 (n : Nat) : Nat → Int32 → Int32 → Int32 → qM → qR
  | 0, _, _, _, _ => none
  | m + 1, a1, a2, a3, M => b_X12_takesPast_80 n (f_X12_takesPast_80 n m) a1 a2 a3 M
theorem w_X12_takesPast_80 {g : qG} {k : qK} (n : Nat) (j r : Nat) (hj : q_isLaw j) (hr : q_isLaw r) (o : qOk g 3 zX12_takesPast k) : ∀ (m : Nat) (a1 a2 a3 : Int32) (M : qM), qAE g k zX12_takesPast (qL j r) 80 [some (.inr (some 77)), some (.inl a1), some (.inl a2), some (.inl a3), none] [] (qL j r, M) (f_X12_takesPast_80 n m a1 a2 a3 M) := by
  intro m
  induction m with
  | zero =>
    intro a1 a2 a3 M
    exact qr_none
  | succ m ih =>
    intro a1 a2 a3 M
    exact wb_X12_takesPast_80 n j r hj hr o (f_X12_takesPast_80 n m) ih a1 a2 a3 M
def b_X12_takesPast_42 (n : Nat) (K7 : Int32 → Int32 → Int32 → qM → qR) (K42 : Int32 → Int32 → Int32 → Int32 → qM → qR) (a1 a2 a3 a4 : Int32) (M : qM) : qR :=
  (if a3 ≤ a4 then ql (a3 + (1 : Int32)) (fun x1 => K7 a1 a2 x1 M) else qg a4 4 (qg a3 4 ((if (M 116 a4.toNatClampNeg) = (M 116 a3.toNatClampNeg) then some ((0 : Int32), M) else ql (a4 + (1 : Int32)) (fun x2 => K42 a1 a2 a3 x2 M)))))
set_option maxRecDepth 4000 in
theorem wb_X12_takesPast_42 {g : qG} {k : qK} (n : Nat) (j r : Nat) (hj : q_isLaw j) (hr : q_isLaw r) (o : qOk g 3 zX12_takesPast k) (K7 : Int32 → Int32 → Int32 → qM → qR) (hK7 : ∀ (a1 a2 a3 : Int32) (M : qM), qAE g k zX12_takesPast (qL j r) 7 [some (.inr (some 77)), some (.inl a1), some (.inl a2), some (.inl a3), none] [] (qL j r, M) (K7 a1 a2 a3 M)) (K42 : Int32 → Int32 → Int32 → Int32 → qM → qR) (hK42 : ∀ (a1 a2 a3 a4 : Int32) (M : qM), qAE g k zX12_takesPast (qL j r) 42 [some (.inr (some 77)), some (.inl a1), some (.inl a2), some (.inl a3), some (.inl a4)] [] (qL j r, M) (K42 a1 a2 a3 a4 M)) (a1 a2 a3 a4 : Int32) (M : qM) : qAE g k zX12_takesPast (qL j r) 42 [some (.inr (some 77)), some (.inl a1), some (.inl a2), some (.inl a3), some (.inl a4)] [] (qL j r, M) (b_X12_takesPast_42 n K7 K42 a1 a2 a3 a4 M) := by
  unfold b_X12_takesPast_42
  refine qr_iload o (q_dm dm_X12_takesPast 27 rfl) rfl ?_
  refine qr_iload_n o (q_dm dm_X12_takesPast 28 rfl) rfl ?_
  refine qr_icmp_ge (tgt := 72) o (q_dm dm_X12_takesPast 29 rfl) (by decide) ?_ ?_
  · refine qs_iincl2 (L' := fun x1 => [some (.inr (some 77)), some (.inl a1), some (.inl a2), some (.inl x1), some (.inl a4)]) o (q_dm dm_X12_takesPast 43 rfl) rfl ic_1 (Nat.le_of_ble_eq_true rfl) (fun _ => rfl) (fun x1 => ?_)
    refine qr_goto (tgt := 7) o (q_dm dm_X12_takesPast 44 rfl) (by decide) ?_
    exact qr_loc (q_leS (q_leS (q_leS (q_leS (q_leN q_le0))))) (hK7 a1 a2 x1 M)
  · refine qr_aload_n o (q_dm dm_X12_takesPast 30 rfl) rfl ?_
    refine qr_getr (kf := 62) o cf_X12 (sh77 j r) rfl (Nat.le_of_ble_eq_true rfl) fl_X12_127 (q_dm dm_X12_takesPast 31 rfl) ?_
    refine qr_iload o (q_dm dm_X12_takesPast 32 rfl) rfl ?_
    refine qr_iald o (sh116 j r) (q_dm dm_X12_takesPast 33 rfl) ?_
    refine qr_aload_n o (q_dm dm_X12_takesPast 34 rfl) rfl ?_
    refine qr_getr (kf := 62) o cf_X12 (sh77 j r) rfl (Nat.le_of_ble_eq_true rfl) fl_X12_127 (q_dm dm_X12_takesPast 35 rfl) ?_
    refine qr_iload_n o (q_dm dm_X12_takesPast 36 rfl) rfl ?_
    refine qr_iald o (sh116 j r) (q_dm dm_X12_takesPast 37 rfl) ?_
    refine qr_icmp_ne (tgt := 66) o (q_dm dm_X12_takesPast 38 rfl) (by decide) ?_ ?_
    · refine qs_iincl2 (L' := fun x2 => [some (.inr (some 77)), some (.inl a1), some (.inl a2), some (.inl a3), some (.inl x2)]) o (q_dm dm_X12_takesPast 41 rfl) rfl ic_1 (Nat.le_of_ble_eq_true rfl) (fun _ => rfl) (fun x2 => ?_)
      refine qr_goto (tgt := 42) o (q_dm dm_X12_takesPast 42 rfl) (by decide) ?_
      exact qr_loc (q_leS (q_leS (q_leS (q_leS (q_leS q_le0))))) (hK42 a1 a2 a3 x2 M)
    · refine qr_iconst o (q_dm dm_X12_takesPast 39 rfl) ic_0 ?_
      exact qr_iret o rfl (by decide) (q_dm dm_X12_takesPast 40 rfl)

def f_X12_takesPast_42 (n : Nat) (K7 : Int32 → Int32 → Int32 → qM → qR) : Nat → Int32 → Int32 → Int32 → Int32 → qM → qR
  | 0, _, _, _, _, _ => none
  | m + 1, a1, a2, a3, a4, M => b_X12_takesPast_42 n K7 (f_X12_takesPast_42 n K7 m) a1 a2 a3 a4 M
theorem w_X12_takesPast_42 {g : qG} {k : qK} (n : Nat) (j r : Nat) (hj : q_isLaw j) (hr : q_isLaw r) (o : qOk g 3 zX12_takesPast k) (K7 : Int32 → Int32 → Int32 → qM → qR) (hK7 : ∀ (a1 a2 a3 : Int32) (M : qM), qAE g k zX12_takesPast (qL j r) 7 [some (.inr (some 77)), some (.inl a1), some (.inl a2), some (.inl a3), none] [] (qL j r, M) (K7 a1 a2 a3 M)) : ∀ (m : Nat) (a1 a2 a3 a4 : Int32) (M : qM), qAE g k zX12_takesPast (qL j r) 42 [some (.inr (some 77)), some (.inl a1), some (.inl a2), some (.inl a3), some (.inl a4)] [] (qL j r, M) (f_X12_takesPast_42 n K7 m a1 a2 a3 a4 M) := by
  intro m
  induction m with
  | zero =>
    intro a1 a2 a3 a4 M
    exact qr_none
  | succ m ih =>
    intro a1 a2 a3 a4 M
    exact wb_X12_takesPast_42 n j r hj hr o K7 hK7 (f_X12_takesPast_42 n K7 m) ih a1 a2 a3 a4 M
def b_X12_takesPast_7 (n : Nat) (K7 : Int32 → Int32 → Int32 → qM → qR) (a1 a2 a3 : Int32) (M : qM) : qR :=
  (if a1 ≤ a3 then f_X12_takesPast_80 n n a1 a2 (0 : Int32) M else qg a3 260 (qg a3 4 (qlm (mu M 116 a3.toNatClampNeg (M 84 a3.toNatClampNeg)) (fun m1 => qg a3 4 (qc (f_X12_isKind n (m1 116 a3.toNatClampNeg) m1) (fun r2 m3 => (if r2 = (0 : Int32) then some ((0 : Int32), m3) else f_X12_takesPast_42 n K7 n a1 a2 a3 (0 : Int32) m3)))))))
set_option maxRecDepth 4000 in
theorem wb_X12_takesPast_7 {g : qG} {k : qK} (n : Nat) (j r : Nat) (hj : q_isLaw j) (hr : q_isLaw r) (o : qOk g 3 zX12_takesPast k) (K7 : Int32 → Int32 → Int32 → qM → qR) (hK7 : ∀ (a1 a2 a3 : Int32) (M : qM), qAE g k zX12_takesPast (qL j r) 7 [some (.inr (some 77)), some (.inl a1), some (.inl a2), some (.inl a3), none] [] (qL j r, M) (K7 a1 a2 a3 M)) (a1 a2 a3 : Int32) (M : qM) : qAE g k zX12_takesPast (qL j r) 7 [some (.inr (some 77)), some (.inl a1), some (.inl a2), some (.inl a3), none] [] (qL j r, M) (b_X12_takesPast_7 n K7 a1 a2 a3 M) := by
  unfold b_X12_takesPast_7
  refine qr_iload_n o (q_dm dm_X12_takesPast 5 rfl) rfl ?_
  refine qr_iload_n o (q_dm dm_X12_takesPast 6 rfl) rfl ?_
  refine qr_icmp_ge (tgt := 78) o (q_dm dm_X12_takesPast 7 rfl) (by decide) ?_ ?_
  · refine qr_iconst o (q_dm dm_X12_takesPast 45 rfl) ic_0 ?_
    refine qs_istore_n (L' := [some (.inr (some 77)), some (.inl a1), some (.inl a2), some (.inl (0 : Int32)), none]) o (q_dm dm_X12_takesPast 46 rfl) (Nat.le_of_ble_eq_true rfl) rfl ?_
    exact qr_loc (q_leS (q_leS (q_leS (q_leS (q_leN q_le0))))) (w_X12_takesPast_80 n j r hj hr o n a1 a2 (0 : Int32) M)
  · refine qr_aload_n o (q_dm dm_X12_takesPast 8 rfl) rfl ?_
    refine qr_getr (kf := 62) o cf_X12 (sh77 j r) rfl (Nat.le_of_ble_eq_true rfl) fl_X12_127 (q_dm dm_X12_takesPast 9 rfl) ?_
    refine qr_iload_n o (q_dm dm_X12_takesPast 10 rfl) rfl ?_
    refine qr_aload_n o (q_dm dm_X12_takesPast 11 rfl) rfl ?_
    refine qr_getr (kf := 7) o cf_X12 (sh77 j r) rfl (Nat.le_of_ble_eq_true rfl) fl_X12_28 (q_dm dm_X12_takesPast 12 rfl) ?_
    refine qr_iload_n o (q_dm dm_X12_takesPast 13 rfl) rfl ?_
    refine qr_bald o (sh84 j r) (q_dm dm_X12_takesPast 14 rfl) ?_
    refine qr_iast o (sh116 j r) (q_dm dm_X12_takesPast 15 rfl) ?_
    refine qr_letm (fun m1 => ?_)
    refine qr_aload_n o (q_dm dm_X12_takesPast 16 rfl) rfl ?_
    refine qr_aload_n o (q_dm dm_X12_takesPast 17 rfl) rfl ?_
    refine qr_getr (kf := 62) o cf_X12 (sh77 j r) rfl (Nat.le_of_ble_eq_true rfl) fl_X12_127 (q_dm dm_X12_takesPast 18 rfl) ?_
    refine qr_iload_n o (q_dm dm_X12_takesPast 19 rfl) rfl ?_
    refine qr_iald o (sh116 j r) (q_dm dm_X12_takesPast 20 rfl) ?_
    refine qr_callv_i (As := [.inl (m1 116 a3.toNatClampNeg)]) (S := []) o (a_X12_isKind g k.2.1 n j r hj hr (m1 116 a3.toNatClampNeg) m1) (Nat.le_of_ble_eq_true rfl) zv_X12_isKind rfl cf_X12 (sh77 j r) ml_X12_157 (Nat.le_of_ble_eq_true rfl) (q_dm dm_X12_takesPast 21 rfl) (fun r2 m3 => ?_)
    refine qr_if_ne (tgt := 39) o (q_dm dm_X12_takesPast 22 rfl) (by decide) ?_ ?_
    · refine qr_iconst o (q_dm dm_X12_takesPast 25 rfl) ic_0 ?_
      refine qs_istore (L' := [some (.inr (some 77)), some (.inl a1), some (.inl a2), some (.inl a3), some (.inl (0 : Int32))]) o (q_dm dm_X12_takesPast 26 rfl) (Nat.le_of_ble_eq_true rfl) rfl ?_
      exact qr_loc (q_leS (q_leS (q_leS (q_leS (q_leS q_le0))))) (w_X12_takesPast_42 n j r hj hr o K7 hK7 n a1 a2 a3 (0 : Int32) m3)
    · refine qr_iconst o (q_dm dm_X12_takesPast 23 rfl) ic_0 ?_
      exact qr_iret o rfl (by decide) (q_dm dm_X12_takesPast 24 rfl)

def f_X12_takesPast_7 (n : Nat) : Nat → Int32 → Int32 → Int32 → qM → qR
  | 0, _, _, _, _ => none
  | m + 1, a1, a2, a3, M => b_X12_takesPast_7 n (f_X12_takesPast_7 n m) a1 a2 a3 M
theorem w_X12_takesPast_7 {g : qG} {k : qK} (n : Nat) (j r : Nat) (hj : q_isLaw j) (hr : q_isLaw r) (o : qOk g 3 zX12_takesPast k) : ∀ (m : Nat) (a1 a2 a3 : Int32) (M : qM), qAE g k zX12_takesPast (qL j r) 7 [some (.inr (some 77)), some (.inl a1), some (.inl a2), some (.inl a3), none] [] (qL j r, M) (f_X12_takesPast_7 n m a1 a2 a3 M) := by
  intro m
  induction m with
  | zero =>
    intro a1 a2 a3 M
    exact qr_none
  | succ m ih =>
    intro a1 a2 a3 M
    exact wb_X12_takesPast_7 n j r hj hr o (f_X12_takesPast_7 n m) ih a1 a2 a3 M
def f_X12_takesPast (n : Nat) (a1 a2 : Int32) (M : qM) : qR :=
  qlm (mu M 77 61 a1) (fun m1 => f_X12_takesPast_7 n n a1 a2 (0 : Int32) m1)
set_option maxRecDepth 4000 in
theorem w_X12_takesPast {g : qG} {k : qK} (n : Nat) (j r : Nat) (hj : q_isLaw j) (hr : q_isLaw r) (o : qOk g 3 zX12_takesPast k) (a1 a2 : Int32) (M : qM) : qAE g k zX12_takesPast (qL j r) 0 [some (.inr (some 77)), some (.inl a1), some (.inl a2), none, none] [] (qL j r, M) (f_X12_takesPast n a1 a2 M) := by
  unfold f_X12_takesPast
  refine qr_aload_n o (q_dm dm_X12_takesPast 0 rfl) rfl ?_
  refine qr_iload_n o (q_dm dm_X12_takesPast 1 rfl) rfl ?_
  refine qr_putf (kf := 61) o cf_X12 (sh77 j r) rfl (Nat.le_of_ble_eq_true rfl) fl_X12_454 rfl (by decide +kernel) (q_dm dm_X12_takesPast 2 rfl) ?_
  refine qr_letm (fun m1 => ?_)
  refine qr_iconst o (q_dm dm_X12_takesPast 3 rfl) ic_0 ?_
  refine qs_istore_n (L' := [some (.inr (some 77)), some (.inl a1), some (.inl a2), some (.inl (0 : Int32)), none]) o (q_dm dm_X12_takesPast 4 rfl) (Nat.le_of_ble_eq_true rfl) rfl ?_
  exact qr_loc (q_leS (q_leS (q_leS (q_leS (q_leN q_le0))))) (w_X12_takesPast_7 n j r hj hr o n a1 a2 (0 : Int32) m1)

theorem a_X12_takesPast (g : qG) (l : Launch) (n : Nat) (j r : Nat) (hj : q_isLaw j) (hr : q_isLaw r) (a1 a2 : Int32) (M : qM) : qAM g l 3 zX12_takesPast (qL j r) [.inr (some 77), .inl a1, .inl a2] (qL j r, M) (f_X12_takesPast n a1 a2 M) :=
  qAM.of zv_X12_takesPast.1 (by show 3 ≤ 5; decide) (fun k hk o => w_X12_takesPast n j r hj hr o a1 a2 M)
def tb_X12_histories : List (Nat × Instr × Nat) := [(0, (.iload_n 1, 1)), (1, (.iconst 1, 1)), (2, (.iconst 4, 1)), (3, (.invokestatic 153, 3)), (6, (.ifCond .eq 45, 3)), (9, (.iload_n 2, 1)), (10, (.iconst 0, 1)), (11, (.bipush 10, 2)), (13, (.invokestatic 153, 3)), (16, (.ifCond .eq 35, 3)), (19, (.iload_n 3, 1)), (20, (.iconst 0, 1)), (21, (.bipush 9, 2)), (23, (.invokestatic 153, 3)), (26, (.ifCond .eq 25, 3)), (29, (.iload 4, 2)), (31, (.iconst 0, 1)), (32, (.iconst 2, 1)), (33, (.invokestatic 153, 3)), (36, (.ifCond .eq 15, 3)), (39, (.iload_n 1, 1)), (40, (.iconst 2, 1)), (41, (.iload_n 2, 1)), (42, (.imul, 1)), (43, (.iadd, 1)), (44, (.aload_n 0, 1)), (45, (.getfield 162, 3)), (48, (.if_icmp .le 5, 3)), (51, (.iconst (-1), 1)), (52, (.ireturn, 1)), (53, (.aload_n 0, 1)), (54, (.iconst 0, 1)), (55, (.putfield 162, 3)), (58, (.aload_n 0, 1)), (59, (.iload_n 1, 1)), (60, (.iload_n 2, 1)), (61, (.invokevirtual 466, 3)), (64, (.ifCond .ne 6, 3)), (67, (.bipush (-3), 2)), (69, (.ireturn, 1)), (70, (.iconst 1, 1)), (71, (.iconst 2, 1)), (72, (.iload_n 1, 1)), (73, (.imul, 1)), (74, (.ishl, 1)), (75, (.istore 5, 2)), (77, (.iconst 0, 1)), (78, (.istore 6, 2)), (80, (.bipush (-2), 2)), (82, (.istore 7, 2)), (84, (.iconst 0, 1)), (85, (.istore 8, 2)), (87, (.iload 8, 2)), (89, (.iload 5, 2)), (91, (.if_icmp .ge 68, 3)), (94, (.aload_n 0, 1)), (95, (.getfield 136, 3)), (98, (.iload 8, 2)), (100, (.aload_n 0, 1)), (101, (.iload 8, 2)), (103, (.iload_n 2, 1)), (104, (.iload_n 3, 1)), (105, (.invokevirtual 463, 3)), (108, (.bastore, 1)), (109, (.aload_n 0, 1)), (110, (.getfield 136, 3)), (113, (.iload 8, 2)), (115, (.baload, 1)), (116, (.ifCond .eq 13, 3)), (119, (.iload 6, 2)), (121, (.ifCond .ne 8, 3)), (124, (.iload 8, 2)), (126, (.goto 5, 3)), (129, (.iload 7, 2)), (131, (.istore 7, 2)), (133, (.iload 6, 2)), (135, (.aload_n 0, 1)), (136, (.getfield 136, 3)), (139, (.iload 8, 2)), (141, (.baload, 1)), (142, (.ifCond .eq 7, 3)), (145, (.iconst 1, 1)), (146, (.goto 4, 3)), (149, (.iconst 0, 1)), (150, (.iadd, 1)), (151, (.istore 6, 2)), (153, (.iinc 8 1, 3)), (156, (.goto (-69), 3)), (159, (.iload 4, 2)), (161, (.iconst 2, 1)), (162, (.if_icmp .ge 16, 3)), (165, (.iload 4, 2)), (167, (.ifCond .ne 8, 3)), (170, (.iload 6, 2)), (172, (.goto 5, 3)), (175, (.iload 7, 2)), (177, (.ireturn, 1)), (178, (.iconst 0, 1)), (179, (.istore 8, 2)), (181, (.iconst 1, 1)), (182, (.istore 9, 2)), (184, (.iload 9, 2)), (186, (.iload_n 1, 1)), (187, (.if_icmp .ge 36, 3)), (190, (.aload_n 0, 1)), (191, (.iload 9, 2)), (193, (.iload 5, 2)), (195, (.iload_n 2, 1)), (196, (.iload_n 3, 1)), (197, (.invokevirtual 469, 3)), (200, (.aload_n 0, 1)), (201, (.iload 8, 2)), (203, (.iload 5, 2)), (205, (.iload_n 2, 1)), (206, (.iload_n 3, 1)), (207, (.invokevirtual 469, 3)), (210, (.if_icmp .ge 7, 3)), (213, (.iload 9, 2)), (215, (.istore 8, 2)), (217, (.iinc 9 1, 3)), (220, (.goto (-36), 3)), (223, (.iload 8, 2)), (225, (.ireturn, 1))]
theorem dm_X12_histories : ∀ q ∈ tb_X12_histories, decode zX12_histories.2.1 q.1 = .ok q.2 := by decide +kernel
def b_X12_histories_184 (n : Nat) (K184 : Int32 → Int32 → Int32 → Int32 → Int32 → Int32 → qM → qR) (a1 a2 a3 a5 a8 a9 : Int32) (M : qM) : qR :=
  (if a1 ≤ a9 then some (a8, M) else qc (f_X12_greaterBy n a9 a5 a2 a3 M) (fun r1 m2 => qc (f_X12_greaterBy n a8 a5 a2 a3 m2) (fun r3 m4 => (if r3 ≤ r1 then ql (a9 + (1 : Int32)) (fun x5 => K184 a1 a2 a3 a5 a8 x5 m4) else ql (a9 + (1 : Int32)) (fun x6 => K184 a1 a2 a3 a5 a9 x6 m4)))))
set_option maxRecDepth 4000 in
theorem wb_X12_histories_184 {g : qG} {k : qK} (n : Nat) (j r : Nat) (hj : q_isLaw j) (hr : q_isLaw r) (o : qOk g 4 zX12_histories k) (K184 : Int32 → Int32 → Int32 → Int32 → Int32 → Int32 → qM → qR) (hK184 : ∀ (a1 a2 a3 a5 a8 a9 : Int32) (M : qM), qAE g k zX12_histories (qL j r) 184 [some (.inr (some 77)), some (.inl a1), some (.inl a2), some (.inl a3), none, some (.inl a5), none, none, some (.inl a8), some (.inl a9)] [] (qL j r, M) (K184 a1 a2 a3 a5 a8 a9 M)) (a1 a2 a3 a5 a8 a9 : Int32) (M : qM) : qAE g k zX12_histories (qL j r) 184 [some (.inr (some 77)), some (.inl a1), some (.inl a2), some (.inl a3), none, some (.inl a5), none, none, some (.inl a8), some (.inl a9)] [] (qL j r, M) (b_X12_histories_184 n K184 a1 a2 a3 a5 a8 a9 M) := by
  unfold b_X12_histories_184
  refine qr_iload o (q_dm dm_X12_histories 101 rfl) rfl ?_
  refine qr_iload_n o (q_dm dm_X12_histories 102 rfl) rfl ?_
  refine qr_icmp_ge (tgt := 223) o (q_dm dm_X12_histories 103 rfl) (by decide) ?_ ?_
  · refine qr_iload o (q_dm dm_X12_histories 121 rfl) rfl ?_
    exact qr_iret o rfl rfl (q_dm dm_X12_histories 122 rfl)
  · refine qr_aload_n o (q_dm dm_X12_histories 104 rfl) rfl ?_
    refine qr_iload o (q_dm dm_X12_histories 105 rfl) rfl ?_
    refine qr_iload o (q_dm dm_X12_histories 106 rfl) rfl ?_
    refine qr_iload_n o (q_dm dm_X12_histories 107 rfl) rfl ?_
    refine qr_iload_n o (q_dm dm_X12_histories 108 rfl) rfl ?_
    refine qr_callv_i (As := [.inl a9, .inl a5, .inl a2, .inl a3]) (S := []) o (a_X12_greaterBy g k.2.1 n j r hj hr a9 a5 a2 a3 M) (Nat.le_of_ble_eq_true rfl) zv_X12_greaterBy rfl cf_X12 (sh77 j r) ml_X12_469 (Nat.le_of_ble_eq_true rfl) (q_dm dm_X12_histories 109 rfl) (fun r1 m2 => ?_)
    refine qr_aload_n o (q_dm dm_X12_histories 110 rfl) rfl ?_
    refine qr_iload o (q_dm dm_X12_histories 111 rfl) rfl ?_
    refine qr_iload o (q_dm dm_X12_histories 112 rfl) rfl ?_
    refine qr_iload_n o (q_dm dm_X12_histories 113 rfl) rfl ?_
    refine qr_iload_n o (q_dm dm_X12_histories 114 rfl) rfl ?_
    refine qr_callv_i (As := [.inl a8, .inl a5, .inl a2, .inl a3]) (S := [.inl r1]) o (a_X12_greaterBy g k.2.1 n j r hj hr a8 a5 a2 a3 m2) (Nat.le_of_ble_eq_true rfl) zv_X12_greaterBy rfl cf_X12 (sh77 j r) ml_X12_469 (Nat.le_of_ble_eq_true rfl) (q_dm dm_X12_histories 115 rfl) (fun r3 m4 => ?_)
    refine qr_icmp_ge (tgt := 217) o (q_dm dm_X12_histories 116 rfl) (by decide) ?_ ?_
    · refine qs_iincl2 (L' := fun x5 => [some (.inr (some 77)), some (.inl a1), some (.inl a2), some (.inl a3), none, some (.inl a5), none, none, some (.inl a8), some (.inl x5)]) o (q_dm dm_X12_histories 119 rfl) rfl ic_1 (Nat.le_of_ble_eq_true rfl) (fun _ => rfl) (fun x5 => ?_)
      refine qr_goto (tgt := 184) o (q_dm dm_X12_histories 120 rfl) (by decide) ?_
      exact qr_loc (q_leS (q_leS (q_leS (q_leS (q_leN (q_leS (q_leN (q_leN (q_leS (q_leS q_le0)))))))))) (hK184 a1 a2 a3 a5 a8 x5 m4)
    · refine qr_iload o (q_dm dm_X12_histories 117 rfl) rfl ?_
      refine qs_istore (L' := [some (.inr (some 77)), some (.inl a1), some (.inl a2), some (.inl a3), none, some (.inl a5), none, none, some (.inl a9), some (.inl a9)]) o (q_dm dm_X12_histories 118 rfl) (Nat.le_of_ble_eq_true rfl) rfl ?_
      refine qs_iincl2 (L' := fun x6 => [some (.inr (some 77)), some (.inl a1), some (.inl a2), some (.inl a3), none, some (.inl a5), none, none, some (.inl a9), some (.inl x6)]) o (q_dm dm_X12_histories 119 rfl) rfl ic_1 (Nat.le_of_ble_eq_true rfl) (fun _ => rfl) (fun x6 => ?_)
      refine qr_goto (tgt := 184) o (q_dm dm_X12_histories 120 rfl) (by decide) ?_
      exact qr_loc (q_leS (q_leS (q_leS (q_leS (q_leN (q_leS (q_leN (q_leN (q_leS (q_leS q_le0)))))))))) (hK184 a1 a2 a3 a5 a9 x6 m4)

def f_X12_histories_184 (n : Nat) : Nat → Int32 → Int32 → Int32 → Int32 → Int32 → Int32 → qM → qR
  | 0, _, _, _, _, _, _, _ => none
  | m + 1, a1, a2, a3, a5, a8, a9, M => b_X12_histories_184 n (f_X12_histories_184 n m) a1 a2 a3 a5 a8 a9 M
theorem w_X12_histories_184 {g : qG} {k : qK} (n : Nat) (j r : Nat) (hj : q_isLaw j) (hr : q_isLaw r) (o : qOk g 4 zX12_histories k) : ∀ (m : Nat) (a1 a2 a3 a5 a8 a9 : Int32) (M : qM), qAE g k zX12_histories (qL j r) 184 [some (.inr (some 77)), some (.inl a1), some (.inl a2), some (.inl a3), none, some (.inl a5), none, none, some (.inl a8), some (.inl a9)] [] (qL j r, M) (f_X12_histories_184 n m a1 a2 a3 a5 a8 a9 M) := by
  intro m
  induction m with
  | zero =>
    intro a1 a2 a3 a5 a8 a9 M
    exact qr_none
  | succ m ih =>
    intro a1 a2 a3 a5 a8 a9 M
    exact wb_X12_histories_184 n j r hj hr o (f_X12_histories_184 n m) ih a1 a2 a3 a5 a8 a9 M
def f_X12_histories_150 (n : Nat) (K87 : Int32 → Int32 → Int32 → Int32 → Int32 → Int32 → Int32 → Int32 → qM → qR) (a1 a2 a3 a4 a5 a7 a8 s0 s1 : Int32) (M : qM) : qR :=
  ql (s0 + s1) (fun x1 => ql (a8 + (1 : Int32)) (fun x2 => K87 a1 a2 a3 a4 a5 x1 a7 x2 M))
set_option maxRecDepth 4000 in
theorem w_X12_histories_150 {g : qG} {k : qK} (n : Nat) (j r : Nat) (hj : q_isLaw j) (hr : q_isLaw r) (o : qOk g 4 zX12_histories k) (K87 : Int32 → Int32 → Int32 → Int32 → Int32 → Int32 → Int32 → Int32 → qM → qR) (hK87 : ∀ (a1 a2 a3 a4 a5 a6 a7 a8 : Int32) (M : qM), qAE g k zX12_histories (qL j r) 87 [some (.inr (some 77)), some (.inl a1), some (.inl a2), some (.inl a3), some (.inl a4), some (.inl a5), some (.inl a6), some (.inl a7), some (.inl a8), none] [] (qL j r, M) (K87 a1 a2 a3 a4 a5 a6 a7 a8 M)) (a1 a2 a3 a4 a5 a7 a8 s0 s1 : Int32) (M : qM) : qAE g k zX12_histories (qL j r) 150 [some (.inr (some 77)), some (.inl a1), some (.inl a2), some (.inl a3), some (.inl a4), some (.inl a5), none, some (.inl a7), some (.inl a8), none] [.inl s1, .inl s0] (qL j r, M) (f_X12_histories_150 n K87 a1 a2 a3 a4 a5 a7 a8 s0 s1 M) := by
  unfold f_X12_histories_150
  refine qr_iadd o (q_dm dm_X12_histories 84 rfl) ?_
  refine qr_lt (fun x1 => ?_)
  refine qs_istore (L' := [some (.inr (some 77)), some (.inl a1), some (.inl a2), some (.inl a3), some (.inl a4), some (.inl a5), some (.inl x1), some (.inl a7), some (.inl a8), none]) o (q_dm dm_X12_histories 85 rfl) (Nat.le_of_ble_eq_true rfl) rfl ?_
  refine qs_iincl2 (L' := fun x2 => [some (.inr (some 77)), some (.inl a1), some (.inl a2), some (.inl a3), some (.inl a4), some (.inl a5), some (.inl x1), some (.inl a7), some (.inl x2), none]) o (q_dm dm_X12_histories 86 rfl) rfl ic_1 (Nat.le_of_ble_eq_true rfl) (fun _ => rfl) (fun x2 => ?_)
  refine qr_goto (tgt := 87) o (q_dm dm_X12_histories 87 rfl) (by decide) ?_
  exact qr_loc (q_leS (q_leS (q_leS (q_leS (q_leS (q_leS (q_leS (q_leS (q_leS (q_leN q_le0)))))))))) (hK87 a1 a2 a3 a4 a5 x1 a7 x2 M)

def f_X12_histories_131 (n : Nat) (K87 : Int32 → Int32 → Int32 → Int32 → Int32 → Int32 → Int32 → Int32 → qM → qR) (a1 a2 a3 a4 a5 a6 a8 s0 : Int32) (M : qM) : qR :=
  qg a8 256 ((if (M 119 a8.toNatClampNeg) = (0 : Int32) then f_X12_histories_150 n K87 a1 a2 a3 a4 a5 s0 a8 a6 (0 : Int32) M else f_X12_histories_150 n K87 a1 a2 a3 a4 a5 s0 a8 a6 (1 : Int32) M))
set_option maxRecDepth 4000 in
theorem w_X12_histories_131 {g : qG} {k : qK} (n : Nat) (j r : Nat) (hj : q_isLaw j) (hr : q_isLaw r) (o : qOk g 4 zX12_histories k) (K87 : Int32 → Int32 → Int32 → Int32 → Int32 → Int32 → Int32 → Int32 → qM → qR) (hK87 : ∀ (a1 a2 a3 a4 a5 a6 a7 a8 : Int32) (M : qM), qAE g k zX12_histories (qL j r) 87 [some (.inr (some 77)), some (.inl a1), some (.inl a2), some (.inl a3), some (.inl a4), some (.inl a5), some (.inl a6), some (.inl a7), some (.inl a8), none] [] (qL j r, M) (K87 a1 a2 a3 a4 a5 a6 a7 a8 M)) (a1 a2 a3 a4 a5 a6 a8 s0 : Int32) (M : qM) : qAE g k zX12_histories (qL j r) 131 [some (.inr (some 77)), some (.inl a1), some (.inl a2), some (.inl a3), some (.inl a4), some (.inl a5), some (.inl a6), none, some (.inl a8), none] [.inl s0] (qL j r, M) (f_X12_histories_131 n K87 a1 a2 a3 a4 a5 a6 a8 s0 M) := by
  unfold f_X12_histories_131
  refine qs_istore (L' := [some (.inr (some 77)), some (.inl a1), some (.inl a2), some (.inl a3), some (.inl a4), some (.inl a5), some (.inl a6), some (.inl s0), some (.inl a8), none]) o (q_dm dm_X12_histories 74 rfl) (Nat.le_of_ble_eq_true rfl) rfl ?_
  refine qr_iload o (q_dm dm_X12_histories 75 rfl) rfl ?_
  refine qr_aload_n o (q_dm dm_X12_histories 76 rfl) rfl ?_
  refine qr_getr (kf := 65) o cf_X12 (sh77 j r) rfl (Nat.le_of_ble_eq_true rfl) fl_X12_136 (q_dm dm_X12_histories 77 rfl) ?_
  refine qr_iload o (q_dm dm_X12_histories 78 rfl) rfl ?_
  refine qr_zald o (sh119 j r) (q_dm dm_X12_histories 79 rfl) ?_
  refine qr_if_eq (tgt := 149) o (q_dm dm_X12_histories 80 rfl) (by decide) ?_ ?_
  · refine qr_iconst o (q_dm dm_X12_histories 83 rfl) ic_0 ?_
    exact qr_loc (q_leS (q_leS (q_leS (q_leS (q_leS (q_leS (q_leN (q_leS (q_leS (q_leN q_le0)))))))))) (w_X12_histories_150 n j r hj hr o K87 hK87 a1 a2 a3 a4 a5 s0 a8 a6 (0 : Int32) M)
  · refine qr_iconst o (q_dm dm_X12_histories 81 rfl) ic_1 ?_
    refine qr_goto (tgt := 150) o (q_dm dm_X12_histories 82 rfl) (by decide) ?_
    exact qr_loc (q_leS (q_leS (q_leS (q_leS (q_leS (q_leS (q_leN (q_leS (q_leS (q_leN q_le0)))))))))) (w_X12_histories_150 n j r hj hr o K87 hK87 a1 a2 a3 a4 a5 s0 a8 a6 (1 : Int32) M)

def f_X12_histories_129 (n : Nat) (K87 : Int32 → Int32 → Int32 → Int32 → Int32 → Int32 → Int32 → Int32 → qM → qR) (a1 a2 a3 a4 a5 a6 a7 a8 : Int32) (M : qM) : qR :=
  f_X12_histories_131 n K87 a1 a2 a3 a4 a5 a6 a8 a7 M
set_option maxRecDepth 4000 in
theorem w_X12_histories_129 {g : qG} {k : qK} (n : Nat) (j r : Nat) (hj : q_isLaw j) (hr : q_isLaw r) (o : qOk g 4 zX12_histories k) (K87 : Int32 → Int32 → Int32 → Int32 → Int32 → Int32 → Int32 → Int32 → qM → qR) (hK87 : ∀ (a1 a2 a3 a4 a5 a6 a7 a8 : Int32) (M : qM), qAE g k zX12_histories (qL j r) 87 [some (.inr (some 77)), some (.inl a1), some (.inl a2), some (.inl a3), some (.inl a4), some (.inl a5), some (.inl a6), some (.inl a7), some (.inl a8), none] [] (qL j r, M) (K87 a1 a2 a3 a4 a5 a6 a7 a8 M)) (a1 a2 a3 a4 a5 a6 a7 a8 : Int32) (M : qM) : qAE g k zX12_histories (qL j r) 129 [some (.inr (some 77)), some (.inl a1), some (.inl a2), some (.inl a3), some (.inl a4), some (.inl a5), some (.inl a6), some (.inl a7), some (.inl a8), none] [] (qL j r, M) (f_X12_histories_129 n K87 a1 a2 a3 a4 a5 a6 a7 a8 M) := by
  unfold f_X12_histories_129
  refine qr_iload o (q_dm dm_X12_histories 73 rfl) rfl ?_
  exact qr_loc (q_leS (q_leS (q_leS (q_leS (q_leS (q_leS (q_leS (q_leN (q_leS (q_leN q_le0)))))))))) (w_X12_histories_131 n j r hj hr o K87 hK87 a1 a2 a3 a4 a5 a6 a8 a7 M)

def b_X12_histories_87 (n : Nat) (K87 : Int32 → Int32 → Int32 → Int32 → Int32 → Int32 → Int32 → Int32 → qM → qR) (a1 a2 a3 a4 a5 a6 a7 a8 : Int32) (M : qM) : qR :=
  (if a5 ≤ a8 then (if (2 : Int32) ≤ a4 then f_X12_histories_184 n n a1 a2 a3 a5 (0 : Int32) (1 : Int32) M else (if a4 = (0 : Int32) then some (a6, M) else some (a7, M))) else qc (f_X12_goesWith n a8 a2 a3 M) (fun r1 m2 => qg a8 256 (qlm (mu m2 119 a8.toNatClampNeg (vp_nar .boolean r1)) (fun m3 => qg a8 256 ((if (m3 119 a8.toNatClampNeg) = (0 : Int32) then f_X12_histories_129 n K87 a1 a2 a3 a4 a5 a6 a7 a8 m3 else (if a6 = (0 : Int32) then f_X12_histories_131 n K87 a1 a2 a3 a4 a5 a6 a8 a8 m3 else f_X12_histories_129 n K87 a1 a2 a3 a4 a5 a6 a7 a8 m3)))))))
set_option maxRecDepth 4000 in
theorem wb_X12_histories_87 {g : qG} {k : qK} (n : Nat) (j r : Nat) (hj : q_isLaw j) (hr : q_isLaw r) (o : qOk g 4 zX12_histories k) (K87 : Int32 → Int32 → Int32 → Int32 → Int32 → Int32 → Int32 → Int32 → qM → qR) (hK87 : ∀ (a1 a2 a3 a4 a5 a6 a7 a8 : Int32) (M : qM), qAE g k zX12_histories (qL j r) 87 [some (.inr (some 77)), some (.inl a1), some (.inl a2), some (.inl a3), some (.inl a4), some (.inl a5), some (.inl a6), some (.inl a7), some (.inl a8), none] [] (qL j r, M) (K87 a1 a2 a3 a4 a5 a6 a7 a8 M)) (a1 a2 a3 a4 a5 a6 a7 a8 : Int32) (M : qM) : qAE g k zX12_histories (qL j r) 87 [some (.inr (some 77)), some (.inl a1), some (.inl a2), some (.inl a3), some (.inl a4), some (.inl a5), some (.inl a6), some (.inl a7), some (.inl a8), none] [] (qL j r, M) (b_X12_histories_87 n K87 a1 a2 a3 a4 a5 a6 a7 a8 M) := by
  unfold b_X12_histories_87
  refine qr_iload o (q_dm dm_X12_histories 52 rfl) rfl ?_
  refine qr_iload o (q_dm dm_X12_histories 53 rfl) rfl ?_
  refine qr_icmp_ge (tgt := 159) o (q_dm dm_X12_histories 54 rfl) (by decide) ?_ ?_
  · refine qr_iload o (q_dm dm_X12_histories 88 rfl) rfl ?_
    refine qr_iconst o (q_dm dm_X12_histories 89 rfl) ic_2 ?_
    refine qr_icmp_ge (tgt := 178) o (q_dm dm_X12_histories 90 rfl) (by decide) ?_ ?_
    · refine qr_iconst o (q_dm dm_X12_histories 97 rfl) ic_0 ?_
      refine qs_istore (L' := [some (.inr (some 77)), some (.inl a1), some (.inl a2), some (.inl a3), some (.inl a4), some (.inl a5), some (.inl a6), some (.inl a7), some (.inl (0 : Int32)), none]) o (q_dm dm_X12_histories 98 rfl) (Nat.le_of_ble_eq_true rfl) rfl ?_
      refine qr_iconst o (q_dm dm_X12_histories 99 rfl) ic_1 ?_
      refine qs_istore (L' := [some (.inr (some 77)), some (.inl a1), some (.inl a2), some (.inl a3), some (.inl a4), some (.inl a5), some (.inl a6), some (.inl a7), some (.inl (0 : Int32)), some (.inl (1 : Int32))]) o (q_dm dm_X12_histories 100 rfl) (Nat.le_of_ble_eq_true rfl) rfl ?_
      exact qr_loc (q_leS (q_leS (q_leS (q_leS (q_leN (q_leS (q_leN (q_leN (q_leS (q_leS q_le0)))))))))) (w_X12_histories_184 n j r hj hr o n a1 a2 a3 a5 (0 : Int32) (1 : Int32) M)
    · refine qr_iload o (q_dm dm_X12_histories 91 rfl) rfl ?_
      refine qr_if_ne (tgt := 175) o (q_dm dm_X12_histories 92 rfl) (by decide) ?_ ?_
      · refine qr_iload o (q_dm dm_X12_histories 95 rfl) rfl ?_
        exact qr_iret o rfl rfl (q_dm dm_X12_histories 96 rfl)
      · refine qr_iload o (q_dm dm_X12_histories 93 rfl) rfl ?_
        refine qr_goto (tgt := 177) o (q_dm dm_X12_histories 94 rfl) (by decide) ?_
        exact qr_iret o rfl rfl (q_dm dm_X12_histories 96 rfl)
  · refine qr_aload_n o (q_dm dm_X12_histories 55 rfl) rfl ?_
    refine qr_getr (kf := 65) o cf_X12 (sh77 j r) rfl (Nat.le_of_ble_eq_true rfl) fl_X12_136 (q_dm dm_X12_histories 56 rfl) ?_
    refine qr_iload o (q_dm dm_X12_histories 57 rfl) rfl ?_
    refine qr_aload_n o (q_dm dm_X12_histories 58 rfl) rfl ?_
    refine qr_iload o (q_dm dm_X12_histories 59 rfl) rfl ?_
    refine qr_iload_n o (q_dm dm_X12_histories 60 rfl) rfl ?_
    refine qr_iload_n o (q_dm dm_X12_histories 61 rfl) rfl ?_
    refine qr_callv_i (As := [.inl a8, .inl a2, .inl a3]) (S := [.inl a8, .inr (some 119)]) o (a_X12_goesWith g k.2.1 n j r hj hr a8 a2 a3 M) (Nat.le_of_ble_eq_true rfl) zv_X12_goesWith rfl cf_X12 (sh77 j r) ml_X12_463 (Nat.le_of_ble_eq_true rfl) (q_dm dm_X12_histories 62 rfl) (fun r1 m2 => ?_)
    refine qr_zast o (sh119 j r) (q_dm dm_X12_histories 63 rfl) ?_
    refine qr_letm (fun m3 => ?_)
    refine qr_aload_n o (q_dm dm_X12_histories 64 rfl) rfl ?_
    refine qr_getr (kf := 65) o cf_X12 (sh77 j r) rfl (Nat.le_of_ble_eq_true rfl) fl_X12_136 (q_dm dm_X12_histories 65 rfl) ?_
    refine qr_iload o (q_dm dm_X12_histories 66 rfl) rfl ?_
    refine qr_zald o (sh119 j r) (q_dm dm_X12_histories 67 rfl) ?_
    refine qr_if_eq (tgt := 129) o (q_dm dm_X12_histories 68 rfl) (by decide) ?_ ?_
    · exact qr_loc (q_leS (q_leS (q_leS (q_leS (q_leS (q_leS (q_leS (q_leS (q_leS (q_leN q_le0)))))))))) (w_X12_histories_129 n j r hj hr o K87 hK87 a1 a2 a3 a4 a5 a6 a7 a8 m3)
    · refine qr_iload o (q_dm dm_X12_histories 69 rfl) rfl ?_
      refine qr_if_ne (tgt := 129) o (q_dm dm_X12_histories 70 rfl) (by decide) ?_ ?_
      · exact qr_loc (q_leS (q_leS (q_leS (q_leS (q_leS (q_leS (q_leS (q_leS (q_leS (q_leN q_le0)))))))))) (w_X12_histories_129 n j r hj hr o K87 hK87 a1 a2 a3 a4 a5 a6 a7 a8 m3)
      · refine qr_iload o (q_dm dm_X12_histories 71 rfl) rfl ?_
        refine qr_goto (tgt := 131) o (q_dm dm_X12_histories 72 rfl) (by decide) ?_
        exact qr_loc (q_leS (q_leS (q_leS (q_leS (q_leS (q_leS (q_leS (q_leN (q_leS (q_leN q_le0)))))))))) (w_X12_histories_131 n j r hj hr o K87 hK87 a1 a2 a3 a4 a5 a6 a8 a8 m3)

def f_X12_histories_87 (n : Nat) : Nat → Int32 → Int32 → Int32 → Int32 → Int32 → Int32 → Int32 → Int32 → qM → qR
  | 0, _, _, _, _, _, _, _, _, _ => none
  | m + 1, a1, a2, a3, a4, a5, a6, a7, a8, M => b_X12_histories_87 n (f_X12_histories_87 n m) a1 a2 a3 a4 a5 a6 a7 a8 M
theorem w_X12_histories_87 {g : qG} {k : qK} (n : Nat) (j r : Nat) (hj : q_isLaw j) (hr : q_isLaw r) (o : qOk g 4 zX12_histories k) : ∀ (m : Nat) (a1 a2 a3 a4 a5 a6 a7 a8 : Int32) (M : qM), qAE g k zX12_histories (qL j r) 87 [some (.inr (some 77)), some (.inl a1), some (.inl a2), some (.inl a3), some (.inl a4), some (.inl a5), some (.inl a6), some (.inl a7), some (.inl a8), none] [] (qL j r, M) (f_X12_histories_87 n m a1 a2 a3 a4 a5 a6 a7 a8 M) := by
  intro m
  induction m with
  | zero =>
    intro a1 a2 a3 a4 a5 a6 a7 a8 M
    exact qr_none
  | succ m ih =>
    intro a1 a2 a3 a4 a5 a6 a7 a8 M
    exact wb_X12_histories_87 n j r hj hr o (f_X12_histories_87 n m) ih a1 a2 a3 a4 a5 a6 a7 a8 M
def f_X12_histories (n : Nat) (a1 a2 a3 a4 : Int32) (M : qM) : qR :=
  qc (f_X12_in n a1 (1 : Int32) (4 : Int32) M) (fun r1 m2 => (if r1 = (0 : Int32) then some ((-1 : Int32), m2) else qc (f_X12_in n a2 (0 : Int32) (10 : Int32) m2) (fun r3 m4 => (if r3 = (0 : Int32) then some ((-1 : Int32), m4) else qc (f_X12_in n a3 (0 : Int32) (9 : Int32) m4) (fun r5 m6 => (if r5 = (0 : Int32) then some ((-1 : Int32), m6) else qc (f_X12_in n a4 (0 : Int32) (2 : Int32) m6) (fun r7 m8 => (if r7 = (0 : Int32) then some ((-1 : Int32), m8) else (if (a1 + ((2 : Int32) * a2)) ≤ (m8 77 8) then qlm (mu m8 77 8 (0 : Int32)) (fun m9 => qc (f_X12_takesPast n a1 a2 m9) (fun r10 m11 => (if r10 = (0 : Int32) then some ((-3 : Int32), m11) else ql ((1 : Int32) <<< (((2 : Int32) * a1) &&& 31)) (fun x12 => f_X12_histories_87 n n a1 a2 a3 a4 x12 (0 : Int32) (-2 : Int32) (0 : Int32) m11)))) else some ((-1 : Int32), m8))))))))))
set_option maxRecDepth 4000 in
theorem w_X12_histories {g : qG} {k : qK} (n : Nat) (j r : Nat) (hj : q_isLaw j) (hr : q_isLaw r) (o : qOk g 4 zX12_histories k) (a1 a2 a3 a4 : Int32) (M : qM) : qAE g k zX12_histories (qL j r) 0 [some (.inr (some 77)), some (.inl a1), some (.inl a2), some (.inl a3), some (.inl a4), none, none, none, none, none] [] (qL j r, M) (f_X12_histories n a1 a2 a3 a4 M) := by
  unfold f_X12_histories
  refine qr_iload_n o (q_dm dm_X12_histories 0 rfl) rfl ?_
  refine qr_iconst o (q_dm dm_X12_histories 1 rfl) ic_1 ?_
  refine qr_iconst o (q_dm dm_X12_histories 2 rfl) ic_4 ?_
  refine qr_calls_i (As := [.inl a1, .inl (1 : Int32), .inl (4 : Int32)]) (S := []) o (a_X12_in g k.2.1 n j r hj hr a1 (1 : Int32) (4 : Int32) M) (Nat.le_of_ble_eq_true rfl) zs_X12_in rfl ml_X12_153 (Nat.le_of_ble_eq_true rfl) (q_dm dm_X12_histories 3 rfl) (fun r1 m2 => ?_)
  refine qr_if_eq (tgt := 51) o (q_dm dm_X12_histories 4 rfl) (by decide) ?_ ?_
  · refine qr_iconst o (q_dm dm_X12_histories 28 rfl) ic_m1 ?_
    exact qr_iret o rfl rfl (q_dm dm_X12_histories 29 rfl)
  · refine qr_iload_n o (q_dm dm_X12_histories 5 rfl) rfl ?_
    refine qr_iconst o (q_dm dm_X12_histories 6 rfl) ic_0 ?_
    refine qr_bipush o (q_dm dm_X12_histories 7 rfl) bi_10 ?_
    refine qr_calls_i (As := [.inl a2, .inl (0 : Int32), .inl (10 : Int32)]) (S := []) o (a_X12_in g k.2.1 n j r hj hr a2 (0 : Int32) (10 : Int32) m2) (Nat.le_of_ble_eq_true rfl) zs_X12_in rfl ml_X12_153 (Nat.le_of_ble_eq_true rfl) (q_dm dm_X12_histories 8 rfl) (fun r3 m4 => ?_)
    refine qr_if_eq (tgt := 51) o (q_dm dm_X12_histories 9 rfl) (by decide) ?_ ?_
    · refine qr_iconst o (q_dm dm_X12_histories 28 rfl) ic_m1 ?_
      exact qr_iret o rfl rfl (q_dm dm_X12_histories 29 rfl)
    · refine qr_iload_n o (q_dm dm_X12_histories 10 rfl) rfl ?_
      refine qr_iconst o (q_dm dm_X12_histories 11 rfl) ic_0 ?_
      refine qr_bipush o (q_dm dm_X12_histories 12 rfl) bi_9 ?_
      refine qr_calls_i (As := [.inl a3, .inl (0 : Int32), .inl (9 : Int32)]) (S := []) o (a_X12_in g k.2.1 n j r hj hr a3 (0 : Int32) (9 : Int32) m4) (Nat.le_of_ble_eq_true rfl) zs_X12_in rfl ml_X12_153 (Nat.le_of_ble_eq_true rfl) (q_dm dm_X12_histories 13 rfl) (fun r5 m6 => ?_)
      refine qr_if_eq (tgt := 51) o (q_dm dm_X12_histories 14 rfl) (by decide) ?_ ?_
      · refine qr_iconst o (q_dm dm_X12_histories 28 rfl) ic_m1 ?_
        exact qr_iret o rfl rfl (q_dm dm_X12_histories 29 rfl)
      · refine qr_iload o (q_dm dm_X12_histories 15 rfl) rfl ?_
        refine qr_iconst o (q_dm dm_X12_histories 16 rfl) ic_0 ?_
        refine qr_iconst o (q_dm dm_X12_histories 17 rfl) ic_2 ?_
        refine qr_calls_i (As := [.inl a4, .inl (0 : Int32), .inl (2 : Int32)]) (S := []) o (a_X12_in g k.2.1 n j r hj hr a4 (0 : Int32) (2 : Int32) m6) (Nat.le_of_ble_eq_true rfl) zs_X12_in rfl ml_X12_153 (Nat.le_of_ble_eq_true rfl) (q_dm dm_X12_histories 18 rfl) (fun r7 m8 => ?_)
        refine qr_if_eq (tgt := 51) o (q_dm dm_X12_histories 19 rfl) (by decide) ?_ ?_
        · refine qr_iconst o (q_dm dm_X12_histories 28 rfl) ic_m1 ?_
          exact qr_iret o rfl rfl (q_dm dm_X12_histories 29 rfl)
        · refine qr_iload_n o (q_dm dm_X12_histories 20 rfl) rfl ?_
          refine qr_iconst o (q_dm dm_X12_histories 21 rfl) ic_2 ?_
          refine qr_iload_n o (q_dm dm_X12_histories 22 rfl) rfl ?_
          refine qr_imul o (q_dm dm_X12_histories 23 rfl) ?_
          refine qr_iadd o (q_dm dm_X12_histories 24 rfl) ?_
          refine qr_aload_n o (q_dm dm_X12_histories 25 rfl) rfl ?_
          refine qr_getf (kf := 8) o cf_X12 (sh77 j r) rfl (Nat.le_of_ble_eq_true rfl) fl_X12_162 (q_dm dm_X12_histories 26 rfl) ?_
          refine qr_icmp_le (tgt := 53) o (q_dm dm_X12_histories 27 rfl) (by decide) ?_ ?_
          · refine qr_aload_n o (q_dm dm_X12_histories 30 rfl) rfl ?_
            refine qr_iconst o (q_dm dm_X12_histories 31 rfl) ic_0 ?_
            refine qr_putf (kf := 8) o cf_X12 (sh77 j r) rfl (Nat.le_of_ble_eq_true rfl) fl_X12_162 rfl (by decide +kernel) (q_dm dm_X12_histories 32 rfl) ?_
            refine qr_letm (fun m9 => ?_)
            refine qr_aload_n o (q_dm dm_X12_histories 33 rfl) rfl ?_
            refine qr_iload_n o (q_dm dm_X12_histories 34 rfl) rfl ?_
            refine qr_iload_n o (q_dm dm_X12_histories 35 rfl) rfl ?_
            refine qr_callv_i (As := [.inl a1, .inl a2]) (S := []) o (a_X12_takesPast g k.2.1 n j r hj hr a1 a2 m9) (Nat.le_of_ble_eq_true rfl) zv_X12_takesPast rfl cf_X12 (sh77 j r) ml_X12_466 (Nat.le_of_ble_eq_true rfl) (q_dm dm_X12_histories 36 rfl) (fun r10 m11 => ?_)
            refine qr_if_ne (tgt := 70) o (q_dm dm_X12_histories 37 rfl) (by decide) ?_ ?_
            · refine qr_iconst o (q_dm dm_X12_histories 40 rfl) ic_1 ?_
              refine qr_iconst o (q_dm dm_X12_histories 41 rfl) ic_2 ?_
              refine qr_iload_n o (q_dm dm_X12_histories 42 rfl) rfl ?_
              refine qr_imul o (q_dm dm_X12_histories 43 rfl) ?_
              refine qr_ishl o (q_dm dm_X12_histories 44 rfl) ?_
              refine qr_lt (fun x12 => ?_)
              refine qs_istore (L' := [some (.inr (some 77)), some (.inl a1), some (.inl a2), some (.inl a3), some (.inl a4), some (.inl x12), none, none, none, none]) o (q_dm dm_X12_histories 45 rfl) (Nat.le_of_ble_eq_true rfl) rfl ?_
              refine qr_iconst o (q_dm dm_X12_histories 46 rfl) ic_0 ?_
              refine qs_istore (L' := [some (.inr (some 77)), some (.inl a1), some (.inl a2), some (.inl a3), some (.inl a4), some (.inl x12), some (.inl (0 : Int32)), none, none, none]) o (q_dm dm_X12_histories 47 rfl) (Nat.le_of_ble_eq_true rfl) rfl ?_
              refine qr_bipush o (q_dm dm_X12_histories 48 rfl) bi_m2 ?_
              refine qs_istore (L' := [some (.inr (some 77)), some (.inl a1), some (.inl a2), some (.inl a3), some (.inl a4), some (.inl x12), some (.inl (0 : Int32)), some (.inl (-2 : Int32)), none, none]) o (q_dm dm_X12_histories 49 rfl) (Nat.le_of_ble_eq_true rfl) rfl ?_
              refine qr_iconst o (q_dm dm_X12_histories 50 rfl) ic_0 ?_
              refine qs_istore (L' := [some (.inr (some 77)), some (.inl a1), some (.inl a2), some (.inl a3), some (.inl a4), some (.inl x12), some (.inl (0 : Int32)), some (.inl (-2 : Int32)), some (.inl (0 : Int32)), none]) o (q_dm dm_X12_histories 51 rfl) (Nat.le_of_ble_eq_true rfl) rfl ?_
              exact qr_loc (q_leS (q_leS (q_leS (q_leS (q_leS (q_leS (q_leS (q_leS (q_leS (q_leN q_le0)))))))))) (w_X12_histories_87 n j r hj hr o n a1 a2 a3 a4 x12 (0 : Int32) (-2 : Int32) (0 : Int32) m11)
            · refine qr_bipush o (q_dm dm_X12_histories 38 rfl) bi_m3 ?_
              exact qr_iret o rfl rfl (q_dm dm_X12_histories 39 rfl)
          · refine qr_iconst o (q_dm dm_X12_histories 28 rfl) ic_m1 ?_
            exact qr_iret o rfl rfl (q_dm dm_X12_histories 29 rfl)

theorem a_X12_histories (g : qG) (l : Launch) (n : Nat) (j r : Nat) (hj : q_isLaw j) (hr : q_isLaw r) (a1 a2 a3 a4 : Int32) (M : qM) : qAM g l 4 zX12_histories (qL j r) [.inr (some 77), .inl a1, .inl a2, .inl a3, .inl a4] (qL j r, M) (f_X12_histories n a1 a2 a3 a4 M) :=
  qAM.of zv_X12_histories.1 (by show 5 ≤ 10; decide) (fun k hk o => w_X12_histories n j r hj hr o a1 a2 a3 a4 M)
def tb_X12_jobCounts : List (Nat × Instr × Nat) := [(0, (.iconst 0, 1)), (1, (.istore_n 3, 1)), (2, (.iconst 0, 1)), (3, (.istore 4, 2)), (5, (.iload 4, 2)), (7, (.bipush 12, 2)), (9, (.if_icmp .ge 47, 3)), (12, (.aload_n 0, 1)), (13, (.getfield 118, 3)), (16, (.iload_n 2, 1)), (17, (.iaload, 1)), (18, (.iload 4, 2)), (20, (.invokestatic 149, 3)), (23, (.ifCond .eq 27, 3)), (26, (.iload_n 3, 1)), (27, (.aload_n 0, 1)), (28, (.getfield 7, 3)), (31, (.iconst 0, 1)), (32, (.iload_n 1, 1)), (33, (.iload 4, 2)), (35, (.invokestatic 282, 3)), (38, (.iadd, 1)), (39, (.iaload, 1)), (40, (.iadd, 1)), (41, (.aload_n 0, 1)), (42, (.getfield 121, 3)), (45, (.iload 4, 2)), (47, (.iaload, 1)), (48, (.iadd, 1)), (49, (.istore_n 3, 1)), (50, (.iinc 4 1, 3)), (53, (.goto (-48), 3)), (56, (.aload_n 0, 1)), (57, (.iload_n 1, 1)), (58, (.iload_n 2, 1)), (59, (.bipush 8, 2)), (61, (.invokevirtual 288, 3)), (64, (.aload_n 0, 1)), (65, (.getfield 68, 3)), (68, (.bipush 9, 2)), (70, (.aload_n 0, 1)), (71, (.getfield 68, 3)), (74, (.bipush 9, 2)), (76, (.iaload, 1)), (77, (.aload_n 0, 1)), (78, (.getfield 121, 3)), (81, (.iload_n 2, 1)), (82, (.iaload, 1)), (83, (.iadd, 1)), (84, (.iastore, 1)), (85, (.aload_n 0, 1)), (86, (.getfield 68, 3)), (89, (.bipush 10, 2)), (91, (.aload_n 0, 1)), (92, (.getfield 68, 3)), (95, (.bipush 10, 2)), (97, (.iaload, 1)), (98, (.aload_n 0, 1)), (99, (.getfield 121, 3)), (102, (.iload_n 2, 1)), (103, (.iaload, 1)), (104, (.iadd, 1)), (105, (.iastore, 1)), (106, (.aload_n 0, 1)), (107, (.getfield 68, 3)), (110, (.bipush 11, 2)), (112, (.aload_n 0, 1)), (113, (.getfield 68, 3)), (116, (.bipush 11, 2)), (118, (.iaload, 1)), (119, (.aload_n 0, 1)), (120, (.getfield 124, 3)), (123, (.iload_n 2, 1)), (124, (.iaload, 1)), (125, (.iadd, 1)), (126, (.iastore, 1)), (127, (.aload_n 0, 1)), (128, (.getfield 121, 3)), (131, (.iload_n 2, 1)), (132, (.aload_n 0, 1)), (133, (.getfield 121, 3)), (136, (.iload_n 2, 1)), (137, (.iaload, 1)), (138, (.iconst 1, 1)), (139, (.iadd, 1)), (140, (.iastore, 1)), (141, (.iload_n 3, 1)), (142, (.aload_n 0, 1)), (143, (.bipush 118, 2)), (145, (.bipush 99, 2)), (147, (.iconst 1, 1)), (148, (.invokevirtual 292, 3)), (151, (.if_icmp .lt 7, 3)), (154, (.iconst 1, 1)), (155, (.goto 4, 3)), (158, (.iconst 0, 1)), (159, (.ireturn, 1))]
theorem dm_X12_jobCounts : ∀ q ∈ tb_X12_jobCounts, decode zX12_jobCounts.2.1 q.1 = .ok q.2 := by decide +kernel
def b_X12_jobCounts_5 (n : Nat) (K5 : Int32 → Int32 → Int32 → Int32 → qM → qR) (a1 a2 a3 a4 : Int32) (M : qM) : qR :=
  (if (12 : Int32) ≤ a4 then qc (f_X12_feels n a1 a2 (8 : Int32) M) (fun _ m1 => qg a2 12 (qlm (mu m1 97 9 ((m1 97 9) + (m1 114 a2.toNatClampNeg))) (fun m2 => qg a2 12 (qlm (mu m2 97 10 ((m2 97 10) + (m2 114 a2.toNatClampNeg))) (fun m3 => qg a2 12 (qlm (mu m3 97 11 ((m3 97 11) + (m3 115 a2.toNatClampNeg))) (fun m4 => qg a2 12 (qg a2 12 (qlm (mu m4 114 a2.toNatClampNeg ((m4 114 a2.toNatClampNeg) + (1 : Int32))) (fun m5 => qc (f_X12_byLaw n (118 : Int32) (99 : Int32) (1 : Int32) m5) (fun r6 m7 => (if a3 < r6 then some ((0 : Int32), m7) else some ((1 : Int32), m7))))))))))))) else qg a2 12 (qc (f_X12_has0 n (M 113 a2.toNatClampNeg) a4 M) (fun r8 m9 => (if r8 = (0 : Int32) then ql (a4 + (1 : Int32)) (fun x10 => K5 a1 a2 a3 x10 m9) else qc (f_X12_at n a1 a4 m9) (fun r11 m12 => qg ((0 : Int32) + r11) 954 (qg a4 12 (ql ((a3 + (m12 78 ((0 : Int32) + r11).toNatClampNeg)) + (m12 114 a4.toNatClampNeg)) (fun x13 => ql (a4 + (1 : Int32)) (fun x14 => K5 a1 a2 x13 x14 m12)))))))))
set_option maxRecDepth 4000 in
theorem wb_X12_jobCounts_5 {g : qG} {k : qK} (n : Nat) (j r : Nat) (hj : q_isLaw j) (hr : q_isLaw r) (o : qOk g 3 zX12_jobCounts k) (K5 : Int32 → Int32 → Int32 → Int32 → qM → qR) (hK5 : ∀ (a1 a2 a3 a4 : Int32) (M : qM), qAE g k zX12_jobCounts (qL j r) 5 [some (.inr (some 77)), some (.inl a1), some (.inl a2), some (.inl a3), some (.inl a4)] [] (qL j r, M) (K5 a1 a2 a3 a4 M)) (a1 a2 a3 a4 : Int32) (M : qM) : qAE g k zX12_jobCounts (qL j r) 5 [some (.inr (some 77)), some (.inl a1), some (.inl a2), some (.inl a3), some (.inl a4)] [] (qL j r, M) (b_X12_jobCounts_5 n K5 a1 a2 a3 a4 M) := by
  unfold b_X12_jobCounts_5
  refine qr_iload o (q_dm dm_X12_jobCounts 4 rfl) rfl ?_
  refine qr_bipush o (q_dm dm_X12_jobCounts 5 rfl) bi_12 ?_
  refine qr_icmp_ge (tgt := 56) o (q_dm dm_X12_jobCounts 6 rfl) (by decide) ?_ ?_
  · refine qr_aload_n o (q_dm dm_X12_jobCounts 32 rfl) rfl ?_
    refine qr_iload_n o (q_dm dm_X12_jobCounts 33 rfl) rfl ?_
    refine qr_iload_n o (q_dm dm_X12_jobCounts 34 rfl) rfl ?_
    refine qr_bipush o (q_dm dm_X12_jobCounts 35 rfl) bi_8 ?_
    refine qr_callv_v (As := [.inl a1, .inl a2, .inl (8 : Int32)]) (S := []) o (a_X12_feels g k.2.1 n j r hj hr a1 a2 (8 : Int32) M) (Nat.le_of_ble_eq_true rfl) zv_X12_feels rfl cf_X12 (sh77 j r) ml_X12_288 (Nat.le_of_ble_eq_true rfl) (q_dm dm_X12_jobCounts 36 rfl) (fun _ m1 => ?_)
    refine qr_aload_n o (q_dm dm_X12_jobCounts 37 rfl) rfl ?_
    refine qr_getr (kf := 30) o cf_X12 (sh77 j r) rfl (Nat.le_of_ble_eq_true rfl) fl_X12_68 (q_dm dm_X12_jobCounts 38 rfl) ?_
    refine qr_bipush o (q_dm dm_X12_jobCounts 39 rfl) bi_9 ?_
    refine qr_aload_n o (q_dm dm_X12_jobCounts 40 rfl) rfl ?_
    refine qr_getr (kf := 30) o cf_X12 (sh77 j r) rfl (Nat.le_of_ble_eq_true rfl) fl_X12_68 (q_dm dm_X12_jobCounts 41 rfl) ?_
    refine qr_bipush o (q_dm dm_X12_jobCounts 42 rfl) bi_9 ?_
    refine qr_iald0 (c := 9) o (sh97 j r) (by decide) (by decide) (q_dm dm_X12_jobCounts 43 rfl) ?_
    refine qr_aload_n o (q_dm dm_X12_jobCounts 44 rfl) rfl ?_
    refine qr_getr (kf := 57) o cf_X12 (sh77 j r) rfl (Nat.le_of_ble_eq_true rfl) fl_X12_121 (q_dm dm_X12_jobCounts 45 rfl) ?_
    refine qr_iload_n o (q_dm dm_X12_jobCounts 46 rfl) rfl ?_
    refine qr_iald o (sh114 j r) (q_dm dm_X12_jobCounts 47 rfl) ?_
    refine qr_iadd o (q_dm dm_X12_jobCounts 48 rfl) ?_
    refine qr_iast0 (c := 9) o (sh97 j r) (by decide) (by decide) (q_dm dm_X12_jobCounts 49 rfl) ?_
    refine qr_letm (fun m2 => ?_)
    refine qr_aload_n o (q_dm dm_X12_jobCounts 50 rfl) rfl ?_
    refine qr_getr (kf := 30) o cf_X12 (sh77 j r) rfl (Nat.le_of_ble_eq_true rfl) fl_X12_68 (q_dm dm_X12_jobCounts 51 rfl) ?_
    refine qr_bipush o (q_dm dm_X12_jobCounts 52 rfl) bi_10 ?_
    refine qr_aload_n o (q_dm dm_X12_jobCounts 53 rfl) rfl ?_
    refine qr_getr (kf := 30) o cf_X12 (sh77 j r) rfl (Nat.le_of_ble_eq_true rfl) fl_X12_68 (q_dm dm_X12_jobCounts 54 rfl) ?_
    refine qr_bipush o (q_dm dm_X12_jobCounts 55 rfl) bi_10 ?_
    refine qr_iald0 (c := 10) o (sh97 j r) (by decide) (by decide) (q_dm dm_X12_jobCounts 56 rfl) ?_
    refine qr_aload_n o (q_dm dm_X12_jobCounts 57 rfl) rfl ?_
    refine qr_getr (kf := 57) o cf_X12 (sh77 j r) rfl (Nat.le_of_ble_eq_true rfl) fl_X12_121 (q_dm dm_X12_jobCounts 58 rfl) ?_
    refine qr_iload_n o (q_dm dm_X12_jobCounts 59 rfl) rfl ?_
    refine qr_iald o (sh114 j r) (q_dm dm_X12_jobCounts 60 rfl) ?_
    refine qr_iadd o (q_dm dm_X12_jobCounts 61 rfl) ?_
    refine qr_iast0 (c := 10) o (sh97 j r) (by decide) (by decide) (q_dm dm_X12_jobCounts 62 rfl) ?_
    refine qr_letm (fun m3 => ?_)
    refine qr_aload_n o (q_dm dm_X12_jobCounts 63 rfl) rfl ?_
    refine qr_getr (kf := 30) o cf_X12 (sh77 j r) rfl (Nat.le_of_ble_eq_true rfl) fl_X12_68 (q_dm dm_X12_jobCounts 64 rfl) ?_
    refine qr_bipush o (q_dm dm_X12_jobCounts 65 rfl) bi_11 ?_
    refine qr_aload_n o (q_dm dm_X12_jobCounts 66 rfl) rfl ?_
    refine qr_getr (kf := 30) o cf_X12 (sh77 j r) rfl (Nat.le_of_ble_eq_true rfl) fl_X12_68 (q_dm dm_X12_jobCounts 67 rfl) ?_
    refine qr_bipush o (q_dm dm_X12_jobCounts 68 rfl) bi_11 ?_
    refine qr_iald0 (c := 11) o (sh97 j r) (by decide) (by decide) (q_dm dm_X12_jobCounts 69 rfl) ?_
    refine qr_aload_n o (q_dm dm_X12_jobCounts 70 rfl) rfl ?_
    refine qr_getr (kf := 58) o cf_X12 (sh77 j r) rfl (Nat.le_of_ble_eq_true rfl) fl_X12_124 (q_dm dm_X12_jobCounts 71 rfl) ?_
    refine qr_iload_n o (q_dm dm_X12_jobCounts 72 rfl) rfl ?_
    refine qr_iald o (sh115 j r) (q_dm dm_X12_jobCounts 73 rfl) ?_
    refine qr_iadd o (q_dm dm_X12_jobCounts 74 rfl) ?_
    refine qr_iast0 (c := 11) o (sh97 j r) (by decide) (by decide) (q_dm dm_X12_jobCounts 75 rfl) ?_
    refine qr_letm (fun m4 => ?_)
    refine qr_aload_n o (q_dm dm_X12_jobCounts 76 rfl) rfl ?_
    refine qr_getr (kf := 57) o cf_X12 (sh77 j r) rfl (Nat.le_of_ble_eq_true rfl) fl_X12_121 (q_dm dm_X12_jobCounts 77 rfl) ?_
    refine qr_iload_n o (q_dm dm_X12_jobCounts 78 rfl) rfl ?_
    refine qr_aload_n o (q_dm dm_X12_jobCounts 79 rfl) rfl ?_
    refine qr_getr (kf := 57) o cf_X12 (sh77 j r) rfl (Nat.le_of_ble_eq_true rfl) fl_X12_121 (q_dm dm_X12_jobCounts 80 rfl) ?_
    refine qr_iload_n o (q_dm dm_X12_jobCounts 81 rfl) rfl ?_
    refine qr_iald o (sh114 j r) (q_dm dm_X12_jobCounts 82 rfl) ?_
    refine qr_iconst o (q_dm dm_X12_jobCounts 83 rfl) ic_1 ?_
    refine qr_iadd o (q_dm dm_X12_jobCounts 84 rfl) ?_
    refine qr_iast o (sh114 j r) (q_dm dm_X12_jobCounts 85 rfl) ?_
    refine qr_letm (fun m5 => ?_)
    refine qr_iload_n o (q_dm dm_X12_jobCounts 86 rfl) rfl ?_
    refine qr_aload_n o (q_dm dm_X12_jobCounts 87 rfl) rfl ?_
    refine qr_bipush o (q_dm dm_X12_jobCounts 88 rfl) bi_118 ?_
    refine qr_bipush o (q_dm dm_X12_jobCounts 89 rfl) bi_99 ?_
    refine qr_iconst o (q_dm dm_X12_jobCounts 90 rfl) ic_1 ?_
    refine qr_callv_i (As := [.inl (118 : Int32), .inl (99 : Int32), .inl (1 : Int32)]) (S := [.inl a3]) o (a_X12_byLaw g k.2.1 n j r hj hr (118 : Int32) (99 : Int32) (1 : Int32) m5) (Nat.le_of_ble_eq_true rfl) zv_X12_byLaw rfl cf_X12 (sh77 j r) ml_X12_292 (Nat.le_of_ble_eq_true rfl) (q_dm dm_X12_jobCounts 91 rfl) (fun r6 m7 => ?_)
    refine qr_icmp_lt (tgt := 158) o (q_dm dm_X12_jobCounts 92 rfl) (by decide) ?_ ?_
    · refine qr_iconst o (q_dm dm_X12_jobCounts 95 rfl) ic_0 ?_
      exact qr_iret o rfl (by decide) (q_dm dm_X12_jobCounts 96 rfl)
    · refine qr_iconst o (q_dm dm_X12_jobCounts 93 rfl) ic_1 ?_
      refine qr_goto (tgt := 159) o (q_dm dm_X12_jobCounts 94 rfl) (by decide) ?_
      exact qr_iret o rfl (by decide) (q_dm dm_X12_jobCounts 96 rfl)
  · refine qr_aload_n o (q_dm dm_X12_jobCounts 7 rfl) rfl ?_
    refine qr_getr (kf := 56) o cf_X12 (sh77 j r) rfl (Nat.le_of_ble_eq_true rfl) fl_X12_118 (q_dm dm_X12_jobCounts 8 rfl) ?_
    refine qr_iload_n o (q_dm dm_X12_jobCounts 9 rfl) rfl ?_
    refine qr_iald o (sh113 j r) (q_dm dm_X12_jobCounts 10 rfl) ?_
    refine qr_iload o (q_dm dm_X12_jobCounts 11 rfl) rfl ?_
    refine qr_calls_i (As := [.inl (M 113 a2.toNatClampNeg), .inl a4]) (S := []) o (a_X12_has0 g k.2.1 n j r hj hr (M 113 a2.toNatClampNeg) a4 M) (Nat.le_of_ble_eq_true rfl) zs_X12_has0 rfl ml_X12_149 (Nat.le_of_ble_eq_true rfl) (q_dm dm_X12_jobCounts 12 rfl) (fun r8 m9 => ?_)
    refine qr_if_eq (tgt := 50) o (q_dm dm_X12_jobCounts 13 rfl) (by decide) ?_ ?_
    · refine qs_iincl2 (L' := fun x10 => [some (.inr (some 77)), some (.inl a1), some (.inl a2), some (.inl a3), some (.inl x10)]) o (q_dm dm_X12_jobCounts 30 rfl) rfl ic_1 (Nat.le_of_ble_eq_true rfl) (fun _ => rfl) (fun x10 => ?_)
      refine qr_goto (tgt := 5) o (q_dm dm_X12_jobCounts 31 rfl) (by decide) ?_
      exact qr_loc (q_leS (q_leS (q_leS (q_leS (q_leS q_le0))))) (hK5 a1 a2 a3 x10 m9)
    · refine qr_iload_n o (q_dm dm_X12_jobCounts 14 rfl) rfl ?_
      refine qr_aload_n o (q_dm dm_X12_jobCounts 15 rfl) rfl ?_
      refine qr_getr (kf := 0) o cf_X12 (sh77 j r) rfl (Nat.le_of_ble_eq_true rfl) fl_X12_7 (q_dm dm_X12_jobCounts 16 rfl) ?_
      refine qr_iconst o (q_dm dm_X12_jobCounts 17 rfl) ic_0 ?_
      refine qr_iload_n o (q_dm dm_X12_jobCounts 18 rfl) rfl ?_
      refine qr_iload o (q_dm dm_X12_jobCounts 19 rfl) rfl ?_
      refine qr_calls_i (As := [.inl a1, .inl a4]) (S := [.inl (0 : Int32), .inr (some 78), .inl a3]) o (a_X12_at g k.2.1 n j r hj hr a1 a4 m9) (Nat.le_of_ble_eq_true rfl) zs_X12_at rfl ml_X12_282 (Nat.le_of_ble_eq_true rfl) (q_dm dm_X12_jobCounts 20 rfl) (fun r11 m12 => ?_)
      refine qr_iadd o (q_dm dm_X12_jobCounts 21 rfl) ?_
      refine qr_iald o (sh78 j r) (q_dm dm_X12_jobCounts 22 rfl) ?_
      refine qr_iadd o (q_dm dm_X12_jobCounts 23 rfl) ?_
      refine qr_aload_n o (q_dm dm_X12_jobCounts 24 rfl) rfl ?_
      refine qr_getr (kf := 57) o cf_X12 (sh77 j r) rfl (Nat.le_of_ble_eq_true rfl) fl_X12_121 (q_dm dm_X12_jobCounts 25 rfl) ?_
      refine qr_iload o (q_dm dm_X12_jobCounts 26 rfl) rfl ?_
      refine qr_iald o (sh114 j r) (q_dm dm_X12_jobCounts 27 rfl) ?_
      refine qr_iadd o (q_dm dm_X12_jobCounts 28 rfl) ?_
      refine qr_lt (fun x13 => ?_)
      refine qs_istore_n (L' := [some (.inr (some 77)), some (.inl a1), some (.inl a2), some (.inl x13), some (.inl a4)]) o (q_dm dm_X12_jobCounts 29 rfl) (Nat.le_of_ble_eq_true rfl) rfl ?_
      refine qs_iincl2 (L' := fun x14 => [some (.inr (some 77)), some (.inl a1), some (.inl a2), some (.inl x13), some (.inl x14)]) o (q_dm dm_X12_jobCounts 30 rfl) rfl ic_1 (Nat.le_of_ble_eq_true rfl) (fun _ => rfl) (fun x14 => ?_)
      refine qr_goto (tgt := 5) o (q_dm dm_X12_jobCounts 31 rfl) (by decide) ?_
      exact qr_loc (q_leS (q_leS (q_leS (q_leS (q_leS q_le0))))) (hK5 a1 a2 x13 x14 m12)

def f_X12_jobCounts_5 (n : Nat) : Nat → Int32 → Int32 → Int32 → Int32 → qM → qR
  | 0, _, _, _, _, _ => none
  | m + 1, a1, a2, a3, a4, M => b_X12_jobCounts_5 n (f_X12_jobCounts_5 n m) a1 a2 a3 a4 M
theorem w_X12_jobCounts_5 {g : qG} {k : qK} (n : Nat) (j r : Nat) (hj : q_isLaw j) (hr : q_isLaw r) (o : qOk g 3 zX12_jobCounts k) : ∀ (m : Nat) (a1 a2 a3 a4 : Int32) (M : qM), qAE g k zX12_jobCounts (qL j r) 5 [some (.inr (some 77)), some (.inl a1), some (.inl a2), some (.inl a3), some (.inl a4)] [] (qL j r, M) (f_X12_jobCounts_5 n m a1 a2 a3 a4 M) := by
  intro m
  induction m with
  | zero =>
    intro a1 a2 a3 a4 M
    exact qr_none
  | succ m ih =>
    intro a1 a2 a3 a4 M
    exact wb_X12_jobCounts_5 n j r hj hr o (f_X12_jobCounts_5 n m) ih a1 a2 a3 a4 M
def f_X12_jobCounts (n : Nat) (a1 a2 : Int32) (M : qM) : qR :=
  f_X12_jobCounts_5 n n a1 a2 (0 : Int32) (0 : Int32) M
set_option maxRecDepth 4000 in
theorem w_X12_jobCounts {g : qG} {k : qK} (n : Nat) (j r : Nat) (hj : q_isLaw j) (hr : q_isLaw r) (o : qOk g 3 zX12_jobCounts k) (a1 a2 : Int32) (M : qM) : qAE g k zX12_jobCounts (qL j r) 0 [some (.inr (some 77)), some (.inl a1), some (.inl a2), none, none] [] (qL j r, M) (f_X12_jobCounts n a1 a2 M) := by
  unfold f_X12_jobCounts
  refine qr_iconst o (q_dm dm_X12_jobCounts 0 rfl) ic_0 ?_
  refine qs_istore_n (L' := [some (.inr (some 77)), some (.inl a1), some (.inl a2), some (.inl (0 : Int32)), none]) o (q_dm dm_X12_jobCounts 1 rfl) (Nat.le_of_ble_eq_true rfl) rfl ?_
  refine qr_iconst o (q_dm dm_X12_jobCounts 2 rfl) ic_0 ?_
  refine qs_istore (L' := [some (.inr (some 77)), some (.inl a1), some (.inl a2), some (.inl (0 : Int32)), some (.inl (0 : Int32))]) o (q_dm dm_X12_jobCounts 3 rfl) (Nat.le_of_ble_eq_true rfl) rfl ?_
  exact qr_loc (q_leS (q_leS (q_leS (q_leS (q_leS q_le0))))) (w_X12_jobCounts_5 n j r hj hr o n a1 a2 (0 : Int32) (0 : Int32) M)

theorem a_X12_jobCounts (g : qG) (l : Launch) (n : Nat) (j r : Nat) (hj : q_isLaw j) (hr : q_isLaw r) (a1 a2 : Int32) (M : qM) : qAM g l 3 zX12_jobCounts (qL j r) [.inr (some 77), .inl a1, .inl a2] (qL j r, M) (f_X12_jobCounts n a1 a2 M) :=
  qAM.of zv_X12_jobCounts.1 (by show 3 ≤ 5; decide) (fun k hk o => w_X12_jobCounts n j r hj hr o a1 a2 M)
def tb_X12_jobNeeds : List (Nat × Instr × Nat) := [(0, (.iconst 0, 1)), (1, (.istore_n 3, 1)), (2, (.iload_n 3, 1)), (3, (.bipush 12, 2)), (5, (.if_icmp .ge 48, 3)), (8, (.aload_n 0, 1)), (9, (.getfield 25, 3)), (12, (.iload_n 2, 1)), (13, (.iaload, 1)), (14, (.iload_n 3, 1)), (15, (.invokestatic 149, 3)), (18, (.ifCond .eq 29, 3)), (21, (.aload_n 0, 1)), (22, (.getfield 7, 3)), (25, (.sipush 192, 3)), (28, (.iload_n 1, 1)), (29, (.iload_n 3, 1)), (30, (.invokestatic 282, 3)), (33, (.iadd, 1)), (34, (.iaload, 1)), (35, (.aload_n 0, 1)), (36, (.getfield 124, 3)), (39, (.iload_n 3, 1)), (40, (.iaload, 1)), (41, (.iadd, 1)), (42, (.ifCond .ne 5, 3)), (45, (.iconst 0, 1)), (46, (.ireturn, 1)), (47, (.iinc 3 1, 3)), (50, (.goto (-48), 3)), (53, (.iconst 1, 1)), (54, (.ireturn, 1))]
theorem dm_X12_jobNeeds : ∀ q ∈ tb_X12_jobNeeds, decode zX12_jobNeeds.2.1 q.1 = .ok q.2 := by decide +kernel
def b_X12_jobNeeds_2 (n : Nat) (K2 : Int32 → Int32 → Int32 → qM → qR) (a1 a2 a3 : Int32) (M : qM) : qR :=
  (if (12 : Int32) ≤ a3 then some ((1 : Int32), M) else qg a2 13 (qc (f_X12_has0 n (M 83 a2.toNatClampNeg) a3 M) (fun r1 m2 => (if r1 = (0 : Int32) then ql (a3 + (1 : Int32)) (fun x3 => K2 a1 a2 x3 m2) else qc (f_X12_at n a1 a3 m2) (fun r4 m5 => qg ((192 : Int32) + r4) 954 (qg a3 12 ((if ((m5 78 ((192 : Int32) + r4).toNatClampNeg) + (m5 115 a3.toNatClampNeg)) = (0 : Int32) then some ((0 : Int32), m5) else ql (a3 + (1 : Int32)) (fun x6 => K2 a1 a2 x6 m5)))))))))
set_option maxRecDepth 4000 in
theorem wb_X12_jobNeeds_2 {g : qG} {k : qK} (n : Nat) (j r : Nat) (hj : q_isLaw j) (hr : q_isLaw r) (o : qOk g 1 zX12_jobNeeds k) (K2 : Int32 → Int32 → Int32 → qM → qR) (hK2 : ∀ (a1 a2 a3 : Int32) (M : qM), qAE g k zX12_jobNeeds (qL j r) 2 [some (.inr (some 77)), some (.inl a1), some (.inl a2), some (.inl a3)] [] (qL j r, M) (K2 a1 a2 a3 M)) (a1 a2 a3 : Int32) (M : qM) : qAE g k zX12_jobNeeds (qL j r) 2 [some (.inr (some 77)), some (.inl a1), some (.inl a2), some (.inl a3)] [] (qL j r, M) (b_X12_jobNeeds_2 n K2 a1 a2 a3 M) := by
  unfold b_X12_jobNeeds_2
  refine qr_iload_n o (q_dm dm_X12_jobNeeds 2 rfl) rfl ?_
  refine qr_bipush o (q_dm dm_X12_jobNeeds 3 rfl) bi_12 ?_
  refine qr_icmp_ge (tgt := 53) o (q_dm dm_X12_jobNeeds 4 rfl) (by decide) ?_ ?_
  · refine qr_iconst o (q_dm dm_X12_jobNeeds 30 rfl) ic_1 ?_
    exact qr_iret o rfl (by decide) (q_dm dm_X12_jobNeeds 31 rfl)
  · refine qr_aload_n o (q_dm dm_X12_jobNeeds 5 rfl) rfl ?_
    refine qr_getr (kf := 5) o cf_X12 (sh77 j r) rfl (Nat.le_of_ble_eq_true rfl) fl_X12_25 (q_dm dm_X12_jobNeeds 6 rfl) ?_
    refine qr_iload_n o (q_dm dm_X12_jobNeeds 7 rfl) rfl ?_
    refine qr_iald o (sh83 j r) (q_dm dm_X12_jobNeeds 8 rfl) ?_
    refine qr_iload_n o (q_dm dm_X12_jobNeeds 9 rfl) rfl ?_
    refine qr_calls_i (As := [.inl (M 83 a2.toNatClampNeg), .inl a3]) (S := []) o (a_X12_has0 g k.2.1 n j r hj hr (M 83 a2.toNatClampNeg) a3 M) (Nat.le_of_ble_eq_true rfl) zs_X12_has0 rfl ml_X12_149 (Nat.le_of_ble_eq_true rfl) (q_dm dm_X12_jobNeeds 10 rfl) (fun r1 m2 => ?_)
    refine qr_if_eq (tgt := 47) o (q_dm dm_X12_jobNeeds 11 rfl) (by decide) ?_ ?_
    · refine qs_iincl2 (L' := fun x3 => [some (.inr (some 77)), some (.inl a1), some (.inl a2), some (.inl x3)]) o (q_dm dm_X12_jobNeeds 28 rfl) rfl ic_1 (Nat.le_of_ble_eq_true rfl) (fun _ => rfl) (fun x3 => ?_)
      refine qr_goto (tgt := 2) o (q_dm dm_X12_jobNeeds 29 rfl) (by decide) ?_
      exact qr_loc (q_leS (q_leS (q_leS (q_leS q_le0)))) (hK2 a1 a2 x3 m2)
    · refine qr_aload_n o (q_dm dm_X12_jobNeeds 12 rfl) rfl ?_
      refine qr_getr (kf := 0) o cf_X12 (sh77 j r) rfl (Nat.le_of_ble_eq_true rfl) fl_X12_7 (q_dm dm_X12_jobNeeds 13 rfl) ?_
      refine qr_sipush o (q_dm dm_X12_jobNeeds 14 rfl) si_192 ?_
      refine qr_iload_n o (q_dm dm_X12_jobNeeds 15 rfl) rfl ?_
      refine qr_iload_n o (q_dm dm_X12_jobNeeds 16 rfl) rfl ?_
      refine qr_calls_i (As := [.inl a1, .inl a3]) (S := [.inl (192 : Int32), .inr (some 78)]) o (a_X12_at g k.2.1 n j r hj hr a1 a3 m2) (Nat.le_of_ble_eq_true rfl) zs_X12_at rfl ml_X12_282 (Nat.le_of_ble_eq_true rfl) (q_dm dm_X12_jobNeeds 17 rfl) (fun r4 m5 => ?_)
      refine qr_iadd o (q_dm dm_X12_jobNeeds 18 rfl) ?_
      refine qr_iald o (sh78 j r) (q_dm dm_X12_jobNeeds 19 rfl) ?_
      refine qr_aload_n o (q_dm dm_X12_jobNeeds 20 rfl) rfl ?_
      refine qr_getr (kf := 58) o cf_X12 (sh77 j r) rfl (Nat.le_of_ble_eq_true rfl) fl_X12_124 (q_dm dm_X12_jobNeeds 21 rfl) ?_
      refine qr_iload_n o (q_dm dm_X12_jobNeeds 22 rfl) rfl ?_
      refine qr_iald o (sh115 j r) (q_dm dm_X12_jobNeeds 23 rfl) ?_
      refine qr_iadd o (q_dm dm_X12_jobNeeds 24 rfl) ?_
      refine qr_if_ne (tgt := 47) o (q_dm dm_X12_jobNeeds 25 rfl) (by decide) ?_ ?_
      · refine qs_iincl2 (L' := fun x6 => [some (.inr (some 77)), some (.inl a1), some (.inl a2), some (.inl x6)]) o (q_dm dm_X12_jobNeeds 28 rfl) rfl ic_1 (Nat.le_of_ble_eq_true rfl) (fun _ => rfl) (fun x6 => ?_)
        refine qr_goto (tgt := 2) o (q_dm dm_X12_jobNeeds 29 rfl) (by decide) ?_
        exact qr_loc (q_leS (q_leS (q_leS (q_leS q_le0)))) (hK2 a1 a2 x6 m5)
      · refine qr_iconst o (q_dm dm_X12_jobNeeds 26 rfl) ic_0 ?_
        exact qr_iret o rfl (by decide) (q_dm dm_X12_jobNeeds 27 rfl)

def f_X12_jobNeeds_2 (n : Nat) : Nat → Int32 → Int32 → Int32 → qM → qR
  | 0, _, _, _, _ => none
  | m + 1, a1, a2, a3, M => b_X12_jobNeeds_2 n (f_X12_jobNeeds_2 n m) a1 a2 a3 M
theorem w_X12_jobNeeds_2 {g : qG} {k : qK} (n : Nat) (j r : Nat) (hj : q_isLaw j) (hr : q_isLaw r) (o : qOk g 1 zX12_jobNeeds k) : ∀ (m : Nat) (a1 a2 a3 : Int32) (M : qM), qAE g k zX12_jobNeeds (qL j r) 2 [some (.inr (some 77)), some (.inl a1), some (.inl a2), some (.inl a3)] [] (qL j r, M) (f_X12_jobNeeds_2 n m a1 a2 a3 M) := by
  intro m
  induction m with
  | zero =>
    intro a1 a2 a3 M
    exact qr_none
  | succ m ih =>
    intro a1 a2 a3 M
    exact wb_X12_jobNeeds_2 n j r hj hr o (f_X12_jobNeeds_2 n m) ih a1 a2 a3 M
def f_X12_jobNeeds (n : Nat) (a1 a2 : Int32) (M : qM) : qR :=
  f_X12_jobNeeds_2 n n a1 a2 (0 : Int32) M
set_option maxRecDepth 4000 in
theorem w_X12_jobNeeds {g : qG} {k : qK} (n : Nat) (j r : Nat) (hj : q_isLaw j) (hr : q_isLaw r) (o : qOk g 1 zX12_jobNeeds k) (a1 a2 : Int32) (M : qM) : qAE g k zX12_jobNeeds (qL j r) 0 [some (.inr (some 77)), some (.inl a1), some (.inl a2), none] [] (qL j r, M) (f_X12_jobNeeds n a1 a2 M) := by
  unfold f_X12_jobNeeds
  refine qr_iconst o (q_dm dm_X12_jobNeeds 0 rfl) ic_0 ?_
  refine qs_istore_n (L' := [some (.inr (some 77)), some (.inl a1), some (.inl a2), some (.inl (0 : Int32))]) o (q_dm dm_X12_jobNeeds 1 rfl) (Nat.le_of_ble_eq_true rfl) rfl ?_
  exact qr_loc (q_leS (q_leS (q_leS (q_leS q_le0)))) (w_X12_jobNeeds_2 n j r hj hr o n a1 a2 (0 : Int32) M)

theorem a_X12_jobNeeds (g : qG) (l : Launch) (n : Nat) (j r : Nat) (hj : q_isLaw j) (hr : q_isLaw r) (a1 a2 : Int32) (M : qM) : qAM g l 1 zX12_jobNeeds (qL j r) [.inr (some 77), .inl a1, .inl a2] (qL j r, M) (f_X12_jobNeeds n a1 a2 M) :=
  qAM.of zv_X12_jobNeeds.1 (by show 3 ≤ 4; decide) (fun k hk o => w_X12_jobNeeds n j r hj hr o a1 a2 M)
def tb_X12_whoDoes : List (Nat × Instr × Nat) := [(0, (.iload_n 1, 1)), (1, (.istore_n 3, 1)), (2, (.aload_n 0, 1)), (3, (.getfield 423, 3)), (6, (.iconst 1, 1)), (7, (.isub, 1)), (8, (.istore 4, 2)), (10, (.iload 4, 2)), (12, (.iload_n 2, 1)), (13, (.if_icmp .le 16, 3)), (16, (.iload_n 3, 1)), (17, (.aload_n 0, 1)), (18, (.getfield 435, 3)), (21, (.idiv, 1)), (22, (.istore_n 3, 1)), (23, (.iinc 4 (-1), 3)), (26, (.goto (-16), 3)), (29, (.iload_n 3, 1)), (30, (.aload_n 0, 1)), (31, (.getfield 435, 3)), (34, (.irem, 1)), (35, (.ireturn, 1))]
theorem dm_X12_whoDoes : ∀ q ∈ tb_X12_whoDoes, decode zX12_whoDoes.2.1 q.1 = .ok q.2 := by decide +kernel
def b_X12_whoDoes_10 (n : Nat) (K10 : Int32 → Int32 → Int32 → qM → qR) (a2 a3 a4 : Int32) (M : qM) : qR :=
  (if a4 ≤ a2 then qd (M 77 60) (some ((a3 - a3 / (M 77 60) * (M 77 60)), M)) else qd (M 77 60) (ql (a3 / (M 77 60)) (fun x1 => ql (a4 + (-1 : Int32)) (fun x2 => K10 a2 x1 x2 M))))
set_option maxRecDepth 4000 in
theorem wb_X12_whoDoes_10 {g : qG} {k : qK} (n : Nat) (j r : Nat) (hj : q_isLaw j) (hr : q_isLaw r) (o : qOk g 0 zX12_whoDoes k) (K10 : Int32 → Int32 → Int32 → qM → qR) (hK10 : ∀ (a2 a3 a4 : Int32) (M : qM), qAE g k zX12_whoDoes (qL j r) 10 [some (.inr (some 77)), none, some (.inl a2), some (.inl a3), some (.inl a4)] [] (qL j r, M) (K10 a2 a3 a4 M)) (a2 a3 a4 : Int32) (M : qM) : qAE g k zX12_whoDoes (qL j r) 10 [some (.inr (some 77)), none, some (.inl a2), some (.inl a3), some (.inl a4)] [] (qL j r, M) (b_X12_whoDoes_10 n K10 a2 a3 a4 M) := by
  unfold b_X12_whoDoes_10
  refine qr_iload o (q_dm dm_X12_whoDoes 7 rfl) rfl ?_
  refine qr_iload_n o (q_dm dm_X12_whoDoes 8 rfl) rfl ?_
  refine qr_icmp_le (tgt := 29) o (q_dm dm_X12_whoDoes 9 rfl) (by decide) ?_ ?_
  · refine qr_iload_n o (q_dm dm_X12_whoDoes 17 rfl) rfl ?_
    refine qr_aload_n o (q_dm dm_X12_whoDoes 18 rfl) rfl ?_
    refine qr_getf (kf := 60) o cf_X12 (sh77 j r) rfl (Nat.le_of_ble_eq_true rfl) fl_X12_435 (q_dm dm_X12_whoDoes 19 rfl) ?_
    refine qr_irem o (q_dm dm_X12_whoDoes 20 rfl) ?_
    exact qr_iret o rfl rfl (q_dm dm_X12_whoDoes 21 rfl)
  · refine qr_iload_n o (q_dm dm_X12_whoDoes 10 rfl) rfl ?_
    refine qr_aload_n o (q_dm dm_X12_whoDoes 11 rfl) rfl ?_
    refine qr_getf (kf := 60) o cf_X12 (sh77 j r) rfl (Nat.le_of_ble_eq_true rfl) fl_X12_435 (q_dm dm_X12_whoDoes 12 rfl) ?_
    refine qr_idiv o (q_dm dm_X12_whoDoes 13 rfl) ?_
    refine qr_lt (fun x1 => ?_)
    refine qs_istore_n (L' := [some (.inr (some 77)), none, some (.inl a2), some (.inl x1), some (.inl a4)]) o (q_dm dm_X12_whoDoes 14 rfl) (Nat.le_of_ble_eq_true rfl) rfl ?_
    refine qs_iincl2 (L' := fun x2 => [some (.inr (some 77)), none, some (.inl a2), some (.inl x1), some (.inl x2)]) o (q_dm dm_X12_whoDoes 15 rfl) rfl ic_m1 (Nat.le_of_ble_eq_true rfl) (fun _ => rfl) (fun x2 => ?_)
    refine qr_goto (tgt := 10) o (q_dm dm_X12_whoDoes 16 rfl) (by decide) ?_
    exact qr_loc (q_leS (q_leN (q_leS (q_leS (q_leS q_le0))))) (hK10 a2 x1 x2 M)

def f_X12_whoDoes_10 (n : Nat) : Nat → Int32 → Int32 → Int32 → qM → qR
  | 0, _, _, _, _ => none
  | m + 1, a2, a3, a4, M => b_X12_whoDoes_10 n (f_X12_whoDoes_10 n m) a2 a3 a4 M
theorem w_X12_whoDoes_10 {g : qG} {k : qK} (n : Nat) (j r : Nat) (hj : q_isLaw j) (hr : q_isLaw r) (o : qOk g 0 zX12_whoDoes k) : ∀ (m : Nat) (a2 a3 a4 : Int32) (M : qM), qAE g k zX12_whoDoes (qL j r) 10 [some (.inr (some 77)), none, some (.inl a2), some (.inl a3), some (.inl a4)] [] (qL j r, M) (f_X12_whoDoes_10 n m a2 a3 a4 M) := by
  intro m
  induction m with
  | zero =>
    intro a2 a3 a4 M
    exact qr_none
  | succ m ih =>
    intro a2 a3 a4 M
    exact wb_X12_whoDoes_10 n j r hj hr o (f_X12_whoDoes_10 n m) ih a2 a3 a4 M
def f_X12_whoDoes (n : Nat) (a1 a2 : Int32) (M : qM) : qR :=
  ql ((M 77 59) - (1 : Int32)) (fun x1 => f_X12_whoDoes_10 n n a2 a1 x1 M)
set_option maxRecDepth 4000 in
theorem w_X12_whoDoes {g : qG} {k : qK} (n : Nat) (j r : Nat) (hj : q_isLaw j) (hr : q_isLaw r) (o : qOk g 0 zX12_whoDoes k) (a1 a2 : Int32) (M : qM) : qAE g k zX12_whoDoes (qL j r) 0 [some (.inr (some 77)), some (.inl a1), some (.inl a2), none, none] [] (qL j r, M) (f_X12_whoDoes n a1 a2 M) := by
  unfold f_X12_whoDoes
  refine qr_iload_n o (q_dm dm_X12_whoDoes 0 rfl) rfl ?_
  refine qs_istore_n (L' := [some (.inr (some 77)), some (.inl a1), some (.inl a2), some (.inl a1), none]) o (q_dm dm_X12_whoDoes 1 rfl) (Nat.le_of_ble_eq_true rfl) rfl ?_
  refine qr_aload_n o (q_dm dm_X12_whoDoes 2 rfl) rfl ?_
  refine qr_getf (kf := 59) o cf_X12 (sh77 j r) rfl (Nat.le_of_ble_eq_true rfl) fl_X12_423 (q_dm dm_X12_whoDoes 3 rfl) ?_
  refine qr_iconst o (q_dm dm_X12_whoDoes 4 rfl) ic_1 ?_
  refine qr_isub o (q_dm dm_X12_whoDoes 5 rfl) ?_
  refine qr_lt (fun x1 => ?_)
  refine qs_istore (L' := [some (.inr (some 77)), some (.inl a1), some (.inl a2), some (.inl a1), some (.inl x1)]) o (q_dm dm_X12_whoDoes 6 rfl) (Nat.le_of_ble_eq_true rfl) rfl ?_
  exact qr_loc (q_leS (q_leN (q_leS (q_leS (q_leS q_le0))))) (w_X12_whoDoes_10 n j r hj hr o n a2 a1 x1 M)

theorem a_X12_whoDoes (g : qG) (l : Launch) (n : Nat) (j r : Nat) (hj : q_isLaw j) (hr : q_isLaw r) (a1 a2 : Int32) (M : qM) : qAM g l 0 zX12_whoDoes (qL j r) [.inr (some 77), .inl a1, .inl a2] (qL j r, M) (f_X12_whoDoes n a1 a2 M) :=
  qAM.of zv_X12_whoDoes.1 (by show 3 ≤ 5; decide) (fun k hk o => w_X12_whoDoes n j r hj hr o a1 a2 M)
def tb_X12_hoursBy : List (Nat × Instr × Nat) := [(0, (.aload_n 0, 1)), (1, (.getfield 115, 3)), (4, (.iload_n 1, 1)), (5, (.iaload, 1)), (6, (.istore_n 3, 1)), (7, (.iconst 0, 1)), (8, (.istore 4, 2)), (10, (.iconst 0, 1)), (11, (.istore 5, 2)), (13, (.iload 5, 2)), (15, (.bipush 12, 2)), (17, (.if_icmp .ge 25, 3)), (20, (.aload_n 0, 1)), (21, (.getfield 121, 3)), (24, (.iload 5, 2)), (26, (.iconst 0, 1)), (27, (.iastore, 1)), (28, (.aload_n 0, 1)), (29, (.getfield 124, 3)), (32, (.iload 5, 2)), (34, (.iconst 0, 1)), (35, (.iastore, 1)), (36, (.iinc 5 1, 3)), (39, (.goto (-26), 3)), (42, (.iconst 0, 1)), (43, (.istore 5, 2)), (45, (.iload 5, 2)), (47, (.aload_n 0, 1)), (48, (.getfield 423, 3)), (51, (.if_icmp .ge 117, 3)), (54, (.aload_n 0, 1)), (55, (.iload_n 2, 1)), (56, (.iload 5, 2)), (58, (.invokevirtual 426, 3)), (61, (.iload_n 1, 1)), (62, (.if_icmp .eq 6, 3)), (65, (.goto 97, 3)), (68, (.aload_n 0, 1)), (69, (.getfield 112, 3)), (72, (.iload 5, 2)), (74, (.iaload, 1)), (75, (.istore 6, 2)), (77, (.aload_n 0, 1)), (78, (.iload_n 3, 1)), (79, (.iload 6, 2)), (81, (.invokevirtual 429, 3)), (84, (.ifCond .ne 7, 3)), (87, (.ldc_w 398, 3)), (90, (.ireturn, 1)), (91, (.iconst 1, 1)), (92, (.istore 7, 2)), (94, (.iload 7, 2)), (96, (.bipush 20, 2)), (98, (.if_icmp .gt 22, 3)), (101, (.aload_n 0, 1)), (102, (.iload_n 3, 1)), (103, (.iload 6, 2)), (105, (.invokevirtual 432, 3)), (108, (.ifCond .ne 12, 3)), (111, (.iload 7, 2)), (113, (.iconst 1, 1)), (114, (.iadd, 1)), (115, (.istore 7, 2)), (117, (.goto (-23), 3)), (120, (.iload 7, 2)), (122, (.bipush 20, 2)), (124, (.if_icmp .le 7, 3)), (127, (.ldc_w 398, 3)), (130, (.ireturn, 1)), (131, (.aload_n 0, 1)), (132, (.getfield 124, 3)), (135, (.iload 6, 2)), (137, (.aload_n 0, 1)), (138, (.getfield 124, 3)), (141, (.iload 6, 2)), (143, (.iaload, 1)), (144, (.iconst 1, 1)), (145, (.iadd, 1)), (146, (.iastore, 1)), (147, (.iload 4, 2)), (149, (.iload 7, 2)), (151, (.aload_n 0, 1)), (152, (.getfield 19, 3)), (155, (.iload 6, 2)), (157, (.iaload, 1)), (158, (.imul, 1)), (159, (.iadd, 1)), (160, (.istore 4, 2)), (162, (.iinc 5 1, 3)), (165, (.goto (-120), 3)), (168, (.iload 4, 2)), (170, (.ireturn, 1))]
theorem dm_X12_hoursBy : ∀ q ∈ tb_X12_hoursBy, decode zX12_hoursBy.2.1 q.1 = .ok q.2 := by decide +kernel
def f_X12_hoursBy_120 (n : Nat) (K45 : Int32 → Int32 → Int32 → Int32 → Int32 → qM → qR) (a1 a2 a3 a4 a5 a6 a7 : Int32) (M : qM) : qR :=
  (if a7 ≤ (20 : Int32) then qg a6 12 (qg a6 12 (qlm (mu M 115 a6.toNatClampNeg ((M 115 a6.toNatClampNeg) + (1 : Int32))) (fun m1 => qg a6 13 (ql (a4 + (a7 * (m1 81 a6.toNatClampNeg))) (fun x2 => ql (a5 + (1 : Int32)) (fun x3 => K45 a1 a2 a3 x2 x3 m1)))))) else some ((1000000000 : Int32), M))
set_option maxRecDepth 4000 in
theorem w_X12_hoursBy_120 {g : qG} {k : qK} (n : Nat) (j r : Nat) (hj : q_isLaw j) (hr : q_isLaw r) (o : qOk g 4 zX12_hoursBy k) (K45 : Int32 → Int32 → Int32 → Int32 → Int32 → qM → qR) (hK45 : ∀ (a1 a2 a3 a4 a5 : Int32) (M : qM), qAE g k zX12_hoursBy (qL j r) 45 [some (.inr (some 77)), some (.inl a1), some (.inl a2), some (.inl a3), some (.inl a4), some (.inl a5), none, none] [] (qL j r, M) (K45 a1 a2 a3 a4 a5 M)) (a1 a2 a3 a4 a5 a6 a7 : Int32) (M : qM) : qAE g k zX12_hoursBy (qL j r) 120 [some (.inr (some 77)), some (.inl a1), some (.inl a2), some (.inl a3), some (.inl a4), some (.inl a5), some (.inl a6), some (.inl a7)] [] (qL j r, M) (f_X12_hoursBy_120 n K45 a1 a2 a3 a4 a5 a6 a7 M) := by
  unfold f_X12_hoursBy_120
  refine qr_iload o (q_dm dm_X12_hoursBy 64 rfl) rfl ?_
  refine qr_bipush o (q_dm dm_X12_hoursBy 65 rfl) bi_20 ?_
  refine qr_icmp_le (tgt := 131) o (q_dm dm_X12_hoursBy 66 rfl) (by decide) ?_ ?_
  · refine qr_aload_n o (q_dm dm_X12_hoursBy 69 rfl) rfl ?_
    refine qr_getr (kf := 58) o cf_X12 (sh77 j r) rfl (Nat.le_of_ble_eq_true rfl) fl_X12_124 (q_dm dm_X12_hoursBy 70 rfl) ?_
    refine qr_iload o (q_dm dm_X12_hoursBy 71 rfl) rfl ?_
    refine qr_aload_n o (q_dm dm_X12_hoursBy 72 rfl) rfl ?_
    refine qr_getr (kf := 58) o cf_X12 (sh77 j r) rfl (Nat.le_of_ble_eq_true rfl) fl_X12_124 (q_dm dm_X12_hoursBy 73 rfl) ?_
    refine qr_iload o (q_dm dm_X12_hoursBy 74 rfl) rfl ?_
    refine qr_iald o (sh115 j r) (q_dm dm_X12_hoursBy 75 rfl) ?_
    refine qr_iconst o (q_dm dm_X12_hoursBy 76 rfl) ic_1 ?_
    refine qr_iadd o (q_dm dm_X12_hoursBy 77 rfl) ?_
    refine qr_iast o (sh115 j r) (q_dm dm_X12_hoursBy 78 rfl) ?_
    refine qr_letm (fun m1 => ?_)
    refine qr_iload o (q_dm dm_X12_hoursBy 79 rfl) rfl ?_
    refine qr_iload o (q_dm dm_X12_hoursBy 80 rfl) rfl ?_
    refine qr_aload_n o (q_dm dm_X12_hoursBy 81 rfl) rfl ?_
    refine qr_getr (kf := 3) o cf_X12 (sh77 j r) rfl (Nat.le_of_ble_eq_true rfl) fl_X12_19 (q_dm dm_X12_hoursBy 82 rfl) ?_
    refine qr_iload o (q_dm dm_X12_hoursBy 83 rfl) rfl ?_
    refine qr_iald o (sh81 j r) (q_dm dm_X12_hoursBy 84 rfl) ?_
    refine qr_imul o (q_dm dm_X12_hoursBy 85 rfl) ?_
    refine qr_iadd o (q_dm dm_X12_hoursBy 86 rfl) ?_
    refine qr_lt (fun x2 => ?_)
    refine qs_istore (L' := [some (.inr (some 77)), some (.inl a1), some (.inl a2), some (.inl a3), some (.inl x2), some (.inl a5), some (.inl a6), some (.inl a7)]) o (q_dm dm_X12_hoursBy 87 rfl) (Nat.le_of_ble_eq_true rfl) rfl ?_
    refine qs_iincl2 (L' := fun x3 => [some (.inr (some 77)), some (.inl a1), some (.inl a2), some (.inl a3), some (.inl x2), some (.inl x3), some (.inl a6), some (.inl a7)]) o (q_dm dm_X12_hoursBy 88 rfl) rfl ic_1 (Nat.le_of_ble_eq_true rfl) (fun _ => rfl) (fun x3 => ?_)
    refine qr_goto (tgt := 45) o (q_dm dm_X12_hoursBy 89 rfl) (by decide) ?_
    exact qr_loc (q_leS (q_leS (q_leS (q_leS (q_leS (q_leS (q_leN (q_leN q_le0)))))))) (hK45 a1 a2 a3 x2 x3 m1)
  · refine qr_ldc_w o (q_dm dm_X12_hoursBy 67 rfl) kc_X12_398 ?_
    exact qr_iret o rfl rfl (q_dm dm_X12_hoursBy 68 rfl)

def b_X12_hoursBy_94 (n : Nat) (K45 : Int32 → Int32 → Int32 → Int32 → Int32 → qM → qR) (K94 : Int32 → Int32 → Int32 → Int32 → Int32 → Int32 → Int32 → qM → qR) (a1 a2 a3 a4 a5 a6 a7 : Int32) (M : qM) : qR :=
  (if (20 : Int32) < a7 then f_X12_hoursBy_120 n K45 a1 a2 a3 a4 a5 a6 a7 M else qc (f_X12_jobCounts n a3 a6 M) (fun r1 m2 => (if r1 = (0 : Int32) then ql (a7 + (1 : Int32)) (fun x3 => K94 a1 a2 a3 a4 a5 a6 x3 m2) else f_X12_hoursBy_120 n K45 a1 a2 a3 a4 a5 a6 a7 m2)))
set_option maxRecDepth 4000 in
theorem wb_X12_hoursBy_94 {g : qG} {k : qK} (n : Nat) (j r : Nat) (hj : q_isLaw j) (hr : q_isLaw r) (o : qOk g 4 zX12_hoursBy k) (K45 : Int32 → Int32 → Int32 → Int32 → Int32 → qM → qR) (hK45 : ∀ (a1 a2 a3 a4 a5 : Int32) (M : qM), qAE g k zX12_hoursBy (qL j r) 45 [some (.inr (some 77)), some (.inl a1), some (.inl a2), some (.inl a3), some (.inl a4), some (.inl a5), none, none] [] (qL j r, M) (K45 a1 a2 a3 a4 a5 M)) (K94 : Int32 → Int32 → Int32 → Int32 → Int32 → Int32 → Int32 → qM → qR) (hK94 : ∀ (a1 a2 a3 a4 a5 a6 a7 : Int32) (M : qM), qAE g k zX12_hoursBy (qL j r) 94 [some (.inr (some 77)), some (.inl a1), some (.inl a2), some (.inl a3), some (.inl a4), some (.inl a5), some (.inl a6), some (.inl a7)] [] (qL j r, M) (K94 a1 a2 a3 a4 a5 a6 a7 M)) (a1 a2 a3 a4 a5 a6 a7 : Int32) (M : qM) : qAE g k zX12_hoursBy (qL j r) 94 [some (.inr (some 77)), some (.inl a1), some (.inl a2), some (.inl a3), some (.inl a4), some (.inl a5), some (.inl a6), some (.inl a7)] [] (qL j r, M) (b_X12_hoursBy_94 n K45 K94 a1 a2 a3 a4 a5 a6 a7 M) := by
  unfold b_X12_hoursBy_94
  refine qr_iload o (q_dm dm_X12_hoursBy 51 rfl) rfl ?_
  refine qr_bipush o (q_dm dm_X12_hoursBy 52 rfl) bi_20 ?_
  refine qr_icmp_gt (tgt := 120) o (q_dm dm_X12_hoursBy 53 rfl) (by decide) ?_ ?_
  · exact qr_loc (q_leS (q_leS (q_leS (q_leS (q_leS (q_leS (q_leS (q_leS q_le0)))))))) (w_X12_hoursBy_120 n j r hj hr o K45 hK45 a1 a2 a3 a4 a5 a6 a7 M)
  · refine qr_aload_n o (q_dm dm_X12_hoursBy 54 rfl) rfl ?_
    refine qr_iload_n o (q_dm dm_X12_hoursBy 55 rfl) rfl ?_
    refine qr_iload o (q_dm dm_X12_hoursBy 56 rfl) rfl ?_
    refine qr_callv_i (As := [.inl a3, .inl a6]) (S := []) o (a_X12_jobCounts g k.2.1 n j r hj hr a3 a6 M) (Nat.le_of_ble_eq_true rfl) zv_X12_jobCounts rfl cf_X12 (sh77 j r) ml_X12_432 (Nat.le_of_ble_eq_true rfl) (q_dm dm_X12_hoursBy 57 rfl) (fun r1 m2 => ?_)
    refine qr_if_ne (tgt := 120) o (q_dm dm_X12_hoursBy 58 rfl) (by decide) ?_ ?_
    · exact qr_loc (q_leS (q_leS (q_leS (q_leS (q_leS (q_leS (q_leS (q_leS q_le0)))))))) (w_X12_hoursBy_120 n j r hj hr o K45 hK45 a1 a2 a3 a4 a5 a6 a7 m2)
    · refine qr_iload o (q_dm dm_X12_hoursBy 59 rfl) rfl ?_
      refine qr_iconst o (q_dm dm_X12_hoursBy 60 rfl) ic_1 ?_
      refine qr_iadd o (q_dm dm_X12_hoursBy 61 rfl) ?_
      refine qr_lt (fun x3 => ?_)
      refine qs_istore (L' := [some (.inr (some 77)), some (.inl a1), some (.inl a2), some (.inl a3), some (.inl a4), some (.inl a5), some (.inl a6), some (.inl x3)]) o (q_dm dm_X12_hoursBy 62 rfl) (Nat.le_of_ble_eq_true rfl) rfl ?_
      refine qr_goto (tgt := 94) o (q_dm dm_X12_hoursBy 63 rfl) (by decide) ?_
      exact qr_loc (q_leS (q_leS (q_leS (q_leS (q_leS (q_leS (q_leS (q_leS q_le0)))))))) (hK94 a1 a2 a3 a4 a5 a6 x3 m2)

def f_X12_hoursBy_94 (n : Nat) (K45 : Int32 → Int32 → Int32 → Int32 → Int32 → qM → qR) : Nat → Int32 → Int32 → Int32 → Int32 → Int32 → Int32 → Int32 → qM → qR
  | 0, _, _, _, _, _, _, _, _ => none
  | m + 1, a1, a2, a3, a4, a5, a6, a7, M => b_X12_hoursBy_94 n K45 (f_X12_hoursBy_94 n K45 m) a1 a2 a3 a4 a5 a6 a7 M
theorem w_X12_hoursBy_94 {g : qG} {k : qK} (n : Nat) (j r : Nat) (hj : q_isLaw j) (hr : q_isLaw r) (o : qOk g 4 zX12_hoursBy k) (K45 : Int32 → Int32 → Int32 → Int32 → Int32 → qM → qR) (hK45 : ∀ (a1 a2 a3 a4 a5 : Int32) (M : qM), qAE g k zX12_hoursBy (qL j r) 45 [some (.inr (some 77)), some (.inl a1), some (.inl a2), some (.inl a3), some (.inl a4), some (.inl a5), none, none] [] (qL j r, M) (K45 a1 a2 a3 a4 a5 M)) : ∀ (m : Nat) (a1 a2 a3 a4 a5 a6 a7 : Int32) (M : qM), qAE g k zX12_hoursBy (qL j r) 94 [some (.inr (some 77)), some (.inl a1), some (.inl a2), some (.inl a3), some (.inl a4), some (.inl a5), some (.inl a6), some (.inl a7)] [] (qL j r, M) (f_X12_hoursBy_94 n K45 m a1 a2 a3 a4 a5 a6 a7 M) := by
  intro m
  induction m with
  | zero =>
    intro a1 a2 a3 a4 a5 a6 a7 M
    exact qr_none
  | succ m ih =>
    intro a1 a2 a3 a4 a5 a6 a7 M
    exact wb_X12_hoursBy_94 n j r hj hr o K45 hK45 (f_X12_hoursBy_94 n K45 m) ih a1 a2 a3 a4 a5 a6 a7 M
def b_X12_hoursBy_45 (n : Nat) (K45 : Int32 → Int32 → Int32 → Int32 → Int32 → qM → qR) (a1 a2 a3 a4 a5 : Int32) (M : qM) : qR :=
  (if (M 77 59) ≤ a5 then some (a4, M) else qc (f_X12_whoDoes n a2 a5 M) (fun r1 m2 => (if r1 = a1 then qg a5 8 (ql (m2 111 a5.toNatClampNeg) (fun x3 => qc (f_X12_jobNeeds n a3 x3 m2) (fun r4 m5 => (if r4 = (0 : Int32) then some ((1000000000 : Int32), m5) else f_X12_hoursBy_94 n K45 n a1 a2 a3 a4 a5 x3 (1 : Int32) m5)))) else ql (a5 + (1 : Int32)) (fun x6 => K45 a1 a2 a3 a4 x6 m2))))
set_option maxRecDepth 4000 in
theorem wb_X12_hoursBy_45 {g : qG} {k : qK} (n : Nat) (j r : Nat) (hj : q_isLaw j) (hr : q_isLaw r) (o : qOk g 4 zX12_hoursBy k) (K45 : Int32 → Int32 → Int32 → Int32 → Int32 → qM → qR) (hK45 : ∀ (a1 a2 a3 a4 a5 : Int32) (M : qM), qAE g k zX12_hoursBy (qL j r) 45 [some (.inr (some 77)), some (.inl a1), some (.inl a2), some (.inl a3), some (.inl a4), some (.inl a5), none, none] [] (qL j r, M) (K45 a1 a2 a3 a4 a5 M)) (a1 a2 a3 a4 a5 : Int32) (M : qM) : qAE g k zX12_hoursBy (qL j r) 45 [some (.inr (some 77)), some (.inl a1), some (.inl a2), some (.inl a3), some (.inl a4), some (.inl a5), none, none] [] (qL j r, M) (b_X12_hoursBy_45 n K45 a1 a2 a3 a4 a5 M) := by
  unfold b_X12_hoursBy_45
  refine qr_iload o (q_dm dm_X12_hoursBy 26 rfl) rfl ?_
  refine qr_aload_n o (q_dm dm_X12_hoursBy 27 rfl) rfl ?_
  refine qr_getf (kf := 59) o cf_X12 (sh77 j r) rfl (Nat.le_of_ble_eq_true rfl) fl_X12_423 (q_dm dm_X12_hoursBy 28 rfl) ?_
  refine qr_icmp_ge (tgt := 168) o (q_dm dm_X12_hoursBy 29 rfl) (by decide) ?_ ?_
  · refine qr_iload o (q_dm dm_X12_hoursBy 90 rfl) rfl ?_
    exact qr_iret o rfl rfl (q_dm dm_X12_hoursBy 91 rfl)
  · refine qr_aload_n o (q_dm dm_X12_hoursBy 30 rfl) rfl ?_
    refine qr_iload_n o (q_dm dm_X12_hoursBy 31 rfl) rfl ?_
    refine qr_iload o (q_dm dm_X12_hoursBy 32 rfl) rfl ?_
    refine qr_callv_i (As := [.inl a2, .inl a5]) (S := []) o (a_X12_whoDoes g k.2.1 n j r hj hr a2 a5 M) (Nat.le_of_ble_eq_true rfl) zv_X12_whoDoes rfl cf_X12 (sh77 j r) ml_X12_426 (Nat.le_of_ble_eq_true rfl) (q_dm dm_X12_hoursBy 33 rfl) (fun r1 m2 => ?_)
    refine qr_iload_n o (q_dm dm_X12_hoursBy 34 rfl) rfl ?_
    refine qr_icmp_eq (tgt := 68) o (q_dm dm_X12_hoursBy 35 rfl) (by decide) ?_ ?_
    · refine qr_aload_n o (q_dm dm_X12_hoursBy 37 rfl) rfl ?_
      refine qr_getr (kf := 54) o cf_X12 (sh77 j r) rfl (Nat.le_of_ble_eq_true rfl) fl_X12_112 (q_dm dm_X12_hoursBy 38 rfl) ?_
      refine qr_iload o (q_dm dm_X12_hoursBy 39 rfl) rfl ?_
      refine qr_iald o (sh111 j r) (q_dm dm_X12_hoursBy 40 rfl) ?_
      refine qr_lt (fun x3 => ?_)
      refine qs_istore (L' := [some (.inr (some 77)), some (.inl a1), some (.inl a2), some (.inl a3), some (.inl a4), some (.inl a5), some (.inl x3), none]) o (q_dm dm_X12_hoursBy 41 rfl) (Nat.le_of_ble_eq_true rfl) rfl ?_
      refine qr_aload_n o (q_dm dm_X12_hoursBy 42 rfl) rfl ?_
      refine qr_iload_n o (q_dm dm_X12_hoursBy 43 rfl) rfl ?_
      refine qr_iload o (q_dm dm_X12_hoursBy 44 rfl) rfl ?_
      refine qr_callv_i (As := [.inl a3, .inl x3]) (S := []) o (a_X12_jobNeeds g k.2.1 n j r hj hr a3 x3 m2) (Nat.le_of_ble_eq_true rfl) zv_X12_jobNeeds rfl cf_X12 (sh77 j r) ml_X12_429 (Nat.le_of_ble_eq_true rfl) (q_dm dm_X12_hoursBy 45 rfl) (fun r4 m5 => ?_)
      refine qr_if_ne (tgt := 91) o (q_dm dm_X12_hoursBy 46 rfl) (by decide) ?_ ?_
      · refine qr_iconst o (q_dm dm_X12_hoursBy 49 rfl) ic_1 ?_
        refine qs_istore (L' := [some (.inr (some 77)), some (.inl a1), some (.inl a2), some (.inl a3), some (.inl a4), some (.inl a5), some (.inl x3), some (.inl (1 : Int32))]) o (q_dm dm_X12_hoursBy 50 rfl) (Nat.le_of_ble_eq_true rfl) rfl ?_
        exact qr_loc (q_leS (q_leS (q_leS (q_leS (q_leS (q_leS (q_leS (q_leS q_le0)))))))) (w_X12_hoursBy_94 n j r hj hr o K45 hK45 n a1 a2 a3 a4 a5 x3 (1 : Int32) m5)
      · refine qr_ldc_w o (q_dm dm_X12_hoursBy 47 rfl) kc_X12_398 ?_
        exact qr_iret o rfl rfl (q_dm dm_X12_hoursBy 48 rfl)
    · refine qr_goto (tgt := 162) o (q_dm dm_X12_hoursBy 36 rfl) (by decide) ?_
      refine qs_iincl2 (L' := fun x6 => [some (.inr (some 77)), some (.inl a1), some (.inl a2), some (.inl a3), some (.inl a4), some (.inl x6), none, none]) o (q_dm dm_X12_hoursBy 88 rfl) rfl ic_1 (Nat.le_of_ble_eq_true rfl) (fun _ => rfl) (fun x6 => ?_)
      refine qr_goto (tgt := 45) o (q_dm dm_X12_hoursBy 89 rfl) (by decide) ?_
      exact qr_loc (q_leS (q_leS (q_leS (q_leS (q_leS (q_leS (q_leN (q_leN q_le0)))))))) (hK45 a1 a2 a3 a4 x6 m2)

def f_X12_hoursBy_45 (n : Nat) : Nat → Int32 → Int32 → Int32 → Int32 → Int32 → qM → qR
  | 0, _, _, _, _, _, _ => none
  | m + 1, a1, a2, a3, a4, a5, M => b_X12_hoursBy_45 n (f_X12_hoursBy_45 n m) a1 a2 a3 a4 a5 M
theorem w_X12_hoursBy_45 {g : qG} {k : qK} (n : Nat) (j r : Nat) (hj : q_isLaw j) (hr : q_isLaw r) (o : qOk g 4 zX12_hoursBy k) : ∀ (m : Nat) (a1 a2 a3 a4 a5 : Int32) (M : qM), qAE g k zX12_hoursBy (qL j r) 45 [some (.inr (some 77)), some (.inl a1), some (.inl a2), some (.inl a3), some (.inl a4), some (.inl a5), none, none] [] (qL j r, M) (f_X12_hoursBy_45 n m a1 a2 a3 a4 a5 M) := by
  intro m
  induction m with
  | zero =>
    intro a1 a2 a3 a4 a5 M
    exact qr_none
  | succ m ih =>
    intro a1 a2 a3 a4 a5 M
    exact wb_X12_hoursBy_45 n j r hj hr o (f_X12_hoursBy_45 n m) ih a1 a2 a3 a4 a5 M
def b_X12_hoursBy_13 (n : Nat) (K13 : Int32 → Int32 → Int32 → Int32 → Int32 → qM → qR) (a1 a2 a3 a4 a5 : Int32) (M : qM) : qR :=
  (if (12 : Int32) ≤ a5 then f_X12_hoursBy_45 n n a1 a2 a3 a4 (0 : Int32) M else qg a5 12 (qlm (mu M 114 a5.toNatClampNeg (0 : Int32)) (fun m1 => qg a5 12 (qlm (mu m1 115 a5.toNatClampNeg (0 : Int32)) (fun m2 => ql (a5 + (1 : Int32)) (fun x3 => K13 a1 a2 a3 a4 x3 m2))))))
set_option maxRecDepth 4000 in
theorem wb_X12_hoursBy_13 {g : qG} {k : qK} (n : Nat) (j r : Nat) (hj : q_isLaw j) (hr : q_isLaw r) (o : qOk g 4 zX12_hoursBy k) (K13 : Int32 → Int32 → Int32 → Int32 → Int32 → qM → qR) (hK13 : ∀ (a1 a2 a3 a4 a5 : Int32) (M : qM), qAE g k zX12_hoursBy (qL j r) 13 [some (.inr (some 77)), some (.inl a1), some (.inl a2), some (.inl a3), some (.inl a4), some (.inl a5), none, none] [] (qL j r, M) (K13 a1 a2 a3 a4 a5 M)) (a1 a2 a3 a4 a5 : Int32) (M : qM) : qAE g k zX12_hoursBy (qL j r) 13 [some (.inr (some 77)), some (.inl a1), some (.inl a2), some (.inl a3), some (.inl a4), some (.inl a5), none, none] [] (qL j r, M) (b_X12_hoursBy_13 n K13 a1 a2 a3 a4 a5 M) := by
  unfold b_X12_hoursBy_13
  refine qr_iload o (q_dm dm_X12_hoursBy 9 rfl) rfl ?_
  refine qr_bipush o (q_dm dm_X12_hoursBy 10 rfl) bi_12 ?_
  refine qr_icmp_ge (tgt := 42) o (q_dm dm_X12_hoursBy 11 rfl) (by decide) ?_ ?_
  · refine qr_iconst o (q_dm dm_X12_hoursBy 24 rfl) ic_0 ?_
    refine qs_istore (L' := [some (.inr (some 77)), some (.inl a1), some (.inl a2), some (.inl a3), some (.inl a4), some (.inl (0 : Int32)), none, none]) o (q_dm dm_X12_hoursBy 25 rfl) (Nat.le_of_ble_eq_true rfl) rfl ?_
    exact qr_loc (q_leS (q_leS (q_leS (q_leS (q_leS (q_leS (q_leN (q_leN q_le0)))))))) (w_X12_hoursBy_45 n j r hj hr o n a1 a2 a3 a4 (0 : Int32) M)
  · refine qr_aload_n o (q_dm dm_X12_hoursBy 12 rfl) rfl ?_
    refine qr_getr (kf := 57) o cf_X12 (sh77 j r) rfl (Nat.le_of_ble_eq_true rfl) fl_X12_121 (q_dm dm_X12_hoursBy 13 rfl) ?_
    refine qr_iload o (q_dm dm_X12_hoursBy 14 rfl) rfl ?_
    refine qr_iconst o (q_dm dm_X12_hoursBy 15 rfl) ic_0 ?_
    refine qr_iast o (sh114 j r) (q_dm dm_X12_hoursBy 16 rfl) ?_
    refine qr_letm (fun m1 => ?_)
    refine qr_aload_n o (q_dm dm_X12_hoursBy 17 rfl) rfl ?_
    refine qr_getr (kf := 58) o cf_X12 (sh77 j r) rfl (Nat.le_of_ble_eq_true rfl) fl_X12_124 (q_dm dm_X12_hoursBy 18 rfl) ?_
    refine qr_iload o (q_dm dm_X12_hoursBy 19 rfl) rfl ?_
    refine qr_iconst o (q_dm dm_X12_hoursBy 20 rfl) ic_0 ?_
    refine qr_iast o (sh115 j r) (q_dm dm_X12_hoursBy 21 rfl) ?_
    refine qr_letm (fun m2 => ?_)
    refine qs_iincl2 (L' := fun x3 => [some (.inr (some 77)), some (.inl a1), some (.inl a2), some (.inl a3), some (.inl a4), some (.inl x3), none, none]) o (q_dm dm_X12_hoursBy 22 rfl) rfl ic_1 (Nat.le_of_ble_eq_true rfl) (fun _ => rfl) (fun x3 => ?_)
    refine qr_goto (tgt := 13) o (q_dm dm_X12_hoursBy 23 rfl) (by decide) ?_
    exact qr_loc (q_leS (q_leS (q_leS (q_leS (q_leS (q_leS (q_leN (q_leN q_le0)))))))) (hK13 a1 a2 a3 a4 x3 m2)

def f_X12_hoursBy_13 (n : Nat) : Nat → Int32 → Int32 → Int32 → Int32 → Int32 → qM → qR
  | 0, _, _, _, _, _, _ => none
  | m + 1, a1, a2, a3, a4, a5, M => b_X12_hoursBy_13 n (f_X12_hoursBy_13 n m) a1 a2 a3 a4 a5 M
theorem w_X12_hoursBy_13 {g : qG} {k : qK} (n : Nat) (j r : Nat) (hj : q_isLaw j) (hr : q_isLaw r) (o : qOk g 4 zX12_hoursBy k) : ∀ (m : Nat) (a1 a2 a3 a4 a5 : Int32) (M : qM), qAE g k zX12_hoursBy (qL j r) 13 [some (.inr (some 77)), some (.inl a1), some (.inl a2), some (.inl a3), some (.inl a4), some (.inl a5), none, none] [] (qL j r, M) (f_X12_hoursBy_13 n m a1 a2 a3 a4 a5 M) := by
  intro m
  induction m with
  | zero =>
    intro a1 a2 a3 a4 a5 M
    exact qr_none
  | succ m ih =>
    intro a1 a2 a3 a4 a5 M
    exact wb_X12_hoursBy_13 n j r hj hr o (f_X12_hoursBy_13 n m) ih a1 a2 a3 a4 a5 M
def f_X12_hoursBy (n : Nat) (a1 a2 : Int32) (M : qM) : qR :=
  qg a1 3 (ql (M 112 a1.toNatClampNeg) (fun x1 => f_X12_hoursBy_13 n n a1 a2 x1 (0 : Int32) (0 : Int32) M))
set_option maxRecDepth 4000 in
theorem w_X12_hoursBy {g : qG} {k : qK} (n : Nat) (j r : Nat) (hj : q_isLaw j) (hr : q_isLaw r) (o : qOk g 4 zX12_hoursBy k) (a1 a2 : Int32) (M : qM) : qAE g k zX12_hoursBy (qL j r) 0 [some (.inr (some 77)), some (.inl a1), some (.inl a2), none, none, none, none, none] [] (qL j r, M) (f_X12_hoursBy n a1 a2 M) := by
  unfold f_X12_hoursBy
  refine qr_aload_n o (q_dm dm_X12_hoursBy 0 rfl) rfl ?_
  refine qr_getr (kf := 55) o cf_X12 (sh77 j r) rfl (Nat.le_of_ble_eq_true rfl) fl_X12_115 (q_dm dm_X12_hoursBy 1 rfl) ?_
  refine qr_iload_n o (q_dm dm_X12_hoursBy 2 rfl) rfl ?_
  refine qr_iald o (sh112 j r) (q_dm dm_X12_hoursBy 3 rfl) ?_
  refine qr_lt (fun x1 => ?_)
  refine qs_istore_n (L' := [some (.inr (some 77)), some (.inl a1), some (.inl a2), some (.inl x1), none, none, none, none]) o (q_dm dm_X12_hoursBy 4 rfl) (Nat.le_of_ble_eq_true rfl) rfl ?_
  refine qr_iconst o (q_dm dm_X12_hoursBy 5 rfl) ic_0 ?_
  refine qs_istore (L' := [some (.inr (some 77)), some (.inl a1), some (.inl a2), some (.inl x1), some (.inl (0 : Int32)), none, none, none]) o (q_dm dm_X12_hoursBy 6 rfl) (Nat.le_of_ble_eq_true rfl) rfl ?_
  refine qr_iconst o (q_dm dm_X12_hoursBy 7 rfl) ic_0 ?_
  refine qs_istore (L' := [some (.inr (some 77)), some (.inl a1), some (.inl a2), some (.inl x1), some (.inl (0 : Int32)), some (.inl (0 : Int32)), none, none]) o (q_dm dm_X12_hoursBy 8 rfl) (Nat.le_of_ble_eq_true rfl) rfl ?_
  exact qr_loc (q_leS (q_leS (q_leS (q_leS (q_leS (q_leS (q_leN (q_leN q_le0)))))))) (w_X12_hoursBy_13 n j r hj hr o n a1 a2 x1 (0 : Int32) (0 : Int32) M)

theorem a_X12_hoursBy (g : qG) (l : Launch) (n : Nat) (j r : Nat) (hj : q_isLaw j) (hr : q_isLaw r) (a1 a2 : Int32) (M : qM) : qAM g l 4 zX12_hoursBy (qL j r) [.inr (some 77), .inl a1, .inl a2] (qL j r, M) (f_X12_hoursBy n a1 a2 M) :=
  qAM.of zv_X12_hoursBy.1 (by show 3 ≤ 8; decide) (fun k hk o => w_X12_hoursBy n j r hj hr o a1 a2 M)

def tb_X12_isClause : List (Nat × Instr × Nat) := [(0, (.iload_n 0, 1)), (1, (.bipush 97, 2)), (3, (.if_icmp .eq 21, 3)), (6, (.iload_n 0, 1)), (7, (.bipush 118, 2)), (9, (.if_icmp .eq 15, 3)), (12, (.iload_n 0, 1)), (13, (.bipush 102, 2)), (15, (.if_icmp .eq 9, 3)), (18, (.iload_n 0, 1)), (19, (.bipush 99, 2)), (21, (.if_icmp .ne 7, 3)), (24, (.iconst 1, 1)), (25, (.goto 4, 3)), (28, (.iconst 0, 1)), (29, (.ireturn, 1))]
theorem dm_X12_isClause : ∀ q ∈ tb_X12_isClause, decode zX12_isClause.2.1 q.1 = .ok q.2 := by decide +kernel
def f_X12_isClause (n : Nat) (a0 : Int32) (M : qM) : qR :=
  (if a0 = (97 : Int32) then some ((1 : Int32), M) else (if a0 = (118 : Int32) then some ((1 : Int32), M) else (if a0 = (102 : Int32) then some ((1 : Int32), M) else (if a0 = (99 : Int32) then some ((1 : Int32), M) else some ((0 : Int32), M)))))
set_option maxRecDepth 4000 in
theorem w_X12_isClause {g : qG} {k : qK} (n : Nat) (j r : Nat) (hj : q_isLaw j) (hr : q_isLaw r) (o : qOk g 0 zX12_isClause k) (a0 : Int32) (M : qM) : qAE g k zX12_isClause (qL j r) 0 [some (.inl a0)] [] (qL j r, M) (f_X12_isClause n a0 M) := by
  unfold f_X12_isClause
  refine qr_iload_n o (q_dm dm_X12_isClause 0 rfl) rfl ?_
  refine qr_bipush o (q_dm dm_X12_isClause 1 rfl) bi_97 ?_
  refine qr_icmp_eq (tgt := 24) o (q_dm dm_X12_isClause 2 rfl) (by decide) ?_ ?_
  · refine qr_iconst o (q_dm dm_X12_isClause 12 rfl) ic_1 ?_
    refine qr_goto (tgt := 29) o (q_dm dm_X12_isClause 13 rfl) (by decide) ?_
    exact qr_iret o rfl (by decide) (q_dm dm_X12_isClause 15 rfl)
  · refine qr_iload_n o (q_dm dm_X12_isClause 3 rfl) rfl ?_
    refine qr_bipush o (q_dm dm_X12_isClause 4 rfl) bi_118 ?_
    refine qr_icmp_eq (tgt := 24) o (q_dm dm_X12_isClause 5 rfl) (by decide) ?_ ?_
    · refine qr_iconst o (q_dm dm_X12_isClause 12 rfl) ic_1 ?_
      refine qr_goto (tgt := 29) o (q_dm dm_X12_isClause 13 rfl) (by decide) ?_
      exact qr_iret o rfl (by decide) (q_dm dm_X12_isClause 15 rfl)
    · refine qr_iload_n o (q_dm dm_X12_isClause 6 rfl) rfl ?_
      refine qr_bipush o (q_dm dm_X12_isClause 7 rfl) bi_102 ?_
      refine qr_icmp_eq (tgt := 24) o (q_dm dm_X12_isClause 8 rfl) (by decide) ?_ ?_
      · refine qr_iconst o (q_dm dm_X12_isClause 12 rfl) ic_1 ?_
        refine qr_goto (tgt := 29) o (q_dm dm_X12_isClause 13 rfl) (by decide) ?_
        exact qr_iret o rfl (by decide) (q_dm dm_X12_isClause 15 rfl)
      · refine qr_iload_n o (q_dm dm_X12_isClause 9 rfl) rfl ?_
        refine qr_bipush o (q_dm dm_X12_isClause 10 rfl) bi_99 ?_
        refine qr_icmp_ne (tgt := 28) o (q_dm dm_X12_isClause 11 rfl) (by decide) ?_ ?_
        · refine qr_iconst o (q_dm dm_X12_isClause 14 rfl) ic_0 ?_
          exact qr_iret o rfl (by decide) (q_dm dm_X12_isClause 15 rfl)
        · refine qr_iconst o (q_dm dm_X12_isClause 12 rfl) ic_1 ?_
          refine qr_goto (tgt := 29) o (q_dm dm_X12_isClause 13 rfl) (by decide) ?_
          exact qr_iret o rfl (by decide) (q_dm dm_X12_isClause 15 rfl)

theorem a_X12_isClause (g : qG) (l : Launch) (n : Nat) (j r : Nat) (hj : q_isLaw j) (hr : q_isLaw r) (a0 : Int32) (M : qM) : qAM g l 0 zX12_isClause (qL j r) [.inl a0] (qL j r, M) (f_X12_isClause n a0 M) :=
  qAM.of zs_X12_isClause.1 (by show 1 ≤ 1; decide) (fun k hk o => w_X12_isClause n j r hj hr o a0 M)
def tb_X12_isDigit : List (Nat × Instr × Nat) := [(0, (.aload_n 0, 1)), (1, (.invokevirtual 175, 3)), (4, (.bipush 48, 2)), (6, (.if_icmp .lt 16, 3)), (9, (.aload_n 0, 1)), (10, (.invokevirtual 175, 3)), (13, (.bipush 57, 2)), (15, (.if_icmp .gt 7, 3)), (18, (.iconst 1, 1)), (19, (.goto 4, 3)), (22, (.iconst 0, 1)), (23, (.ireturn, 1))]
theorem dm_X12_isDigit : ∀ q ∈ tb_X12_isDigit, decode zX12_isDigit.2.1 q.1 = .ok q.2 := by decide +kernel
def f_X12_isDigit (n : Nat) (M : qM) : qR :=
  qc (f_X12_here n  M) (fun r1 m2 => (if r1 < (48 : Int32) then some ((0 : Int32), m2) else qc (f_X12_here n  m2) (fun r3 m4 => (if (57 : Int32) < r3 then some ((0 : Int32), m4) else some ((1 : Int32), m4)))))
set_option maxRecDepth 4000 in
theorem w_X12_isDigit {g : qG} {k : qK} (n : Nat) (j r : Nat) (hj : q_isLaw j) (hr : q_isLaw r) (o : qOk g 1 zX12_isDigit k) (M : qM) : qAE g k zX12_isDigit (qL j r) 0 [some (.inr (some 77))] [] (qL j r, M) (f_X12_isDigit n  M) := by
  unfold f_X12_isDigit
  refine qr_aload_n o (q_dm dm_X12_isDigit 0 rfl) rfl ?_
  refine qr_callv_i (As := []) (S := []) o (a_X12_here g k.2.1 n j r hj hr  M) (Nat.le_of_ble_eq_true rfl) zv_X12_here rfl cf_X12 (sh77 j r) ml_X12_175 (Nat.le_of_ble_eq_true rfl) (q_dm dm_X12_isDigit 1 rfl) (fun r1 m2 => ?_)
  refine qr_bipush o (q_dm dm_X12_isDigit 2 rfl) bi_48 ?_
  refine qr_icmp_lt (tgt := 22) o (q_dm dm_X12_isDigit 3 rfl) (by decide) ?_ ?_
  · refine qr_iconst o (q_dm dm_X12_isDigit 10 rfl) ic_0 ?_
    exact qr_iret o rfl (by decide) (q_dm dm_X12_isDigit 11 rfl)
  · refine qr_aload_n o (q_dm dm_X12_isDigit 4 rfl) rfl ?_
    refine qr_callv_i (As := []) (S := []) o (a_X12_here g k.2.1 n j r hj hr  m2) (Nat.le_of_ble_eq_true rfl) zv_X12_here rfl cf_X12 (sh77 j r) ml_X12_175 (Nat.le_of_ble_eq_true rfl) (q_dm dm_X12_isDigit 5 rfl) (fun r3 m4 => ?_)
    refine qr_bipush o (q_dm dm_X12_isDigit 6 rfl) bi_57 ?_
    refine qr_icmp_gt (tgt := 22) o (q_dm dm_X12_isDigit 7 rfl) (by decide) ?_ ?_
    · refine qr_iconst o (q_dm dm_X12_isDigit 10 rfl) ic_0 ?_
      exact qr_iret o rfl (by decide) (q_dm dm_X12_isDigit 11 rfl)
    · refine qr_iconst o (q_dm dm_X12_isDigit 8 rfl) ic_1 ?_
      refine qr_goto (tgt := 23) o (q_dm dm_X12_isDigit 9 rfl) (by decide) ?_
      exact qr_iret o rfl (by decide) (q_dm dm_X12_isDigit 11 rfl)

theorem a_X12_isDigit (g : qG) (l : Launch) (n : Nat) (j r : Nat) (hj : q_isLaw j) (hr : q_isLaw r) (M : qM) : qAM g l 1 zX12_isDigit (qL j r) [.inr (some 77)] (qL j r, M) (f_X12_isDigit n  M) :=
  qAM.of zv_X12_isDigit.1 (by show 1 ≤ 1; decide) (fun k hk o => w_X12_isDigit n j r hj hr o  M)
def tb_X12_longestBy : List (Nat × Instr × Nat) := [(0, (.iconst 0, 1)), (1, (.istore_n 2, 1)), (2, (.iconst 0, 1)), (3, (.istore_n 3, 1)), (4, (.iload_n 3, 1)), (5, (.aload_n 0, 1)), (6, (.getfield 435, 3)), (9, (.if_icmp .ge 20, 3)), (12, (.iload_n 2, 1)), (13, (.aload_n 0, 1)), (14, (.iload_n 3, 1)), (15, (.iload_n 1, 1)), (16, (.invokevirtual 438, 3)), (19, (.invokestatic 441, 3)), (22, (.istore_n 2, 1)), (23, (.iinc 3 1, 3)), (26, (.goto (-22), 3)), (29, (.iload_n 2, 1)), (30, (.ireturn, 1))]
theorem dm_X12_longestBy : ∀ q ∈ tb_X12_longestBy, decode zX12_longestBy.2.1 q.1 = .ok q.2 := by decide +kernel
def b_X12_longestBy_4 (n : Nat) (K4 : Int32 → Int32 → Int32 → qM → qR) (a1 a2 a3 : Int32) (M : qM) : qR :=
  (if (M 77 60) ≤ a3 then some (a2, M) else qc (f_X12_hoursBy n a3 a1 M) (fun r1 m2 => qc (f_X12_max n a2 r1 m2) (fun r3 m4 => ql (a3 + (1 : Int32)) (fun x5 => K4 a1 r3 x5 m4))))
set_option maxRecDepth 4000 in
theorem wb_X12_longestBy_4 {g : qG} {k : qK} (n : Nat) (j r : Nat) (hj : q_isLaw j) (hr : q_isLaw r) (o : qOk g 5 zX12_longestBy k) (K4 : Int32 → Int32 → Int32 → qM → qR) (hK4 : ∀ (a1 a2 a3 : Int32) (M : qM), qAE g k zX12_longestBy (qL j r) 4 [some (.inr (some 77)), some (.inl a1), some (.inl a2), some (.inl a3)] [] (qL j r, M) (K4 a1 a2 a3 M)) (a1 a2 a3 : Int32) (M : qM) : qAE g k zX12_longestBy (qL j r) 4 [some (.inr (some 77)), some (.inl a1), some (.inl a2), some (.inl a3)] [] (qL j r, M) (b_X12_longestBy_4 n K4 a1 a2 a3 M) := by
  unfold b_X12_longestBy_4
  refine qr_iload_n o (q_dm dm_X12_longestBy 4 rfl) rfl ?_
  refine qr_aload_n o (q_dm dm_X12_longestBy 5 rfl) rfl ?_
  refine qr_getf (kf := 60) o cf_X12 (sh77 j r) rfl (Nat.le_of_ble_eq_true rfl) fl_X12_435 (q_dm dm_X12_longestBy 6 rfl) ?_
  refine qr_icmp_ge (tgt := 29) o (q_dm dm_X12_longestBy 7 rfl) (by decide) ?_ ?_
  · refine qr_iload_n o (q_dm dm_X12_longestBy 17 rfl) rfl ?_
    exact qr_iret o rfl rfl (q_dm dm_X12_longestBy 18 rfl)
  · refine qr_iload_n o (q_dm dm_X12_longestBy 8 rfl) rfl ?_
    refine qr_aload_n o (q_dm dm_X12_longestBy 9 rfl) rfl ?_
    refine qr_iload_n o (q_dm dm_X12_longestBy 10 rfl) rfl ?_
    refine qr_iload_n o (q_dm dm_X12_longestBy 11 rfl) rfl ?_
    refine qr_callv_i (As := [.inl a3, .inl a1]) (S := [.inl a2]) o (a_X12_hoursBy g k.2.1 n j r hj hr a3 a1 M) (Nat.le_of_ble_eq_true rfl) zv_X12_hoursBy rfl cf_X12 (sh77 j r) ml_X12_438 (Nat.le_of_ble_eq_true rfl) (q_dm dm_X12_longestBy 12 rfl) (fun r1 m2 => ?_)
    refine qr_calls_i (As := [.inl a2, .inl r1]) (S := []) o (a_X12_max g k.2.1 n j r hj hr a2 r1 m2) (Nat.le_of_ble_eq_true rfl) zs_X12_max rfl ml_X12_441 (Nat.le_of_ble_eq_true rfl) (q_dm dm_X12_longestBy 13 rfl) (fun r3 m4 => ?_)
    refine qs_istore_n (L' := [some (.inr (some 77)), some (.inl a1), some (.inl r3), some (.inl a3)]) o (q_dm dm_X12_longestBy 14 rfl) (Nat.le_of_ble_eq_true rfl) rfl ?_
    refine qs_iincl2 (L' := fun x5 => [some (.inr (some 77)), some (.inl a1), some (.inl r3), some (.inl x5)]) o (q_dm dm_X12_longestBy 15 rfl) rfl ic_1 (Nat.le_of_ble_eq_true rfl) (fun _ => rfl) (fun x5 => ?_)
    refine qr_goto (tgt := 4) o (q_dm dm_X12_longestBy 16 rfl) (by decide) ?_
    exact qr_loc (q_leS (q_leS (q_leS (q_leS q_le0)))) (hK4 a1 r3 x5 m4)

def f_X12_longestBy_4 (n : Nat) : Nat → Int32 → Int32 → Int32 → qM → qR
  | 0, _, _, _, _ => none
  | m + 1, a1, a2, a3, M => b_X12_longestBy_4 n (f_X12_longestBy_4 n m) a1 a2 a3 M
theorem w_X12_longestBy_4 {g : qG} {k : qK} (n : Nat) (j r : Nat) (hj : q_isLaw j) (hr : q_isLaw r) (o : qOk g 5 zX12_longestBy k) : ∀ (m : Nat) (a1 a2 a3 : Int32) (M : qM), qAE g k zX12_longestBy (qL j r) 4 [some (.inr (some 77)), some (.inl a1), some (.inl a2), some (.inl a3)] [] (qL j r, M) (f_X12_longestBy_4 n m a1 a2 a3 M) := by
  intro m
  induction m with
  | zero =>
    intro a1 a2 a3 M
    exact qr_none
  | succ m ih =>
    intro a1 a2 a3 M
    exact wb_X12_longestBy_4 n j r hj hr o (f_X12_longestBy_4 n m) ih a1 a2 a3 M
def f_X12_longestBy (n : Nat) (a1 : Int32) (M : qM) : qR :=
  f_X12_longestBy_4 n n a1 (0 : Int32) (0 : Int32) M
set_option maxRecDepth 4000 in
theorem w_X12_longestBy {g : qG} {k : qK} (n : Nat) (j r : Nat) (hj : q_isLaw j) (hr : q_isLaw r) (o : qOk g 5 zX12_longestBy k) (a1 : Int32) (M : qM) : qAE g k zX12_longestBy (qL j r) 0 [some (.inr (some 77)), some (.inl a1), none, none] [] (qL j r, M) (f_X12_longestBy n a1 M) := by
  unfold f_X12_longestBy
  refine qr_iconst o (q_dm dm_X12_longestBy 0 rfl) ic_0 ?_
  refine qs_istore_n (L' := [some (.inr (some 77)), some (.inl a1), some (.inl (0 : Int32)), none]) o (q_dm dm_X12_longestBy 1 rfl) (Nat.le_of_ble_eq_true rfl) rfl ?_
  refine qr_iconst o (q_dm dm_X12_longestBy 2 rfl) ic_0 ?_
  refine qs_istore_n (L' := [some (.inr (some 77)), some (.inl a1), some (.inl (0 : Int32)), some (.inl (0 : Int32))]) o (q_dm dm_X12_longestBy 3 rfl) (Nat.le_of_ble_eq_true rfl) rfl ?_
  exact qr_loc (q_leS (q_leS (q_leS (q_leS q_le0)))) (w_X12_longestBy_4 n j r hj hr o n a1 (0 : Int32) (0 : Int32) M)

theorem a_X12_longestBy (g : qG) (l : Launch) (n : Nat) (j r : Nat) (hj : q_isLaw j) (hr : q_isLaw r) (a1 : Int32) (M : qM) : qAM g l 5 zX12_longestBy (qL j r) [.inr (some 77), .inl a1] (qL j r, M) (f_X12_longestBy n a1 M) :=
  qAM.of zv_X12_longestBy.1 (by show 2 ≤ 4; decide) (fun k hk o => w_X12_longestBy n j r hj hr o a1 M)
def tb_X12_takesJobs : List (Nat × Instr × Nat) := [(0, (.aload_n 0, 1)), (1, (.iload_n 1, 1)), (2, (.putfield 423, 3)), (5, (.iconst 0, 1)), (6, (.istore_n 2, 1)), (7, (.iload_n 2, 1)), (8, (.iload_n 1, 1)), (9, (.if_icmp .ge 36, 3)), (12, (.aload_n 0, 1)), (13, (.getfield 112, 3)), (16, (.iload_n 2, 1)), (17, (.aload_n 0, 1)), (18, (.getfield 28, 3)), (21, (.iload_n 2, 1)), (22, (.baload, 1)), (23, (.iastore, 1)), (24, (.aload_n 0, 1)), (25, (.aload_n 0, 1)), (26, (.getfield 112, 3)), (29, (.iload_n 2, 1)), (30, (.iaload, 1)), (31, (.invokevirtual 157, 3)), (34, (.ifCond .ne 5, 3)), (37, (.iconst 0, 1)), (38, (.ireturn, 1)), (39, (.iinc 2 1, 3)), (42, (.goto (-35), 3)), (45, (.iconst 1, 1)), (46, (.ireturn, 1))]
theorem dm_X12_takesJobs : ∀ q ∈ tb_X12_takesJobs, decode zX12_takesJobs.2.1 q.1 = .ok q.2 := by decide +kernel
def b_X12_takesJobs_7 (n : Nat) (K7 : Int32 → Int32 → qM → qR) (a1 a2 : Int32) (M : qM) : qR :=
  (if a1 ≤ a2 then some ((1 : Int32), M) else qg a2 260 (qg a2 8 (qlm (mu M 111 a2.toNatClampNeg (M 84 a2.toNatClampNeg)) (fun m1 => qg a2 8 (qc (f_X12_isKind n (m1 111 a2.toNatClampNeg) m1) (fun r2 m3 => (if r2 = (0 : Int32) then some ((0 : Int32), m3) else ql (a2 + (1 : Int32)) (fun x4 => K7 a1 x4 m3))))))))
set_option maxRecDepth 4000 in
theorem wb_X12_takesJobs_7 {g : qG} {k : qK} (n : Nat) (j r : Nat) (hj : q_isLaw j) (hr : q_isLaw r) (o : qOk g 2 zX12_takesJobs k) (K7 : Int32 → Int32 → qM → qR) (hK7 : ∀ (a1 a2 : Int32) (M : qM), qAE g k zX12_takesJobs (qL j r) 7 [some (.inr (some 77)), some (.inl a1), some (.inl a2)] [] (qL j r, M) (K7 a1 a2 M)) (a1 a2 : Int32) (M : qM) : qAE g k zX12_takesJobs (qL j r) 7 [some (.inr (some 77)), some (.inl a1), some (.inl a2)] [] (qL j r, M) (b_X12_takesJobs_7 n K7 a1 a2 M) := by
  unfold b_X12_takesJobs_7
  refine qr_iload_n o (q_dm dm_X12_takesJobs 5 rfl) rfl ?_
  refine qr_iload_n o (q_dm dm_X12_takesJobs 6 rfl) rfl ?_
  refine qr_icmp_ge (tgt := 45) o (q_dm dm_X12_takesJobs 7 rfl) (by decide) ?_ ?_
  · refine qr_iconst o (q_dm dm_X12_takesJobs 27 rfl) ic_1 ?_
    exact qr_iret o rfl (by decide) (q_dm dm_X12_takesJobs 28 rfl)
  · refine qr_aload_n o (q_dm dm_X12_takesJobs 8 rfl) rfl ?_
    refine qr_getr (kf := 54) o cf_X12 (sh77 j r) rfl (Nat.le_of_ble_eq_true rfl) fl_X12_112 (q_dm dm_X12_takesJobs 9 rfl) ?_
    refine qr_iload_n o (q_dm dm_X12_takesJobs 10 rfl) rfl ?_
    refine qr_aload_n o (q_dm dm_X12_takesJobs 11 rfl) rfl ?_
    refine qr_getr (kf := 7) o cf_X12 (sh77 j r) rfl (Nat.le_of_ble_eq_true rfl) fl_X12_28 (q_dm dm_X12_takesJobs 12 rfl) ?_
    refine qr_iload_n o (q_dm dm_X12_takesJobs 13 rfl) rfl ?_
    refine qr_bald o (sh84 j r) (q_dm dm_X12_takesJobs 14 rfl) ?_
    refine qr_iast o (sh111 j r) (q_dm dm_X12_takesJobs 15 rfl) ?_
    refine qr_letm (fun m1 => ?_)
    refine qr_aload_n o (q_dm dm_X12_takesJobs 16 rfl) rfl ?_
    refine qr_aload_n o (q_dm dm_X12_takesJobs 17 rfl) rfl ?_
    refine qr_getr (kf := 54) o cf_X12 (sh77 j r) rfl (Nat.le_of_ble_eq_true rfl) fl_X12_112 (q_dm dm_X12_takesJobs 18 rfl) ?_
    refine qr_iload_n o (q_dm dm_X12_takesJobs 19 rfl) rfl ?_
    refine qr_iald o (sh111 j r) (q_dm dm_X12_takesJobs 20 rfl) ?_
    refine qr_callv_i (As := [.inl (m1 111 a2.toNatClampNeg)]) (S := []) o (a_X12_isKind g k.2.1 n j r hj hr (m1 111 a2.toNatClampNeg) m1) (Nat.le_of_ble_eq_true rfl) zv_X12_isKind rfl cf_X12 (sh77 j r) ml_X12_157 (Nat.le_of_ble_eq_true rfl) (q_dm dm_X12_takesJobs 21 rfl) (fun r2 m3 => ?_)
    refine qr_if_ne (tgt := 39) o (q_dm dm_X12_takesJobs 22 rfl) (by decide) ?_ ?_
    · refine qs_iincl2 (L' := fun x4 => [some (.inr (some 77)), some (.inl a1), some (.inl x4)]) o (q_dm dm_X12_takesJobs 25 rfl) rfl ic_1 (Nat.le_of_ble_eq_true rfl) (fun _ => rfl) (fun x4 => ?_)
      refine qr_goto (tgt := 7) o (q_dm dm_X12_takesJobs 26 rfl) (by decide) ?_
      exact qr_loc (q_leS (q_leS (q_leS q_le0))) (hK7 a1 x4 m3)
    · refine qr_iconst o (q_dm dm_X12_takesJobs 23 rfl) ic_0 ?_
      exact qr_iret o rfl (by decide) (q_dm dm_X12_takesJobs 24 rfl)

def f_X12_takesJobs_7 (n : Nat) : Nat → Int32 → Int32 → qM → qR
  | 0, _, _, _ => none
  | m + 1, a1, a2, M => b_X12_takesJobs_7 n (f_X12_takesJobs_7 n m) a1 a2 M
theorem w_X12_takesJobs_7 {g : qG} {k : qK} (n : Nat) (j r : Nat) (hj : q_isLaw j) (hr : q_isLaw r) (o : qOk g 2 zX12_takesJobs k) : ∀ (m : Nat) (a1 a2 : Int32) (M : qM), qAE g k zX12_takesJobs (qL j r) 7 [some (.inr (some 77)), some (.inl a1), some (.inl a2)] [] (qL j r, M) (f_X12_takesJobs_7 n m a1 a2 M) := by
  intro m
  induction m with
  | zero =>
    intro a1 a2 M
    exact qr_none
  | succ m ih =>
    intro a1 a2 M
    exact wb_X12_takesJobs_7 n j r hj hr o (f_X12_takesJobs_7 n m) ih a1 a2 M
def f_X12_takesJobs (n : Nat) (a1 : Int32) (M : qM) : qR :=
  qlm (mu M 77 59 a1) (fun m1 => f_X12_takesJobs_7 n n a1 (0 : Int32) m1)
set_option maxRecDepth 4000 in
theorem w_X12_takesJobs {g : qG} {k : qK} (n : Nat) (j r : Nat) (hj : q_isLaw j) (hr : q_isLaw r) (o : qOk g 2 zX12_takesJobs k) (a1 : Int32) (M : qM) : qAE g k zX12_takesJobs (qL j r) 0 [some (.inr (some 77)), some (.inl a1), none] [] (qL j r, M) (f_X12_takesJobs n a1 M) := by
  unfold f_X12_takesJobs
  refine qr_aload_n o (q_dm dm_X12_takesJobs 0 rfl) rfl ?_
  refine qr_iload_n o (q_dm dm_X12_takesJobs 1 rfl) rfl ?_
  refine qr_putf (kf := 59) o cf_X12 (sh77 j r) rfl (Nat.le_of_ble_eq_true rfl) fl_X12_423 rfl (by decide +kernel) (q_dm dm_X12_takesJobs 2 rfl) ?_
  refine qr_letm (fun m1 => ?_)
  refine qr_iconst o (q_dm dm_X12_takesJobs 3 rfl) ic_0 ?_
  refine qs_istore_n (L' := [some (.inr (some 77)), some (.inl a1), some (.inl (0 : Int32))]) o (q_dm dm_X12_takesJobs 4 rfl) (Nat.le_of_ble_eq_true rfl) rfl ?_
  exact qr_loc (q_leS (q_leS (q_leS q_le0))) (w_X12_takesJobs_7 n j r hj hr o n a1 (0 : Int32) m1)

theorem a_X12_takesJobs (g : qG) (l : Launch) (n : Nat) (j r : Nat) (hj : q_isLaw j) (hr : q_isLaw r) (a1 : Int32) (M : qM) : qAM g l 2 zX12_takesJobs (qL j r) [.inr (some 77), .inl a1] (qL j r, M) (f_X12_takesJobs n a1 M) :=
  qAM.of zv_X12_takesJobs.1 (by show 2 ≤ 3; decide) (fun k hk o => w_X12_takesJobs n j r hj hr o a1 M)
def tb_X12_jobs : List (Nat × Instr × Nat) := [(0, (.iload_n 1, 1)), (1, (.iconst 1, 1)), (2, (.bipush 8, 2)), (4, (.invokestatic 153, 3)), (7, (.ifCond .eq 11, 3)), (10, (.iload_n 1, 1)), (11, (.aload_n 0, 1)), (12, (.getfield 162, 3)), (15, (.if_icmp .le 5, 3)), (18, (.iconst (-1), 1)), (19, (.ireturn, 1)), (20, (.aload_n 0, 1)), (21, (.iconst 0, 1)), (22, (.putfield 162, 3)), (25, (.aload_n 0, 1)), (26, (.iload_n 1, 1)), (27, (.invokevirtual 444, 3)), (30, (.ifCond .ne 6, 3)), (33, (.bipush (-2), 2)), (35, (.ireturn, 1)), (36, (.iload_n 2, 1)), (37, (.iconst 1, 1)), (38, (.sipush 255, 3)), (41, (.invokestatic 153, 3)), (44, (.ifCond .eq 43, 3)), (47, (.iload_n 2, 1)), (48, (.aload_n 0, 1)), (49, (.getfield 7, 3)), (52, (.sipush 312, 3)), (55, (.iaload, 1)), (56, (.iconst (-1), 1)), (57, (.ixor, 1)), (58, (.iand, 1)), (59, (.ifCond .ne 28, 3)), (62, (.iload_n 2, 1)), (63, (.invokestatic 276, 3)), (66, (.iconst 3, 1)), (67, (.if_icmp .gt 20, 3)), (70, (.iload_n 3, 1)), (71, (.bipush 10, 2)), (73, (.if_icmp .eq 17, 3)), (76, (.iload_n 3, 1)), (77, (.iconst 0, 1)), (78, (.iload_n 1, 1)), (79, (.iconst 1, 1)), (80, (.isub, 1)), (81, (.invokestatic 153, 3)), (84, (.ifCond .ne 6, 3)), (87, (.bipush (-4), 2)), (89, (.ireturn, 1)), (90, (.aload_n 0, 1)), (91, (.iconst 0, 1)), (92, (.putfield 435, 3)), (95, (.iconst 0, 1)), (96, (.istore 4, 2)), (98, (.iload 4, 2)), (100, (.bipush 8, 2)), (102, (.if_icmp .ge 42, 3)), (105, (.iload_n 2, 1)), (106, (.iload 4, 2)), (108, (.invokestatic 149, 3)), (111, (.ifCond .ne 6, 3)), (114, (.goto 24, 3)), (117, (.aload_n 0, 1)), (118, (.getfield 115, 3)), (121, (.aload_n 0, 1)), (122, (.getfield 435, 3)), (125, (.iload 4, 2)), (127, (.iastore, 1)), (128, (.aload_n 0, 1)), (129, (.aload_n 0, 1)), (130, (.getfield 435, 3)), (133, (.iconst 1, 1)), (134, (.iadd, 1)), (135, (.putfield 435, 3)), (138, (.iinc 4 1, 3)), (141, (.goto (-43), 3)), (144, (.iconst 0, 1)), (145, (.istore 4, 2)), (147, (.iload 4, 2)), (149, (.bipush 12, 2)), (151, (.if_icmp .ge 81, 3)), (154, (.aload_n 0, 1)), (155, (.getfield 118, 3)), (158, (.iload 4, 2)), (160, (.iconst 0, 1)), (161, (.iastore, 1)), (162, (.iconst 0, 1)), (163, (.istore 5, 2)), (165, (.iload 5, 2)), (167, (.bipush 12, 2)), (169, (.if_icmp .ge 57, 3)), (172, (.aload_n 0, 1)), (173, (.iload 4, 2)), (175, (.invokevirtual 157, 3)), (178, (.ifCond .eq 42, 3)), (181, (.aload_n 0, 1)), (182, (.iload 5, 2)), (184, (.invokevirtual 157, 3)), (187, (.ifCond .eq 33, 3)), (190, (.aload_n 0, 1)), (191, (.iload 4, 2)), (193, (.iload 5, 2)), (195, (.invokevirtual 279, 3)), (198, (.ifCond .eq 22, 3)), (201, (.aload_n 0, 1)), (202, (.getfield 118, 3)), (205, (.iload 4, 2)), (207, (.aload_n 0, 1)), (208, (.getfield 118, 3)), (211, (.iload 4, 2)), (213, (.iaload, 1)), (214, (.iconst 1, 1)), (215, (.iload 5, 2)), (217, (.ishl, 1)), (218, (.ior, 1)), (219, (.iastore, 1)), (220, (.iinc 5 1, 3)), (223, (.goto (-58), 3)), (226, (.iinc 4 1, 3)), (229, (.goto (-82), 3)), (232, (.iconst 1, 1)), (233, (.istore 4, 2)), (235, (.iconst 0, 1)), (236, (.istore 5, 2)), (238, (.iload 5, 2)), (240, (.iload_n 1, 1)), (241, (.if_icmp .ge 18, 3)), (244, (.iload 4, 2)), (246, (.aload_n 0, 1)), (247, (.getfield 435, 3)), (250, (.imul, 1)), (251, (.istore 4, 2)), (253, (.iinc 5 1, 3)), (256, (.goto (-18), 3)), (259, (.iconst (-1), 1)), (260, (.istore 5, 2)), (262, (.ldc_w 398, 3)), (265, (.istore 6, 2)), (267, (.iconst 0, 1)), (268, (.istore 7, 2)), (270, (.iload 7, 2)), (272, (.iload 4, 2)), (274, (.if_icmp .ge 35, 3)), (277, (.aload_n 0, 1)), (278, (.iload 7, 2)), (280, (.invokevirtual 447, 3)), (283, (.istore 8, 2)), (285, (.iload 8, 2)), (287, (.iload 6, 2)), (289, (.if_icmp .lt 6, 3)), (292, (.goto 11, 3)), (295, (.iload 8, 2)), (297, (.istore 6, 2)), (299, (.iload 7, 2)), (301, (.istore 5, 2)), (303, (.iinc 7 1, 3)), (306, (.goto (-36), 3)), (309, (.iload 5, 2)), (311, (.iconst (-1), 1)), (312, (.if_icmp .ne 6, 3)), (315, (.bipush (-3), 2)), (317, (.ireturn, 1)), (318, (.iload_n 3, 1)), (319, (.bipush 10, 2)), (321, (.if_icmp .ne 8, 3)), (324, (.iload 6, 2)), (326, (.goto 15, 3)), (329, (.aload_n 0, 1)), (330, (.getfield 115, 3)), (333, (.aload_n 0, 1)), (334, (.iload 5, 2)), (336, (.iload_n 3, 1)), (337, (.invokevirtual 426, 3)), (340, (.iaload, 1)), (341, (.ireturn, 1))]
theorem dm_X12_jobs : ∀ q ∈ tb_X12_jobs, decode zX12_jobs.2.1 q.1 = .ok q.2 := by decide +kernel
def b_X12_jobs_270 (n : Nat) (K270 : Int32 → Int32 → Int32 → Int32 → Int32 → qM → qR) (a3 a4 a5 a6 a7 : Int32) (M : qM) : qR :=
  (if a4 ≤ a7 then (if a5 = (-1 : Int32) then some ((-3 : Int32), M) else (if a3 = (10 : Int32) then some (a6, M) else qc (f_X12_whoDoes n a5 a3 M) (fun r1 m2 => qg r1 3 (some ((m2 112 r1.toNatClampNeg), m2))))) else qc (f_X12_longestBy n a7 M) (fun r3 m4 => (if r3 < a6 then ql (a7 + (1 : Int32)) (fun x5 => K270 a3 a4 a7 r3 x5 m4) else ql (a7 + (1 : Int32)) (fun x6 => K270 a3 a4 a5 a6 x6 m4))))
set_option maxRecDepth 4000 in
theorem wb_X12_jobs_270 {g : qG} {k : qK} (n : Nat) (j r : Nat) (hj : q_isLaw j) (hr : q_isLaw r) (o : qOk g 6 zX12_jobs k) (K270 : Int32 → Int32 → Int32 → Int32 → Int32 → qM → qR) (hK270 : ∀ (a3 a4 a5 a6 a7 : Int32) (M : qM), qAE g k zX12_jobs (qL j r) 270 [some (.inr (some 77)), none, none, some (.inl a3), some (.inl a4), some (.inl a5), some (.inl a6), some (.inl a7), none] [] (qL j r, M) (K270 a3 a4 a5 a6 a7 M)) (a3 a4 a5 a6 a7 : Int32) (M : qM) : qAE g k zX12_jobs (qL j r) 270 [some (.inr (some 77)), none, none, some (.inl a3), some (.inl a4), some (.inl a5), some (.inl a6), some (.inl a7), none] [] (qL j r, M) (b_X12_jobs_270 n K270 a3 a4 a5 a6 a7 M) := by
  unfold b_X12_jobs_270
  refine qr_iload o (q_dm dm_X12_jobs 141 rfl) rfl ?_
  refine qr_iload o (q_dm dm_X12_jobs 142 rfl) rfl ?_
  refine qr_icmp_ge (tgt := 309) o (q_dm dm_X12_jobs 143 rfl) (by decide) ?_ ?_
  · refine qr_iload o (q_dm dm_X12_jobs 158 rfl) rfl ?_
    refine qr_iconst o (q_dm dm_X12_jobs 159 rfl) ic_m1 ?_
    refine qr_icmp_ne (tgt := 318) o (q_dm dm_X12_jobs 160 rfl) (by decide) ?_ ?_
    · refine qr_iload_n o (q_dm dm_X12_jobs 163 rfl) rfl ?_
      refine qr_bipush o (q_dm dm_X12_jobs 164 rfl) bi_10 ?_
      refine qr_icmp_ne (tgt := 329) o (q_dm dm_X12_jobs 165 rfl) (by decide) ?_ ?_
      · refine qr_aload_n o (q_dm dm_X12_jobs 168 rfl) rfl ?_
        refine qr_getr (kf := 55) o cf_X12 (sh77 j r) rfl (Nat.le_of_ble_eq_true rfl) fl_X12_115 (q_dm dm_X12_jobs 169 rfl) ?_
        refine qr_aload_n o (q_dm dm_X12_jobs 170 rfl) rfl ?_
        refine qr_iload o (q_dm dm_X12_jobs 171 rfl) rfl ?_
        refine qr_iload_n o (q_dm dm_X12_jobs 172 rfl) rfl ?_
        refine qr_callv_i (As := [.inl a5, .inl a3]) (S := [.inr (some 112)]) o (a_X12_whoDoes g k.2.1 n j r hj hr a5 a3 M) (Nat.le_of_ble_eq_true rfl) zv_X12_whoDoes rfl cf_X12 (sh77 j r) ml_X12_426 (Nat.le_of_ble_eq_true rfl) (q_dm dm_X12_jobs 173 rfl) (fun r1 m2 => ?_)
        refine qr_iald o (sh112 j r) (q_dm dm_X12_jobs 174 rfl) ?_
        exact qr_iret o rfl rfl (q_dm dm_X12_jobs 175 rfl)
      · refine qr_iload o (q_dm dm_X12_jobs 166 rfl) rfl ?_
        refine qr_goto (tgt := 341) o (q_dm dm_X12_jobs 167 rfl) (by decide) ?_
        exact qr_iret o rfl rfl (q_dm dm_X12_jobs 175 rfl)
    · refine qr_bipush o (q_dm dm_X12_jobs 161 rfl) bi_m3 ?_
      exact qr_iret o rfl rfl (q_dm dm_X12_jobs 162 rfl)
  · refine qr_aload_n o (q_dm dm_X12_jobs 144 rfl) rfl ?_
    refine qr_iload o (q_dm dm_X12_jobs 145 rfl) rfl ?_
    refine qr_callv_i (As := [.inl a7]) (S := []) o (a_X12_longestBy g k.2.1 n j r hj hr a7 M) (Nat.le_of_ble_eq_true rfl) zv_X12_longestBy rfl cf_X12 (sh77 j r) ml_X12_447 (Nat.le_of_ble_eq_true rfl) (q_dm dm_X12_jobs 146 rfl) (fun r3 m4 => ?_)
    refine qs_istore (L' := [some (.inr (some 77)), none, none, some (.inl a3), some (.inl a4), some (.inl a5), some (.inl a6), some (.inl a7), some (.inl r3)]) o (q_dm dm_X12_jobs 147 rfl) (Nat.le_of_ble_eq_true rfl) rfl ?_
    refine qr_iload o (q_dm dm_X12_jobs 148 rfl) rfl ?_
    refine qr_iload o (q_dm dm_X12_jobs 149 rfl) rfl ?_
    refine qr_icmp_lt (tgt := 295) o (q_dm dm_X12_jobs 150 rfl) (by decide) ?_ ?_
    · refine qr_iload o (q_dm dm_X12_jobs 152 rfl) rfl ?_
      refine qs_istore (L' := [some (.inr (some 77)), none, none, some (.inl a3), some (.inl a4), some (.inl a5), some (.inl r3), some (.inl a7), some (.inl r3)]) o (q_dm dm_X12_jobs 153 rfl) (Nat.le_of_ble_eq_true rfl) rfl ?_
      refine qr_iload o (q_dm dm_X12_jobs 154 rfl) rfl ?_
      refine qs_istore (L' := [some (.inr (some 77)), none, none, some (.inl a3), some (.inl a4), some (.inl a7), some (.inl r3), some (.inl a7), some (.inl r3)]) o (q_dm dm_X12_jobs 155 rfl) (Nat.le_of_ble_eq_true rfl) rfl ?_
      refine qs_iincl2 (L' := fun x5 => [some (.inr (some 77)), none, none, some (.inl a3), some (.inl a4), some (.inl a7), some (.inl r3), some (.inl x5), some (.inl r3)]) o (q_dm dm_X12_jobs 156 rfl) rfl ic_1 (Nat.le_of_ble_eq_true rfl) (fun _ => rfl) (fun x5 => ?_)
      refine qr_goto (tgt := 270) o (q_dm dm_X12_jobs 157 rfl) (by decide) ?_
      exact qr_loc (q_leS (q_leN (q_leN (q_leS (q_leS (q_leS (q_leS (q_leS (q_leN q_le0))))))))) (hK270 a3 a4 a7 r3 x5 m4)
    · refine qr_goto (tgt := 303) o (q_dm dm_X12_jobs 151 rfl) (by decide) ?_
      refine qs_iincl2 (L' := fun x6 => [some (.inr (some 77)), none, none, some (.inl a3), some (.inl a4), some (.inl a5), some (.inl a6), some (.inl x6), some (.inl r3)]) o (q_dm dm_X12_jobs 156 rfl) rfl ic_1 (Nat.le_of_ble_eq_true rfl) (fun _ => rfl) (fun x6 => ?_)
      refine qr_goto (tgt := 270) o (q_dm dm_X12_jobs 157 rfl) (by decide) ?_
      exact qr_loc (q_leS (q_leN (q_leN (q_leS (q_leS (q_leS (q_leS (q_leS (q_leN q_le0))))))))) (hK270 a3 a4 a5 a6 x6 m4)

def f_X12_jobs_270 (n : Nat) : Nat → Int32 → Int32 → Int32 → Int32 → Int32 → qM → qR
  | 0, _, _, _, _, _, _ => none
  | m + 1, a3, a4, a5, a6, a7, M => b_X12_jobs_270 n (f_X12_jobs_270 n m) a3 a4 a5 a6 a7 M
theorem w_X12_jobs_270 {g : qG} {k : qK} (n : Nat) (j r : Nat) (hj : q_isLaw j) (hr : q_isLaw r) (o : qOk g 6 zX12_jobs k) : ∀ (m : Nat) (a3 a4 a5 a6 a7 : Int32) (M : qM), qAE g k zX12_jobs (qL j r) 270 [some (.inr (some 77)), none, none, some (.inl a3), some (.inl a4), some (.inl a5), some (.inl a6), some (.inl a7), none] [] (qL j r, M) (f_X12_jobs_270 n m a3 a4 a5 a6 a7 M) := by
  intro m
  induction m with
  | zero =>
    intro a3 a4 a5 a6 a7 M
    exact qr_none
  | succ m ih =>
    intro a3 a4 a5 a6 a7 M
    exact wb_X12_jobs_270 n j r hj hr o (f_X12_jobs_270 n m) ih a3 a4 a5 a6 a7 M
def b_X12_jobs_238 (n : Nat) (K238 : Int32 → Int32 → Int32 → Int32 → qM → qR) (a1 a3 a4 a5 : Int32) (M : qM) : qR :=
  (if a1 ≤ a5 then f_X12_jobs_270 n n a3 a4 (-1 : Int32) (1000000000 : Int32) (0 : Int32) M else ql (a4 * (M 77 60)) (fun x1 => ql (a5 + (1 : Int32)) (fun x2 => K238 a1 a3 x1 x2 M)))
set_option maxRecDepth 4000 in
theorem wb_X12_jobs_238 {g : qG} {k : qK} (n : Nat) (j r : Nat) (hj : q_isLaw j) (hr : q_isLaw r) (o : qOk g 6 zX12_jobs k) (K238 : Int32 → Int32 → Int32 → Int32 → qM → qR) (hK238 : ∀ (a1 a3 a4 a5 : Int32) (M : qM), qAE g k zX12_jobs (qL j r) 238 [some (.inr (some 77)), some (.inl a1), none, some (.inl a3), some (.inl a4), some (.inl a5), none, none, none] [] (qL j r, M) (K238 a1 a3 a4 a5 M)) (a1 a3 a4 a5 : Int32) (M : qM) : qAE g k zX12_jobs (qL j r) 238 [some (.inr (some 77)), some (.inl a1), none, some (.inl a3), some (.inl a4), some (.inl a5), none, none, none] [] (qL j r, M) (b_X12_jobs_238 n K238 a1 a3 a4 a5 M) := by
  unfold b_X12_jobs_238
  refine qr_iload o (q_dm dm_X12_jobs 125 rfl) rfl ?_
  refine qr_iload_n o (q_dm dm_X12_jobs 126 rfl) rfl ?_
  refine qr_icmp_ge (tgt := 259) o (q_dm dm_X12_jobs 127 rfl) (by decide) ?_ ?_
  · refine qr_iconst o (q_dm dm_X12_jobs 135 rfl) ic_m1 ?_
    refine qs_istore (L' := [some (.inr (some 77)), some (.inl a1), none, some (.inl a3), some (.inl a4), some (.inl (-1 : Int32)), none, none, none]) o (q_dm dm_X12_jobs 136 rfl) (Nat.le_of_ble_eq_true rfl) rfl ?_
    refine qr_ldc_w o (q_dm dm_X12_jobs 137 rfl) kc_X12_398 ?_
    refine qs_istore (L' := [some (.inr (some 77)), some (.inl a1), none, some (.inl a3), some (.inl a4), some (.inl (-1 : Int32)), some (.inl (1000000000 : Int32)), none, none]) o (q_dm dm_X12_jobs 138 rfl) (Nat.le_of_ble_eq_true rfl) rfl ?_
    refine qr_iconst o (q_dm dm_X12_jobs 139 rfl) ic_0 ?_
    refine qs_istore (L' := [some (.inr (some 77)), some (.inl a1), none, some (.inl a3), some (.inl a4), some (.inl (-1 : Int32)), some (.inl (1000000000 : Int32)), some (.inl (0 : Int32)), none]) o (q_dm dm_X12_jobs 140 rfl) (Nat.le_of_ble_eq_true rfl) rfl ?_
    exact qr_loc (q_leS (q_leN (q_leN (q_leS (q_leS (q_leS (q_leS (q_leS (q_leN q_le0))))))))) (w_X12_jobs_270 n j r hj hr o n a3 a4 (-1 : Int32) (1000000000 : Int32) (0 : Int32) M)
  · refine qr_iload o (q_dm dm_X12_jobs 128 rfl) rfl ?_
    refine qr_aload_n o (q_dm dm_X12_jobs 129 rfl) rfl ?_
    refine qr_getf (kf := 60) o cf_X12 (sh77 j r) rfl (Nat.le_of_ble_eq_true rfl) fl_X12_435 (q_dm dm_X12_jobs 130 rfl) ?_
    refine qr_imul o (q_dm dm_X12_jobs 131 rfl) ?_
    refine qr_lt (fun x1 => ?_)
    refine qs_istore (L' := [some (.inr (some 77)), some (.inl a1), none, some (.inl a3), some (.inl x1), some (.inl a5), none, none, none]) o (q_dm dm_X12_jobs 132 rfl) (Nat.le_of_ble_eq_true rfl) rfl ?_
    refine qs_iincl2 (L' := fun x2 => [some (.inr (some 77)), some (.inl a1), none, some (.inl a3), some (.inl x1), some (.inl x2), none, none, none]) o (q_dm dm_X12_jobs 133 rfl) rfl ic_1 (Nat.le_of_ble_eq_true rfl) (fun _ => rfl) (fun x2 => ?_)
    refine qr_goto (tgt := 238) o (q_dm dm_X12_jobs 134 rfl) (by decide) ?_
    exact qr_loc (q_leS (q_leS (q_leN (q_leS (q_leS (q_leS (q_leN (q_leN (q_leN q_le0))))))))) (hK238 a1 a3 x1 x2 M)

def f_X12_jobs_238 (n : Nat) : Nat → Int32 → Int32 → Int32 → Int32 → qM → qR
  | 0, _, _, _, _, _ => none
  | m + 1, a1, a3, a4, a5, M => b_X12_jobs_238 n (f_X12_jobs_238 n m) a1 a3 a4 a5 M
theorem w_X12_jobs_238 {g : qG} {k : qK} (n : Nat) (j r : Nat) (hj : q_isLaw j) (hr : q_isLaw r) (o : qOk g 6 zX12_jobs k) : ∀ (m : Nat) (a1 a3 a4 a5 : Int32) (M : qM), qAE g k zX12_jobs (qL j r) 238 [some (.inr (some 77)), some (.inl a1), none, some (.inl a3), some (.inl a4), some (.inl a5), none, none, none] [] (qL j r, M) (f_X12_jobs_238 n m a1 a3 a4 a5 M) := by
  intro m
  induction m with
  | zero =>
    intro a1 a3 a4 a5 M
    exact qr_none
  | succ m ih =>
    intro a1 a3 a4 a5 M
    exact wb_X12_jobs_238 n j r hj hr o (f_X12_jobs_238 n m) ih a1 a3 a4 a5 M
def b_X12_jobs_165 (n : Nat) (K147 : Int32 → Int32 → Int32 → qM → qR) (K165 : Int32 → Int32 → Int32 → Int32 → qM → qR) (a1 a3 a4 a5 : Int32) (M : qM) : qR :=
  (if (12 : Int32) ≤ a5 then ql (a4 + (1 : Int32)) (fun x1 => K147 a1 a3 x1 M) else qc (f_X12_isKind n a4 M) (fun r2 m3 => (if r2 = (0 : Int32) then ql (a5 + (1 : Int32)) (fun x4 => K165 a1 a3 a4 x4 m3) else qc (f_X12_isKind n a5 m3) (fun r5 m6 => (if r5 = (0 : Int32) then ql (a5 + (1 : Int32)) (fun x7 => K165 a1 a3 a4 x7 m6) else qc (f_X12_isLike n a4 a5 m6) (fun r8 m9 => (if r8 = (0 : Int32) then ql (a5 + (1 : Int32)) (fun x10 => K165 a1 a3 a4 x10 m9) else qg a4 12 (qg a4 12 (qlm (mu m9 113 a4.toNatClampNeg ((m9 113 a4.toNatClampNeg) ||| ((1 : Int32) <<< (a5 &&& 31)))) (fun m11 => ql (a5 + (1 : Int32)) (fun x12 => K165 a1 a3 a4 x12 m11)))))))))))
set_option maxRecDepth 4000 in
theorem wb_X12_jobs_165 {g : qG} {k : qK} (n : Nat) (j r : Nat) (hj : q_isLaw j) (hr : q_isLaw r) (o : qOk g 6 zX12_jobs k) (K147 : Int32 → Int32 → Int32 → qM → qR) (hK147 : ∀ (a1 a3 a4 : Int32) (M : qM), qAE g k zX12_jobs (qL j r) 147 [some (.inr (some 77)), some (.inl a1), none, some (.inl a3), some (.inl a4), none, none, none, none] [] (qL j r, M) (K147 a1 a3 a4 M)) (K165 : Int32 → Int32 → Int32 → Int32 → qM → qR) (hK165 : ∀ (a1 a3 a4 a5 : Int32) (M : qM), qAE g k zX12_jobs (qL j r) 165 [some (.inr (some 77)), some (.inl a1), none, some (.inl a3), some (.inl a4), some (.inl a5), none, none, none] [] (qL j r, M) (K165 a1 a3 a4 a5 M)) (a1 a3 a4 a5 : Int32) (M : qM) : qAE g k zX12_jobs (qL j r) 165 [some (.inr (some 77)), some (.inl a1), none, some (.inl a3), some (.inl a4), some (.inl a5), none, none, none] [] (qL j r, M) (b_X12_jobs_165 n K147 K165 a1 a3 a4 a5 M) := by
  unfold b_X12_jobs_165
  refine qr_iload o (q_dm dm_X12_jobs 89 rfl) rfl ?_
  refine qr_bipush o (q_dm dm_X12_jobs 90 rfl) bi_12 ?_
  refine qr_icmp_ge (tgt := 226) o (q_dm dm_X12_jobs 91 rfl) (by decide) ?_ ?_
  · refine qs_iincl2 (L' := fun x1 => [some (.inr (some 77)), some (.inl a1), none, some (.inl a3), some (.inl x1), some (.inl a5), none, none, none]) o (q_dm dm_X12_jobs 119 rfl) rfl ic_1 (Nat.le_of_ble_eq_true rfl) (fun _ => rfl) (fun x1 => ?_)
    refine qr_goto (tgt := 147) o (q_dm dm_X12_jobs 120 rfl) (by decide) ?_
    exact qr_loc (q_leS (q_leS (q_leN (q_leS (q_leS (q_leN (q_leN (q_leN (q_leN q_le0))))))))) (hK147 a1 a3 x1 M)
  · refine qr_aload_n o (q_dm dm_X12_jobs 92 rfl) rfl ?_
    refine qr_iload o (q_dm dm_X12_jobs 93 rfl) rfl ?_
    refine qr_callv_i (As := [.inl a4]) (S := []) o (a_X12_isKind g k.2.1 n j r hj hr a4 M) (Nat.le_of_ble_eq_true rfl) zv_X12_isKind rfl cf_X12 (sh77 j r) ml_X12_157 (Nat.le_of_ble_eq_true rfl) (q_dm dm_X12_jobs 94 rfl) (fun r2 m3 => ?_)
    refine qr_if_eq (tgt := 220) o (q_dm dm_X12_jobs 95 rfl) (by decide) ?_ ?_
    · refine qs_iincl2 (L' := fun x4 => [some (.inr (some 77)), some (.inl a1), none, some (.inl a3), some (.inl a4), some (.inl x4), none, none, none]) o (q_dm dm_X12_jobs 117 rfl) rfl ic_1 (Nat.le_of_ble_eq_true rfl) (fun _ => rfl) (fun x4 => ?_)
      refine qr_goto (tgt := 165) o (q_dm dm_X12_jobs 118 rfl) (by decide) ?_
      exact qr_loc (q_leS (q_leS (q_leN (q_leS (q_leS (q_leS (q_leN (q_leN (q_leN q_le0))))))))) (hK165 a1 a3 a4 x4 m3)
    · refine qr_aload_n o (q_dm dm_X12_jobs 96 rfl) rfl ?_
      refine qr_iload o (q_dm dm_X12_jobs 97 rfl) rfl ?_
      refine qr_callv_i (As := [.inl a5]) (S := []) o (a_X12_isKind g k.2.1 n j r hj hr a5 m3) (Nat.le_of_ble_eq_true rfl) zv_X12_isKind rfl cf_X12 (sh77 j r) ml_X12_157 (Nat.le_of_ble_eq_true rfl) (q_dm dm_X12_jobs 98 rfl) (fun r5 m6 => ?_)
      refine qr_if_eq (tgt := 220) o (q_dm dm_X12_jobs 99 rfl) (by decide) ?_ ?_
      · refine qs_iincl2 (L' := fun x7 => [some (.inr (some 77)), some (.inl a1), none, some (.inl a3), some (.inl a4), some (.inl x7), none, none, none]) o (q_dm dm_X12_jobs 117 rfl) rfl ic_1 (Nat.le_of_ble_eq_true rfl) (fun _ => rfl) (fun x7 => ?_)
        refine qr_goto (tgt := 165) o (q_dm dm_X12_jobs 118 rfl) (by decide) ?_
        exact qr_loc (q_leS (q_leS (q_leN (q_leS (q_leS (q_leS (q_leN (q_leN (q_leN q_le0))))))))) (hK165 a1 a3 a4 x7 m6)
      · refine qr_aload_n o (q_dm dm_X12_jobs 100 rfl) rfl ?_
        refine qr_iload o (q_dm dm_X12_jobs 101 rfl) rfl ?_
        refine qr_iload o (q_dm dm_X12_jobs 102 rfl) rfl ?_
        refine qr_callv_i (As := [.inl a4, .inl a5]) (S := []) o (a_X12_isLike g k.2.1 n j r hj hr a4 a5 m6) (Nat.le_of_ble_eq_true rfl) zv_X12_isLike rfl cf_X12 (sh77 j r) ml_X12_279 (Nat.le_of_ble_eq_true rfl) (q_dm dm_X12_jobs 103 rfl) (fun r8 m9 => ?_)
        refine qr_if_eq (tgt := 220) o (q_dm dm_X12_jobs 104 rfl) (by decide) ?_ ?_
        · refine qs_iincl2 (L' := fun x10 => [some (.inr (some 77)), some (.inl a1), none, some (.inl a3), some (.inl a4), some (.inl x10), none, none, none]) o (q_dm dm_X12_jobs 117 rfl) rfl ic_1 (Nat.le_of_ble_eq_true rfl) (fun _ => rfl) (fun x10 => ?_)
          refine qr_goto (tgt := 165) o (q_dm dm_X12_jobs 118 rfl) (by decide) ?_
          exact qr_loc (q_leS (q_leS (q_leN (q_leS (q_leS (q_leS (q_leN (q_leN (q_leN q_le0))))))))) (hK165 a1 a3 a4 x10 m9)
        · refine qr_aload_n o (q_dm dm_X12_jobs 105 rfl) rfl ?_
          refine qr_getr (kf := 56) o cf_X12 (sh77 j r) rfl (Nat.le_of_ble_eq_true rfl) fl_X12_118 (q_dm dm_X12_jobs 106 rfl) ?_
          refine qr_iload o (q_dm dm_X12_jobs 107 rfl) rfl ?_
          refine qr_aload_n o (q_dm dm_X12_jobs 108 rfl) rfl ?_
          refine qr_getr (kf := 56) o cf_X12 (sh77 j r) rfl (Nat.le_of_ble_eq_true rfl) fl_X12_118 (q_dm dm_X12_jobs 109 rfl) ?_
          refine qr_iload o (q_dm dm_X12_jobs 110 rfl) rfl ?_
          refine qr_iald o (sh113 j r) (q_dm dm_X12_jobs 111 rfl) ?_
          refine qr_iconst o (q_dm dm_X12_jobs 112 rfl) ic_1 ?_
          refine qr_iload o (q_dm dm_X12_jobs 113 rfl) rfl ?_
          refine qr_ishl o (q_dm dm_X12_jobs 114 rfl) ?_
          refine qr_ior o (q_dm dm_X12_jobs 115 rfl) ?_
          refine qr_iast o (sh113 j r) (q_dm dm_X12_jobs 116 rfl) ?_
          refine qr_letm (fun m11 => ?_)
          refine qs_iincl2 (L' := fun x12 => [some (.inr (some 77)), some (.inl a1), none, some (.inl a3), some (.inl a4), some (.inl x12), none, none, none]) o (q_dm dm_X12_jobs 117 rfl) rfl ic_1 (Nat.le_of_ble_eq_true rfl) (fun _ => rfl) (fun x12 => ?_)
          refine qr_goto (tgt := 165) o (q_dm dm_X12_jobs 118 rfl) (by decide) ?_
          exact qr_loc (q_leS (q_leS (q_leN (q_leS (q_leS (q_leS (q_leN (q_leN (q_leN q_le0))))))))) (hK165 a1 a3 a4 x12 m11)

def f_X12_jobs_165 (n : Nat) (K147 : Int32 → Int32 → Int32 → qM → qR) : Nat → Int32 → Int32 → Int32 → Int32 → qM → qR
  | 0, _, _, _, _, _ => none
  | m + 1, a1, a3, a4, a5, M => b_X12_jobs_165 n K147 (f_X12_jobs_165 n K147 m) a1 a3 a4 a5 M
theorem w_X12_jobs_165 {g : qG} {k : qK} (n : Nat) (j r : Nat) (hj : q_isLaw j) (hr : q_isLaw r) (o : qOk g 6 zX12_jobs k) (K147 : Int32 → Int32 → Int32 → qM → qR) (hK147 : ∀ (a1 a3 a4 : Int32) (M : qM), qAE g k zX12_jobs (qL j r) 147 [some (.inr (some 77)), some (.inl a1), none, some (.inl a3), some (.inl a4), none, none, none, none] [] (qL j r, M) (K147 a1 a3 a4 M)) : ∀ (m : Nat) (a1 a3 a4 a5 : Int32) (M : qM), qAE g k zX12_jobs (qL j r) 165 [some (.inr (some 77)), some (.inl a1), none, some (.inl a3), some (.inl a4), some (.inl a5), none, none, none] [] (qL j r, M) (f_X12_jobs_165 n K147 m a1 a3 a4 a5 M) := by
  intro m
  induction m with
  | zero =>
    intro a1 a3 a4 a5 M
    exact qr_none
  | succ m ih =>
    intro a1 a3 a4 a5 M
    exact wb_X12_jobs_165 n j r hj hr o K147 hK147 (f_X12_jobs_165 n K147 m) ih a1 a3 a4 a5 M
def b_X12_jobs_147 (n : Nat) (K147 : Int32 → Int32 → Int32 → qM → qR) (a1 a3 a4 : Int32) (M : qM) : qR :=
  (if (12 : Int32) ≤ a4 then f_X12_jobs_238 n n a1 a3 (1 : Int32) (0 : Int32) M else qg a4 12 (qlm (mu M 113 a4.toNatClampNeg (0 : Int32)) (fun m1 => f_X12_jobs_165 n K147 n a1 a3 a4 (0 : Int32) m1)))
set_option maxRecDepth 4000 in
theorem wb_X12_jobs_147 {g : qG} {k : qK} (n : Nat) (j r : Nat) (hj : q_isLaw j) (hr : q_isLaw r) (o : qOk g 6 zX12_jobs k) (K147 : Int32 → Int32 → Int32 → qM → qR) (hK147 : ∀ (a1 a3 a4 : Int32) (M : qM), qAE g k zX12_jobs (qL j r) 147 [some (.inr (some 77)), some (.inl a1), none, some (.inl a3), some (.inl a4), none, none, none, none] [] (qL j r, M) (K147 a1 a3 a4 M)) (a1 a3 a4 : Int32) (M : qM) : qAE g k zX12_jobs (qL j r) 147 [some (.inr (some 77)), some (.inl a1), none, some (.inl a3), some (.inl a4), none, none, none, none] [] (qL j r, M) (b_X12_jobs_147 n K147 a1 a3 a4 M) := by
  unfold b_X12_jobs_147
  refine qr_iload o (q_dm dm_X12_jobs 79 rfl) rfl ?_
  refine qr_bipush o (q_dm dm_X12_jobs 80 rfl) bi_12 ?_
  refine qr_icmp_ge (tgt := 232) o (q_dm dm_X12_jobs 81 rfl) (by decide) ?_ ?_
  · refine qr_iconst o (q_dm dm_X12_jobs 121 rfl) ic_1 ?_
    refine qs_istore (L' := [some (.inr (some 77)), some (.inl a1), none, some (.inl a3), some (.inl (1 : Int32)), none, none, none, none]) o (q_dm dm_X12_jobs 122 rfl) (Nat.le_of_ble_eq_true rfl) rfl ?_
    refine qr_iconst o (q_dm dm_X12_jobs 123 rfl) ic_0 ?_
    refine qs_istore (L' := [some (.inr (some 77)), some (.inl a1), none, some (.inl a3), some (.inl (1 : Int32)), some (.inl (0 : Int32)), none, none, none]) o (q_dm dm_X12_jobs 124 rfl) (Nat.le_of_ble_eq_true rfl) rfl ?_
    exact qr_loc (q_leS (q_leS (q_leN (q_leS (q_leS (q_leS (q_leN (q_leN (q_leN q_le0))))))))) (w_X12_jobs_238 n j r hj hr o n a1 a3 (1 : Int32) (0 : Int32) M)
  · refine qr_aload_n o (q_dm dm_X12_jobs 82 rfl) rfl ?_
    refine qr_getr (kf := 56) o cf_X12 (sh77 j r) rfl (Nat.le_of_ble_eq_true rfl) fl_X12_118 (q_dm dm_X12_jobs 83 rfl) ?_
    refine qr_iload o (q_dm dm_X12_jobs 84 rfl) rfl ?_
    refine qr_iconst o (q_dm dm_X12_jobs 85 rfl) ic_0 ?_
    refine qr_iast o (sh113 j r) (q_dm dm_X12_jobs 86 rfl) ?_
    refine qr_letm (fun m1 => ?_)
    refine qr_iconst o (q_dm dm_X12_jobs 87 rfl) ic_0 ?_
    refine qs_istore (L' := [some (.inr (some 77)), some (.inl a1), none, some (.inl a3), some (.inl a4), some (.inl (0 : Int32)), none, none, none]) o (q_dm dm_X12_jobs 88 rfl) (Nat.le_of_ble_eq_true rfl) rfl ?_
    exact qr_loc (q_leS (q_leS (q_leN (q_leS (q_leS (q_leS (q_leN (q_leN (q_leN q_le0))))))))) (w_X12_jobs_165 n j r hj hr o K147 hK147 n a1 a3 a4 (0 : Int32) m1)

def f_X12_jobs_147 (n : Nat) : Nat → Int32 → Int32 → Int32 → qM → qR
  | 0, _, _, _, _ => none
  | m + 1, a1, a3, a4, M => b_X12_jobs_147 n (f_X12_jobs_147 n m) a1 a3 a4 M
theorem w_X12_jobs_147 {g : qG} {k : qK} (n : Nat) (j r : Nat) (hj : q_isLaw j) (hr : q_isLaw r) (o : qOk g 6 zX12_jobs k) : ∀ (m : Nat) (a1 a3 a4 : Int32) (M : qM), qAE g k zX12_jobs (qL j r) 147 [some (.inr (some 77)), some (.inl a1), none, some (.inl a3), some (.inl a4), none, none, none, none] [] (qL j r, M) (f_X12_jobs_147 n m a1 a3 a4 M) := by
  intro m
  induction m with
  | zero =>
    intro a1 a3 a4 M
    exact qr_none
  | succ m ih =>
    intro a1 a3 a4 M
    exact wb_X12_jobs_147 n j r hj hr o (f_X12_jobs_147 n m) ih a1 a3 a4 M
def b_X12_jobs_98 (n : Nat) (K98 : Int32 → Int32 → Int32 → Int32 → qM → qR) (a1 a2 a3 a4 : Int32) (M : qM) : qR :=
  (if (8 : Int32) ≤ a4 then f_X12_jobs_147 n n a1 a3 (0 : Int32) M else qc (f_X12_has0 n a2 a4 M) (fun r1 m2 => (if r1 = (0 : Int32) then ql (a4 + (1 : Int32)) (fun x6 => K98 a1 a2 a3 x6 m2) else qg (m2 77 60) 3 (qlm (mu m2 112 (m2 77 60).toNatClampNeg a4) (fun m3 => qlm (mu m3 77 60 ((m3 77 60) + (1 : Int32))) (fun m4 => ql (a4 + (1 : Int32)) (fun x5 => K98 a1 a2 a3 x5 m4)))))))
set_option maxRecDepth 4000 in
theorem wb_X12_jobs_98 {g : qG} {k : qK} (n : Nat) (j r : Nat) (hj : q_isLaw j) (hr : q_isLaw r) (o : qOk g 6 zX12_jobs k) (K98 : Int32 → Int32 → Int32 → Int32 → qM → qR) (hK98 : ∀ (a1 a2 a3 a4 : Int32) (M : qM), qAE g k zX12_jobs (qL j r) 98 [some (.inr (some 77)), some (.inl a1), some (.inl a2), some (.inl a3), some (.inl a4), none, none, none, none] [] (qL j r, M) (K98 a1 a2 a3 a4 M)) (a1 a2 a3 a4 : Int32) (M : qM) : qAE g k zX12_jobs (qL j r) 98 [some (.inr (some 77)), some (.inl a1), some (.inl a2), some (.inl a3), some (.inl a4), none, none, none, none] [] (qL j r, M) (b_X12_jobs_98 n K98 a1 a2 a3 a4 M) := by
  unfold b_X12_jobs_98
  refine qr_iload o (q_dm dm_X12_jobs 55 rfl) rfl ?_
  refine qr_bipush o (q_dm dm_X12_jobs 56 rfl) bi_8 ?_
  refine qr_icmp_ge (tgt := 144) o (q_dm dm_X12_jobs 57 rfl) (by decide) ?_ ?_
  · refine qr_iconst o (q_dm dm_X12_jobs 77 rfl) ic_0 ?_
    refine qs_istore (L' := [some (.inr (some 77)), some (.inl a1), some (.inl a2), some (.inl a3), some (.inl (0 : Int32)), none, none, none, none]) o (q_dm dm_X12_jobs 78 rfl) (Nat.le_of_ble_eq_true rfl) rfl ?_
    exact qr_loc (q_leS (q_leS (q_leN (q_leS (q_leS (q_leN (q_leN (q_leN (q_leN q_le0))))))))) (w_X12_jobs_147 n j r hj hr o n a1 a3 (0 : Int32) M)
  · refine qr_iload_n o (q_dm dm_X12_jobs 58 rfl) rfl ?_
    refine qr_iload o (q_dm dm_X12_jobs 59 rfl) rfl ?_
    refine qr_calls_i (As := [.inl a2, .inl a4]) (S := []) o (a_X12_has0 g k.2.1 n j r hj hr a2 a4 M) (Nat.le_of_ble_eq_true rfl) zs_X12_has0 rfl ml_X12_149 (Nat.le_of_ble_eq_true rfl) (q_dm dm_X12_jobs 60 rfl) (fun r1 m2 => ?_)
    refine qr_if_ne (tgt := 117) o (q_dm dm_X12_jobs 61 rfl) (by decide) ?_ ?_
    · refine qr_aload_n o (q_dm dm_X12_jobs 63 rfl) rfl ?_
      refine qr_getr (kf := 55) o cf_X12 (sh77 j r) rfl (Nat.le_of_ble_eq_true rfl) fl_X12_115 (q_dm dm_X12_jobs 64 rfl) ?_
      refine qr_aload_n o (q_dm dm_X12_jobs 65 rfl) rfl ?_
      refine qr_getf (kf := 60) o cf_X12 (sh77 j r) rfl (Nat.le_of_ble_eq_true rfl) fl_X12_435 (q_dm dm_X12_jobs 66 rfl) ?_
      refine qr_iload o (q_dm dm_X12_jobs 67 rfl) rfl ?_
      refine qr_iast o (sh112 j r) (q_dm dm_X12_jobs 68 rfl) ?_
      refine qr_letm (fun m3 => ?_)
      refine qr_aload_n o (q_dm dm_X12_jobs 69 rfl) rfl ?_
      refine qr_aload_n o (q_dm dm_X12_jobs 70 rfl) rfl ?_
      refine qr_getf (kf := 60) o cf_X12 (sh77 j r) rfl (Nat.le_of_ble_eq_true rfl) fl_X12_435 (q_dm dm_X12_jobs 71 rfl) ?_
      refine qr_iconst o (q_dm dm_X12_jobs 72 rfl) ic_1 ?_
      refine qr_iadd o (q_dm dm_X12_jobs 73 rfl) ?_
      refine qr_putf (kf := 60) o cf_X12 (sh77 j r) rfl (Nat.le_of_ble_eq_true rfl) fl_X12_435 rfl (by decide +kernel) (q_dm dm_X12_jobs 74 rfl) ?_
      refine qr_letm (fun m4 => ?_)
      refine qs_iincl2 (L' := fun x5 => [some (.inr (some 77)), some (.inl a1), some (.inl a2), some (.inl a3), some (.inl x5), none, none, none, none]) o (q_dm dm_X12_jobs 75 rfl) rfl ic_1 (Nat.le_of_ble_eq_true rfl) (fun _ => rfl) (fun x5 => ?_)
      refine qr_goto (tgt := 98) o (q_dm dm_X12_jobs 76 rfl) (by decide) ?_
      exact qr_loc (q_leS (q_leS (q_leS (q_leS (q_leS (q_leN (q_leN (q_leN (q_leN q_le0))))))))) (hK98 a1 a2 a3 x5 m4)
    · refine qr_goto (tgt := 138) o (q_dm dm_X12_jobs 62 rfl) (by decide) ?_
      refine qs_iincl2 (L' := fun x6 => [some (.inr (some 77)), some (.inl a1), some (.inl a2), some (.inl a3), some (.inl x6), none, none, none, none]) o (q_dm dm_X12_jobs 75 rfl) rfl ic_1 (Nat.le_of_ble_eq_true rfl) (fun _ => rfl) (fun x6 => ?_)
      refine qr_goto (tgt := 98) o (q_dm dm_X12_jobs 76 rfl) (by decide) ?_
      exact qr_loc (q_leS (q_leS (q_leS (q_leS (q_leS (q_leN (q_leN (q_leN (q_leN q_le0))))))))) (hK98 a1 a2 a3 x6 m2)

def f_X12_jobs_98 (n : Nat) : Nat → Int32 → Int32 → Int32 → Int32 → qM → qR
  | 0, _, _, _, _, _ => none
  | m + 1, a1, a2, a3, a4, M => b_X12_jobs_98 n (f_X12_jobs_98 n m) a1 a2 a3 a4 M
theorem w_X12_jobs_98 {g : qG} {k : qK} (n : Nat) (j r : Nat) (hj : q_isLaw j) (hr : q_isLaw r) (o : qOk g 6 zX12_jobs k) : ∀ (m : Nat) (a1 a2 a3 a4 : Int32) (M : qM), qAE g k zX12_jobs (qL j r) 98 [some (.inr (some 77)), some (.inl a1), some (.inl a2), some (.inl a3), some (.inl a4), none, none, none, none] [] (qL j r, M) (f_X12_jobs_98 n m a1 a2 a3 a4 M) := by
  intro m
  induction m with
  | zero =>
    intro a1 a2 a3 a4 M
    exact qr_none
  | succ m ih =>
    intro a1 a2 a3 a4 M
    exact wb_X12_jobs_98 n j r hj hr o (f_X12_jobs_98 n m) ih a1 a2 a3 a4 M
def f_X12_jobs_90 (n : Nat) (a1 a2 a3 : Int32) (M : qM) : qR :=
  qlm (mu M 77 60 (0 : Int32)) (fun m1 => f_X12_jobs_98 n n a1 a2 a3 (0 : Int32) m1)
set_option maxRecDepth 4000 in
theorem w_X12_jobs_90 {g : qG} {k : qK} (n : Nat) (j r : Nat) (hj : q_isLaw j) (hr : q_isLaw r) (o : qOk g 6 zX12_jobs k) (a1 a2 a3 : Int32) (M : qM) : qAE g k zX12_jobs (qL j r) 90 [some (.inr (some 77)), some (.inl a1), some (.inl a2), some (.inl a3), none, none, none, none, none] [] (qL j r, M) (f_X12_jobs_90 n a1 a2 a3 M) := by
  unfold f_X12_jobs_90
  refine qr_aload_n o (q_dm dm_X12_jobs 50 rfl) rfl ?_
  refine qr_iconst o (q_dm dm_X12_jobs 51 rfl) ic_0 ?_
  refine qr_putf (kf := 60) o cf_X12 (sh77 j r) rfl (Nat.le_of_ble_eq_true rfl) fl_X12_435 rfl (by decide +kernel) (q_dm dm_X12_jobs 52 rfl) ?_
  refine qr_letm (fun m1 => ?_)
  refine qr_iconst o (q_dm dm_X12_jobs 53 rfl) ic_0 ?_
  refine qs_istore (L' := [some (.inr (some 77)), some (.inl a1), some (.inl a2), some (.inl a3), some (.inl (0 : Int32)), none, none, none, none]) o (q_dm dm_X12_jobs 54 rfl) (Nat.le_of_ble_eq_true rfl) rfl ?_
  exact qr_loc (q_leS (q_leS (q_leS (q_leS (q_leS (q_leN (q_leN (q_leN (q_leN q_le0))))))))) (w_X12_jobs_98 n j r hj hr o n a1 a2 a3 (0 : Int32) m1)

def f_X12_jobs (n : Nat) (a1 a2 a3 : Int32) (M : qM) : qR :=
  qc (f_X12_in n a1 (1 : Int32) (8 : Int32) M) (fun r1 m2 => (if r1 = (0 : Int32) then some ((-1 : Int32), m2) else (if a1 ≤ (m2 77 8) then qlm (mu m2 77 8 (0 : Int32)) (fun m3 => qc (f_X12_takesJobs n a1 m3) (fun r4 m5 => (if r4 = (0 : Int32) then some ((-2 : Int32), m5) else qc (f_X12_in n a2 (1 : Int32) (255 : Int32) m5) (fun r6 m7 => (if r6 = (0 : Int32) then some ((-4 : Int32), m7) else (if (a2 &&& ((m7 78 312) ^^^ (-1 : Int32))) = (0 : Int32) then qc (f_X12_bits n a2 m7) (fun r8 m9 => (if (3 : Int32) < r8 then some ((-4 : Int32), m9) else (if a3 = (10 : Int32) then f_X12_jobs_90 n a1 a2 a3 m9 else qc (f_X12_in n a3 (0 : Int32) (a1 - (1 : Int32)) m9) (fun r10 m11 => (if r10 = (0 : Int32) then some ((-4 : Int32), m11) else f_X12_jobs_90 n a1 a2 a3 m11))))) else some ((-4 : Int32), m7))))))) else some ((-1 : Int32), m2))))
set_option maxRecDepth 4000 in
theorem w_X12_jobs {g : qG} {k : qK} (n : Nat) (j r : Nat) (hj : q_isLaw j) (hr : q_isLaw r) (o : qOk g 6 zX12_jobs k) (a1 a2 a3 : Int32) (M : qM) : qAE g k zX12_jobs (qL j r) 0 [some (.inr (some 77)), some (.inl a1), some (.inl a2), some (.inl a3), none, none, none, none, none] [] (qL j r, M) (f_X12_jobs n a1 a2 a3 M) := by
  unfold f_X12_jobs
  refine qr_iload_n o (q_dm dm_X12_jobs 0 rfl) rfl ?_
  refine qr_iconst o (q_dm dm_X12_jobs 1 rfl) ic_1 ?_
  refine qr_bipush o (q_dm dm_X12_jobs 2 rfl) bi_8 ?_
  refine qr_calls_i (As := [.inl a1, .inl (1 : Int32), .inl (8 : Int32)]) (S := []) o (a_X12_in g k.2.1 n j r hj hr a1 (1 : Int32) (8 : Int32) M) (Nat.le_of_ble_eq_true rfl) zs_X12_in rfl ml_X12_153 (Nat.le_of_ble_eq_true rfl) (q_dm dm_X12_jobs 3 rfl) (fun r1 m2 => ?_)
  refine qr_if_eq (tgt := 18) o (q_dm dm_X12_jobs 4 rfl) (by decide) ?_ ?_
  · refine qr_iconst o (q_dm dm_X12_jobs 9 rfl) ic_m1 ?_
    exact qr_iret o rfl rfl (q_dm dm_X12_jobs 10 rfl)
  · refine qr_iload_n o (q_dm dm_X12_jobs 5 rfl) rfl ?_
    refine qr_aload_n o (q_dm dm_X12_jobs 6 rfl) rfl ?_
    refine qr_getf (kf := 8) o cf_X12 (sh77 j r) rfl (Nat.le_of_ble_eq_true rfl) fl_X12_162 (q_dm dm_X12_jobs 7 rfl) ?_
    refine qr_icmp_le (tgt := 20) o (q_dm dm_X12_jobs 8 rfl) (by decide) ?_ ?_
    · refine qr_aload_n o (q_dm dm_X12_jobs 11 rfl) rfl ?_
      refine qr_iconst o (q_dm dm_X12_jobs 12 rfl) ic_0 ?_
      refine qr_putf (kf := 8) o cf_X12 (sh77 j r) rfl (Nat.le_of_ble_eq_true rfl) fl_X12_162 rfl (by decide +kernel) (q_dm dm_X12_jobs 13 rfl) ?_
      refine qr_letm (fun m3 => ?_)
      refine qr_aload_n o (q_dm dm_X12_jobs 14 rfl) rfl ?_
      refine qr_iload_n o (q_dm dm_X12_jobs 15 rfl) rfl ?_
      refine qr_callv_i (As := [.inl a1]) (S := []) o (a_X12_takesJobs g k.2.1 n j r hj hr a1 m3) (Nat.le_of_ble_eq_true rfl) zv_X12_takesJobs rfl cf_X12 (sh77 j r) ml_X12_444 (Nat.le_of_ble_eq_true rfl) (q_dm dm_X12_jobs 16 rfl) (fun r4 m5 => ?_)
      refine qr_if_ne (tgt := 36) o (q_dm dm_X12_jobs 17 rfl) (by decide) ?_ ?_
      · refine qr_iload_n o (q_dm dm_X12_jobs 20 rfl) rfl ?_
        refine qr_iconst o (q_dm dm_X12_jobs 21 rfl) ic_1 ?_
        refine qr_sipush o (q_dm dm_X12_jobs 22 rfl) si_255 ?_
        refine qr_calls_i (As := [.inl a2, .inl (1 : Int32), .inl (255 : Int32)]) (S := []) o (a_X12_in g k.2.1 n j r hj hr a2 (1 : Int32) (255 : Int32) m5) (Nat.le_of_ble_eq_true rfl) zs_X12_in rfl ml_X12_153 (Nat.le_of_ble_eq_true rfl) (q_dm dm_X12_jobs 23 rfl) (fun r6 m7 => ?_)
        refine qr_if_eq (tgt := 87) o (q_dm dm_X12_jobs 24 rfl) (by decide) ?_ ?_
        · refine qr_bipush o (q_dm dm_X12_jobs 48 rfl) bi_m4 ?_
          exact qr_iret o rfl rfl (q_dm dm_X12_jobs 49 rfl)
        · refine qr_iload_n o (q_dm dm_X12_jobs 25 rfl) rfl ?_
          refine qr_aload_n o (q_dm dm_X12_jobs 26 rfl) rfl ?_
          refine qr_getr (kf := 0) o cf_X12 (sh77 j r) rfl (Nat.le_of_ble_eq_true rfl) fl_X12_7 (q_dm dm_X12_jobs 27 rfl) ?_
          refine qr_sipush o (q_dm dm_X12_jobs 28 rfl) si_312 ?_
          refine qr_iald0 (c := 312) o (sh78 j r) (by decide) (by decide) (q_dm dm_X12_jobs 29 rfl) ?_
          refine qr_iconst o (q_dm dm_X12_jobs 30 rfl) ic_m1 ?_
          refine qr_ixor o (q_dm dm_X12_jobs 31 rfl) ?_
          refine qr_iand o (q_dm dm_X12_jobs 32 rfl) ?_
          refine qr_if_ne (tgt := 87) o (q_dm dm_X12_jobs 33 rfl) (by decide) ?_ ?_
          · refine qr_bipush o (q_dm dm_X12_jobs 48 rfl) bi_m4 ?_
            exact qr_iret o rfl rfl (q_dm dm_X12_jobs 49 rfl)
          · refine qr_iload_n o (q_dm dm_X12_jobs 34 rfl) rfl ?_
            refine qr_calls_i (As := [.inl a2]) (S := []) o (a_X12_bits g k.2.1 n j r hj hr a2 m7) (Nat.le_of_ble_eq_true rfl) zs_X12_bits rfl ml_X12_276 (Nat.le_of_ble_eq_true rfl) (q_dm dm_X12_jobs 35 rfl) (fun r8 m9 => ?_)
            refine qr_iconst o (q_dm dm_X12_jobs 36 rfl) ic_3 ?_
            refine qr_icmp_gt (tgt := 87) o (q_dm dm_X12_jobs 37 rfl) (by decide) ?_ ?_
            · refine qr_bipush o (q_dm dm_X12_jobs 48 rfl) bi_m4 ?_
              exact qr_iret o rfl rfl (q_dm dm_X12_jobs 49 rfl)
            · refine qr_iload_n o (q_dm dm_X12_jobs 38 rfl) rfl ?_
              refine qr_bipush o (q_dm dm_X12_jobs 39 rfl) bi_10 ?_
              refine qr_icmp_eq (tgt := 90) o (q_dm dm_X12_jobs 40 rfl) (by decide) ?_ ?_
              · exact qr_loc (q_leS (q_leS (q_leS (q_leS (q_leN (q_leN (q_leN (q_leN (q_leN q_le0))))))))) (w_X12_jobs_90 n j r hj hr o a1 a2 a3 m9)
              · refine qr_iload_n o (q_dm dm_X12_jobs 41 rfl) rfl ?_
                refine qr_iconst o (q_dm dm_X12_jobs 42 rfl) ic_0 ?_
                refine qr_iload_n o (q_dm dm_X12_jobs 43 rfl) rfl ?_
                refine qr_iconst o (q_dm dm_X12_jobs 44 rfl) ic_1 ?_
                refine qr_isub o (q_dm dm_X12_jobs 45 rfl) ?_
                refine qr_calls_i (As := [.inl a3, .inl (0 : Int32), .inl (a1 - (1 : Int32))]) (S := []) o (a_X12_in g k.2.1 n j r hj hr a3 (0 : Int32) (a1 - (1 : Int32)) m9) (Nat.le_of_ble_eq_true rfl) zs_X12_in rfl ml_X12_153 (Nat.le_of_ble_eq_true rfl) (q_dm dm_X12_jobs 46 rfl) (fun r10 m11 => ?_)
                refine qr_if_ne (tgt := 90) o (q_dm dm_X12_jobs 47 rfl) (by decide) ?_ ?_
                · exact qr_loc (q_leS (q_leS (q_leS (q_leS (q_leN (q_leN (q_leN (q_leN (q_leN q_le0))))))))) (w_X12_jobs_90 n j r hj hr o a1 a2 a3 m11)
                · refine qr_bipush o (q_dm dm_X12_jobs 48 rfl) bi_m4 ?_
                  exact qr_iret o rfl rfl (q_dm dm_X12_jobs 49 rfl)
      · refine qr_bipush o (q_dm dm_X12_jobs 18 rfl) bi_m2 ?_
        exact qr_iret o rfl rfl (q_dm dm_X12_jobs 19 rfl)
    · refine qr_iconst o (q_dm dm_X12_jobs 9 rfl) ic_m1 ?_
      exact qr_iret o rfl rfl (q_dm dm_X12_jobs 10 rfl)

theorem a_X12_jobs (g : qG) (l : Launch) (n : Nat) (j r : Nat) (hj : q_isLaw j) (hr : q_isLaw r) (a1 a2 a3 : Int32) (M : qM) : qAM g l 6 zX12_jobs (qL j r) [.inr (some 77), .inl a1, .inl a2, .inl a3] (qL j r, M) (f_X12_jobs n a1 a2 a3 M) :=
  qAM.of zv_X12_jobs.1 (by show 4 ≤ 9; decide) (fun k hk o => w_X12_jobs n j r hj hr o a1 a2 a3 M)
def tb_X12_jumps : List (Nat × Instr × Nat) := [(0, (.aload_n 0, 1)), (1, (.getfield 35, 3)), (4, (.aload_n 0, 1)), (5, (.getfield 199, 3)), (8, (.ldc 195, 2)), (10, (.iload_n 1, 1)), (11, (.imul, 1)), (12, (.aload_n 0, 1)), (13, (.getfield 192, 3)), (16, (.iadd, 1)), (17, (.iastore, 1)), (18, (.aload_n 0, 1)), (19, (.aload_n 0, 1)), (20, (.getfield 199, 3)), (23, (.iconst 1, 1)), (24, (.iadd, 1)), (25, (.putfield 199, 3)), (28, (.aload_n 0, 1)), (29, (.iload_n 1, 1)), (30, (.iconst 0, 1)), (31, (.invokevirtual 205, 3)), (34, (.aload_n 0, 1)), (35, (.aload_n 0, 1)), (36, (.getfield 169, 3)), (39, (.iconst 1, 1)), (40, (.iadd, 1)), (41, (.putfield 169, 3)), (44, (.return_, 1))]
theorem dm_X12_jumps : ∀ q ∈ tb_X12_jumps, decode zX12_jumps.2.1 q.1 = .ok q.2 := by decide +kernel
def f_X12_jumps (n : Nat) (a1 : Int32) (M : qM) : qR :=
  qg (M 77 15) 260 (qlm (mu M 86 (M 77 15).toNatClampNeg (((1048576 : Int32) * a1) + (M 77 14))) (fun m1 => qlm (mu m1 77 15 ((m1 77 15) + (1 : Int32))) (fun m2 => qc (f_X12_notes n a1 (0 : Int32) m2) (fun _ m3 => qlm (mu m3 77 9 ((m3 77 9) + (1 : Int32))) (fun m4 => some (0, m4))))))
set_option maxRecDepth 4000 in
theorem w_X12_jumps {g : qG} {k : qK} (n : Nat) (j r : Nat) (hj : q_isLaw j) (hr : q_isLaw r) (o : qOk g 1 zX12_jumps k) (a1 : Int32) (M : qM) : qAE g k zX12_jumps (qL j r) 0 [some (.inr (some 77)), some (.inl a1)] [] (qL j r, M) (f_X12_jumps n a1 M) := by
  unfold f_X12_jumps
  refine qr_aload_n o (q_dm dm_X12_jumps 0 rfl) rfl ?_
  refine qr_getr (kf := 19) o cf_X12 (sh77 j r) rfl (Nat.le_of_ble_eq_true rfl) fl_X12_35 (q_dm dm_X12_jumps 1 rfl) ?_
  refine qr_aload_n o (q_dm dm_X12_jumps 2 rfl) rfl ?_
  refine qr_getf (kf := 15) o cf_X12 (sh77 j r) rfl (Nat.le_of_ble_eq_true rfl) fl_X12_199 (q_dm dm_X12_jumps 3 rfl) ?_
  refine qr_ldc o (q_dm dm_X12_jumps 4 rfl) kc_X12_195 ?_
  refine qr_iload_n o (q_dm dm_X12_jumps 5 rfl) rfl ?_
  refine qr_imul o (q_dm dm_X12_jumps 6 rfl) ?_
  refine qr_aload_n o (q_dm dm_X12_jumps 7 rfl) rfl ?_
  refine qr_getf (kf := 14) o cf_X12 (sh77 j r) rfl (Nat.le_of_ble_eq_true rfl) fl_X12_192 (q_dm dm_X12_jumps 8 rfl) ?_
  refine qr_iadd o (q_dm dm_X12_jumps 9 rfl) ?_
  refine qr_iast o (sh86 j r) (q_dm dm_X12_jumps 10 rfl) ?_
  refine qr_letm (fun m1 => ?_)
  refine qr_aload_n o (q_dm dm_X12_jumps 11 rfl) rfl ?_
  refine qr_aload_n o (q_dm dm_X12_jumps 12 rfl) rfl ?_
  refine qr_getf (kf := 15) o cf_X12 (sh77 j r) rfl (Nat.le_of_ble_eq_true rfl) fl_X12_199 (q_dm dm_X12_jumps 13 rfl) ?_
  refine qr_iconst o (q_dm dm_X12_jumps 14 rfl) ic_1 ?_
  refine qr_iadd o (q_dm dm_X12_jumps 15 rfl) ?_
  refine qr_putf (kf := 15) o cf_X12 (sh77 j r) rfl (Nat.le_of_ble_eq_true rfl) fl_X12_199 rfl (by decide +kernel) (q_dm dm_X12_jumps 16 rfl) ?_
  refine qr_letm (fun m2 => ?_)
  refine qr_aload_n o (q_dm dm_X12_jumps 17 rfl) rfl ?_
  refine qr_iload_n o (q_dm dm_X12_jumps 18 rfl) rfl ?_
  refine qr_iconst o (q_dm dm_X12_jumps 19 rfl) ic_0 ?_
  refine qr_callv_v (As := [.inl a1, .inl (0 : Int32)]) (S := []) o (a_X12_notes g k.2.1 n j r hj hr a1 (0 : Int32) m2) (Nat.le_of_ble_eq_true rfl) zv_X12_notes rfl cf_X12 (sh77 j r) ml_X12_205 (Nat.le_of_ble_eq_true rfl) (q_dm dm_X12_jumps 20 rfl) (fun _ m3 => ?_)
  refine qr_aload_n o (q_dm dm_X12_jumps 21 rfl) rfl ?_
  refine qr_aload_n o (q_dm dm_X12_jumps 22 rfl) rfl ?_
  refine qr_getf (kf := 9) o cf_X12 (sh77 j r) rfl (Nat.le_of_ble_eq_true rfl) fl_X12_169 (q_dm dm_X12_jumps 23 rfl) ?_
  refine qr_iconst o (q_dm dm_X12_jumps 24 rfl) ic_1 ?_
  refine qr_iadd o (q_dm dm_X12_jumps 25 rfl) ?_
  refine qr_putf (kf := 9) o cf_X12 (sh77 j r) rfl (Nat.le_of_ble_eq_true rfl) fl_X12_169 rfl (by decide +kernel) (q_dm dm_X12_jumps 26 rfl) ?_
  refine qr_letm (fun m4 => ?_)
  exact qr_vret o rfl (q_dm dm_X12_jumps 27 rfl)

theorem a_X12_jumps (g : qG) (l : Launch) (n : Nat) (j r : Nat) (hj : q_isLaw j) (hr : q_isLaw r) (a1 : Int32) (M : qM) : qAM g l 1 zX12_jumps (qL j r) [.inr (some 77), .inl a1] (qL j r, M) (f_X12_jumps n a1 M) :=
  qAM.of zv_X12_jumps.1 (by show 2 ≤ 2; decide) (fun k hk o => w_X12_jumps n j r hj hr o a1 M)
def tb_X12_keep : List (Nat × Instr × Nat) := [(0, (.aload_n 0, 1)), (1, (.iconst 1, 1)), (2, (.putfield 489, 3)), (5, (.aload_n 0, 1)), (6, (.getfield 7, 3)), (9, (.aload_n 0, 1)), (10, (.getfield 16, 3)), (13, (.invokestatic 319, 3)), (16, (.aload_n 0, 1)), (17, (.getfield 7, 3)), (20, (.sipush 313, 3)), (23, (.iaload, 1)), (24, (.ireturn, 1))]
theorem dm_X12_keep : ∀ q ∈ tb_X12_keep, decode zX12_keep.2.1 q.1 = .ok q.2 := by decide +kernel
def f_X12_keep (n : Nat) (M : qM) : qR :=
  qlm (mu M 77 67 (1 : Int32)) (fun m1 => qc (f_X12_copies n 78 80 m1) (fun _ m2 => some ((m2 78 313), m2)))
set_option maxRecDepth 4000 in
theorem w_X12_keep {g : qG} {k : qK} (n : Nat) (j r : Nat) (hj : q_isLaw j) (hr : q_isLaw r) (o : qOk g 1 zX12_keep k) (M : qM) : qAE g k zX12_keep (qL j r) 0 [some (.inr (some 77))] [] (qL j r, M) (f_X12_keep n  M) := by
  unfold f_X12_keep
  refine qr_aload_n o (q_dm dm_X12_keep 0 rfl) rfl ?_
  refine qr_iconst o (q_dm dm_X12_keep 1 rfl) ic_1 ?_
  refine qr_putz (kf := 67) o cf_X12 (sh77 j r) rfl (Nat.le_of_ble_eq_true rfl) fl_X12_489 rfl (by decide +kernel) (by decide) (q_dm dm_X12_keep 2 rfl) ?_
  refine qr_letm (fun m1 => ?_)
  refine qr_aload_n o (q_dm dm_X12_keep 3 rfl) rfl ?_
  refine qr_getr (kf := 0) o cf_X12 (sh77 j r) rfl (Nat.le_of_ble_eq_true rfl) fl_X12_7 (q_dm dm_X12_keep 4 rfl) ?_
  refine qr_aload_n o (q_dm dm_X12_keep 5 rfl) rfl ?_
  refine qr_getr (kf := 2) o cf_X12 (sh77 j r) rfl (Nat.le_of_ble_eq_true rfl) fl_X12_16 (q_dm dm_X12_keep 6 rfl) ?_
  refine qr_calls_v (As := [.inr (some 78), .inr (some 80)]) (S := []) o (a_X12_copies g k.2.1 n j r hj hr (sh78 j r) (sh80 j r) m1) (Nat.le_of_ble_eq_true rfl) zs_X12_copies rfl ml_X12_319 (Nat.le_of_ble_eq_true rfl) (q_dm dm_X12_keep 7 rfl) (fun _ m2 => ?_)
  refine qr_aload_n o (q_dm dm_X12_keep 8 rfl) rfl ?_
  refine qr_getr (kf := 0) o cf_X12 (sh77 j r) rfl (Nat.le_of_ble_eq_true rfl) fl_X12_7 (q_dm dm_X12_keep 9 rfl) ?_
  refine qr_sipush o (q_dm dm_X12_keep 10 rfl) si_313 ?_
  refine qr_iald0 (c := 313) o (sh78 j r) (by decide) (by decide) (q_dm dm_X12_keep 11 rfl) ?_
  exact qr_iret o rfl rfl (q_dm dm_X12_keep 12 rfl)

theorem a_X12_keep (g : qG) (l : Launch) (n : Nat) (j r : Nat) (hj : q_isLaw j) (hr : q_isLaw r) (M : qM) : qAM g l 1 zX12_keep (qL j r) [.inr (some 77)] (qL j r, M) (f_X12_keep n  M) :=
  qAM.of zv_X12_keep.1 (by show 1 ≤ 1; decide) (fun k hk o => w_X12_keep n j r hj hr o  M)
def tb_X12_kind : List (Nat × Instr × Nat) := [(0, (.iload_n 1, 1)), (1, (.iconst 0, 1)), (2, (.bipush 11, 2)), (4, (.invokestatic 153, 3)), (7, (.ifCond .eq 57, 3)), (10, (.aload_n 0, 1)), (11, (.iload_n 1, 1)), (12, (.invokevirtual 157, 3)), (15, (.ifCond .ne 49, 3)), (18, (.iload_n 2, 1)), (19, (.iconst 1, 1)), (20, (.bipush 12, 2)), (22, (.invokestatic 153, 3)), (25, (.ifCond .eq 39, 3)), (28, (.iload_n 3, 1)), (29, (.iconst 0, 1)), (30, (.sipush 255, 3)), (33, (.invokestatic 153, 3)), (36, (.ifCond .eq 28, 3)), (39, (.iload 4, 2)), (41, (.ifCond .lt 23, 3)), (44, (.iload 4, 2)), (46, (.iconst 1, 1)), (47, (.iload_n 1, 1)), (48, (.ishl, 1)), (49, (.if_icmp .ge 15, 3)), (52, (.iload 4, 2)), (54, (.aload_n 0, 1)), (55, (.getfield 145, 3)), (58, (.iconst (-1), 1)), (59, (.ixor, 1)), (60, (.iand, 1)), (61, (.ifCond .eq 5, 3)), (64, (.iconst 0, 1)), (65, (.ireturn, 1)), (66, (.aload_n 0, 1)), (67, (.aload_n 0, 1)), (68, (.getfield 145, 3)), (71, (.iconst 1, 1)), (72, (.iload_n 1, 1)), (73, (.ishl, 1)), (74, (.ior, 1)), (75, (.putfield 145, 3)), (78, (.aload_n 0, 1)), (79, (.getfield 19, 3)), (82, (.iload_n 1, 1)), (83, (.iload_n 2, 1)), (84, (.iastore, 1)), (85, (.aload_n 0, 1)), (86, (.getfield 22, 3)), (89, (.iload_n 1, 1)), (90, (.iload_n 3, 1)), (91, (.iastore, 1)), (92, (.aload_n 0, 1)), (93, (.getfield 25, 3)), (96, (.iload_n 1, 1)), (97, (.iload 4, 2)), (99, (.iastore, 1)), (100, (.iconst 1, 1)), (101, (.ireturn, 1))]
theorem dm_X12_kind : ∀ q ∈ tb_X12_kind, decode zX12_kind.2.1 q.1 = .ok q.2 := by decide +kernel
def f_X12_kind (n : Nat) (a1 a2 a3 a4 : Int32) (M : qM) : qR :=
  qc (f_X12_in n a1 (0 : Int32) (11 : Int32) M) (fun r1 m2 => (if r1 = (0 : Int32) then some ((0 : Int32), m2) else qc (f_X12_isKind n a1 m2) (fun r3 m4 => (if r3 = (0 : Int32) then qc (f_X12_in n a2 (1 : Int32) (12 : Int32) m4) (fun r5 m6 => (if r5 = (0 : Int32) then some ((0 : Int32), m6) else qc (f_X12_in n a3 (0 : Int32) (255 : Int32) m6) (fun r7 m8 => (if r7 = (0 : Int32) then some ((0 : Int32), m8) else (if a4 < (0 : Int32) then some ((0 : Int32), m8) else (if ((1 : Int32) <<< (a1 &&& 31)) ≤ a4 then some ((0 : Int32), m8) else (if (a4 &&& ((m8 77 6) ^^^ (-1 : Int32))) = (0 : Int32) then qlm (mu m8 77 6 ((m8 77 6) ||| ((1 : Int32) <<< (a1 &&& 31)))) (fun m9 => qg a1 13 (qlm (mu m9 81 a1.toNatClampNeg a2) (fun m10 => qg a1 13 (qlm (mu m10 82 a1.toNatClampNeg a3) (fun m11 => qg a1 13 (qlm (mu m11 83 a1.toNatClampNeg a4) (fun m12 => some ((1 : Int32), m12)))))))) else some ((0 : Int32), m8)))))))) else some ((0 : Int32), m4)))))
set_option maxRecDepth 4000 in
theorem w_X12_kind {g : qG} {k : qK} (n : Nat) (j r : Nat) (hj : q_isLaw j) (hr : q_isLaw r) (o : qOk g 2 zX12_kind k) (a1 a2 a3 a4 : Int32) (M : qM) : qAE g k zX12_kind (qL j r) 0 [some (.inr (some 77)), some (.inl a1), some (.inl a2), some (.inl a3), some (.inl a4)] [] (qL j r, M) (f_X12_kind n a1 a2 a3 a4 M) := by
  unfold f_X12_kind
  refine qr_iload_n o (q_dm dm_X12_kind 0 rfl) rfl ?_
  refine qr_iconst o (q_dm dm_X12_kind 1 rfl) ic_0 ?_
  refine qr_bipush o (q_dm dm_X12_kind 2 rfl) bi_11 ?_
  refine qr_calls_i (As := [.inl a1, .inl (0 : Int32), .inl (11 : Int32)]) (S := []) o (a_X12_in g k.2.1 n j r hj hr a1 (0 : Int32) (11 : Int32) M) (Nat.le_of_ble_eq_true rfl) zs_X12_in rfl ml_X12_153 (Nat.le_of_ble_eq_true rfl) (q_dm dm_X12_kind 3 rfl) (fun r1 m2 => ?_)
  refine qr_if_eq (tgt := 64) o (q_dm dm_X12_kind 4 rfl) (by decide) ?_ ?_
  · refine qr_iconst o (q_dm dm_X12_kind 33 rfl) ic_0 ?_
    exact qr_iret o rfl (by decide) (q_dm dm_X12_kind 34 rfl)
  · refine qr_aload_n o (q_dm dm_X12_kind 5 rfl) rfl ?_
    refine qr_iload_n o (q_dm dm_X12_kind 6 rfl) rfl ?_
    refine qr_callv_i (As := [.inl a1]) (S := []) o (a_X12_isKind g k.2.1 n j r hj hr a1 m2) (Nat.le_of_ble_eq_true rfl) zv_X12_isKind rfl cf_X12 (sh77 j r) ml_X12_157 (Nat.le_of_ble_eq_true rfl) (q_dm dm_X12_kind 7 rfl) (fun r3 m4 => ?_)
    refine qr_if_ne (tgt := 64) o (q_dm dm_X12_kind 8 rfl) (by decide) ?_ ?_
    · refine qr_iconst o (q_dm dm_X12_kind 33 rfl) ic_0 ?_
      exact qr_iret o rfl (by decide) (q_dm dm_X12_kind 34 rfl)
    · refine qr_iload_n o (q_dm dm_X12_kind 9 rfl) rfl ?_
      refine qr_iconst o (q_dm dm_X12_kind 10 rfl) ic_1 ?_
      refine qr_bipush o (q_dm dm_X12_kind 11 rfl) bi_12 ?_
      refine qr_calls_i (As := [.inl a2, .inl (1 : Int32), .inl (12 : Int32)]) (S := []) o (a_X12_in g k.2.1 n j r hj hr a2 (1 : Int32) (12 : Int32) m4) (Nat.le_of_ble_eq_true rfl) zs_X12_in rfl ml_X12_153 (Nat.le_of_ble_eq_true rfl) (q_dm dm_X12_kind 12 rfl) (fun r5 m6 => ?_)
      refine qr_if_eq (tgt := 64) o (q_dm dm_X12_kind 13 rfl) (by decide) ?_ ?_
      · refine qr_iconst o (q_dm dm_X12_kind 33 rfl) ic_0 ?_
        exact qr_iret o rfl (by decide) (q_dm dm_X12_kind 34 rfl)
      · refine qr_iload_n o (q_dm dm_X12_kind 14 rfl) rfl ?_
        refine qr_iconst o (q_dm dm_X12_kind 15 rfl) ic_0 ?_
        refine qr_sipush o (q_dm dm_X12_kind 16 rfl) si_255 ?_
        refine qr_calls_i (As := [.inl a3, .inl (0 : Int32), .inl (255 : Int32)]) (S := []) o (a_X12_in g k.2.1 n j r hj hr a3 (0 : Int32) (255 : Int32) m6) (Nat.le_of_ble_eq_true rfl) zs_X12_in rfl ml_X12_153 (Nat.le_of_ble_eq_true rfl) (q_dm dm_X12_kind 17 rfl) (fun r7 m8 => ?_)
        refine qr_if_eq (tgt := 64) o (q_dm dm_X12_kind 18 rfl) (by decide) ?_ ?_
        · refine qr_iconst o (q_dm dm_X12_kind 33 rfl) ic_0 ?_
          exact qr_iret o rfl (by decide) (q_dm dm_X12_kind 34 rfl)
        · refine qr_iload o (q_dm dm_X12_kind 19 rfl) rfl ?_
          refine qr_if_lt (tgt := 64) o (q_dm dm_X12_kind 20 rfl) (by decide) ?_ ?_
          · refine qr_iconst o (q_dm dm_X12_kind 33 rfl) ic_0 ?_
            exact qr_iret o rfl (by decide) (q_dm dm_X12_kind 34 rfl)
          · refine qr_iload o (q_dm dm_X12_kind 21 rfl) rfl ?_
            refine qr_iconst o (q_dm dm_X12_kind 22 rfl) ic_1 ?_
            refine qr_iload_n o (q_dm dm_X12_kind 23 rfl) rfl ?_
            refine qr_ishl o (q_dm dm_X12_kind 24 rfl) ?_
            refine qr_icmp_ge (tgt := 64) o (q_dm dm_X12_kind 25 rfl) (by decide) ?_ ?_
            · refine qr_iconst o (q_dm dm_X12_kind 33 rfl) ic_0 ?_
              exact qr_iret o rfl (by decide) (q_dm dm_X12_kind 34 rfl)
            · refine qr_iload o (q_dm dm_X12_kind 26 rfl) rfl ?_
              refine qr_aload_n o (q_dm dm_X12_kind 27 rfl) rfl ?_
              refine qr_getf (kf := 6) o cf_X12 (sh77 j r) rfl (Nat.le_of_ble_eq_true rfl) fl_X12_145 (q_dm dm_X12_kind 28 rfl) ?_
              refine qr_iconst o (q_dm dm_X12_kind 29 rfl) ic_m1 ?_
              refine qr_ixor o (q_dm dm_X12_kind 30 rfl) ?_
              refine qr_iand o (q_dm dm_X12_kind 31 rfl) ?_
              refine qr_if_eq (tgt := 66) o (q_dm dm_X12_kind 32 rfl) (by decide) ?_ ?_
              · refine qr_aload_n o (q_dm dm_X12_kind 35 rfl) rfl ?_
                refine qr_aload_n o (q_dm dm_X12_kind 36 rfl) rfl ?_
                refine qr_getf (kf := 6) o cf_X12 (sh77 j r) rfl (Nat.le_of_ble_eq_true rfl) fl_X12_145 (q_dm dm_X12_kind 37 rfl) ?_
                refine qr_iconst o (q_dm dm_X12_kind 38 rfl) ic_1 ?_
                refine qr_iload_n o (q_dm dm_X12_kind 39 rfl) rfl ?_
                refine qr_ishl o (q_dm dm_X12_kind 40 rfl) ?_
                refine qr_ior o (q_dm dm_X12_kind 41 rfl) ?_
                refine qr_putf (kf := 6) o cf_X12 (sh77 j r) rfl (Nat.le_of_ble_eq_true rfl) fl_X12_145 rfl (by decide +kernel) (q_dm dm_X12_kind 42 rfl) ?_
                refine qr_letm (fun m9 => ?_)
                refine qr_aload_n o (q_dm dm_X12_kind 43 rfl) rfl ?_
                refine qr_getr (kf := 3) o cf_X12 (sh77 j r) rfl (Nat.le_of_ble_eq_true rfl) fl_X12_19 (q_dm dm_X12_kind 44 rfl) ?_
                refine qr_iload_n o (q_dm dm_X12_kind 45 rfl) rfl ?_
                refine qr_iload_n o (q_dm dm_X12_kind 46 rfl) rfl ?_
                refine qr_iast o (sh81 j r) (q_dm dm_X12_kind 47 rfl) ?_
                refine qr_letm (fun m10 => ?_)
                refine qr_aload_n o (q_dm dm_X12_kind 48 rfl) rfl ?_
                refine qr_getr (kf := 4) o cf_X12 (sh77 j r) rfl (Nat.le_of_ble_eq_true rfl) fl_X12_22 (q_dm dm_X12_kind 49 rfl) ?_
                refine qr_iload_n o (q_dm dm_X12_kind 50 rfl) rfl ?_
                refine qr_iload_n o (q_dm dm_X12_kind 51 rfl) rfl ?_
                refine qr_iast o (sh82 j r) (q_dm dm_X12_kind 52 rfl) ?_
                refine qr_letm (fun m11 => ?_)
                refine qr_aload_n o (q_dm dm_X12_kind 53 rfl) rfl ?_
                refine qr_getr (kf := 5) o cf_X12 (sh77 j r) rfl (Nat.le_of_ble_eq_true rfl) fl_X12_25 (q_dm dm_X12_kind 54 rfl) ?_
                refine qr_iload_n o (q_dm dm_X12_kind 55 rfl) rfl ?_
                refine qr_iload o (q_dm dm_X12_kind 56 rfl) rfl ?_
                refine qr_iast o (sh83 j r) (q_dm dm_X12_kind 57 rfl) ?_
                refine qr_letm (fun m12 => ?_)
                refine qr_iconst o (q_dm dm_X12_kind 58 rfl) ic_1 ?_
                exact qr_iret o rfl (by decide) (q_dm dm_X12_kind 59 rfl)
              · refine qr_iconst o (q_dm dm_X12_kind 33 rfl) ic_0 ?_
                exact qr_iret o rfl (by decide) (q_dm dm_X12_kind 34 rfl)

theorem a_X12_kind (g : qG) (l : Launch) (n : Nat) (j r : Nat) (hj : q_isLaw j) (hr : q_isLaw r) (a1 a2 a3 a4 : Int32) (M : qM) : qAM g l 2 zX12_kind (qL j r) [.inr (some 77), .inl a1, .inl a2, .inl a3, .inl a4] (qL j r, M) (f_X12_kind n a1 a2 a3 a4 M) :=
  qAM.of zv_X12_kind.1 (by show 5 ≤ 5; decide) (fun k hk o => w_X12_kind n j r hj hr o a1 a2 a3 a4 M)
def tb_X12_lands : List (Nat × Instr × Nat) := [(0, (.aload_n 0, 1)), (1, (.invokevirtual 202, 3)), (4, (.bipush 11, 2)), (6, (.if_icmp .eq 16, 3)), (9, (.iload_n 1, 1)), (10, (.ifCond .eq 63, 3)), (13, (.aload_n 0, 1)), (14, (.invokevirtual 202, 3)), (17, (.bipush 12, 2)), (19, (.if_icmp .ne 54, 3)), (22, (.aload_n 0, 1)), (23, (.getfield 35, 3)), (26, (.aload_n 0, 1)), (27, (.getfield 199, 3)), (30, (.iconst 1, 1)), (31, (.isub, 1)), (32, (.iaload, 1)), (33, (.ldc 195, 2)), (35, (.irem, 1)), (36, (.istore_n 2, 1)), (37, (.aload_n 0, 1)), (38, (.getfield 32, 3)), (41, (.iload_n 2, 1)), (42, (.ldc 195, 2)), (44, (.aload_n 0, 1)), (45, (.getfield 32, 3)), (48, (.iload_n 2, 1)), (49, (.iaload, 1)), (50, (.ldc 195, 2)), (52, (.idiv, 1)), (53, (.imul, 1)), (54, (.aload_n 0, 1)), (55, (.getfield 192, 3)), (58, (.iadd, 1)), (59, (.iastore, 1)), (60, (.aload_n 0, 1)), (61, (.aload_n 0, 1)), (62, (.getfield 199, 3)), (65, (.iconst 1, 1)), (66, (.isub, 1)), (67, (.putfield 199, 3)), (70, (.goto (-70), 3)), (73, (.return_, 1))]
theorem dm_X12_lands : ∀ q ∈ tb_X12_lands, decode zX12_lands.2.1 q.1 = .ok q.2 := by decide +kernel
def f_X12_lands_22 (n : Nat) (K0 : Int32 → qM → qR) (a1 : Int32) (M : qM) : qR :=
  qg ((M 77 15) - (1 : Int32)) 260 (ql ((M 86 ((M 77 15) - (1 : Int32)).toNatClampNeg) - (M 86 ((M 77 15) - (1 : Int32)).toNatClampNeg) / (1048576 : Int32) * (1048576 : Int32)) (fun x1 => qg x1 260 (qg x1 260 (qlm (mu M 85 x1.toNatClampNeg (((1048576 : Int32) * ((M 85 x1.toNatClampNeg) / (1048576 : Int32))) + (M 77 14))) (fun m2 => qlm (mu m2 77 15 ((m2 77 15) - (1 : Int32))) (fun m3 => K0 a1 m3))))))
set_option maxRecDepth 4000 in
theorem w_X12_lands_22 {g : qG} {k : qK} (n : Nat) (j r : Nat) (hj : q_isLaw j) (hr : q_isLaw r) (o : qOk g 1 zX12_lands k) (K0 : Int32 → qM → qR) (hK0 : ∀ (a1 : Int32) (M : qM), qAE g k zX12_lands (qL j r) 0 [some (.inr (some 77)), some (.inl a1), none] [] (qL j r, M) (K0 a1 M)) (a1 : Int32) (M : qM) : qAE g k zX12_lands (qL j r) 22 [some (.inr (some 77)), some (.inl a1), none] [] (qL j r, M) (f_X12_lands_22 n K0 a1 M) := by
  unfold f_X12_lands_22
  refine qr_aload_n o (q_dm dm_X12_lands 10 rfl) rfl ?_
  refine qr_getr (kf := 19) o cf_X12 (sh77 j r) rfl (Nat.le_of_ble_eq_true rfl) fl_X12_35 (q_dm dm_X12_lands 11 rfl) ?_
  refine qr_aload_n o (q_dm dm_X12_lands 12 rfl) rfl ?_
  refine qr_getf (kf := 15) o cf_X12 (sh77 j r) rfl (Nat.le_of_ble_eq_true rfl) fl_X12_199 (q_dm dm_X12_lands 13 rfl) ?_
  refine qr_iconst o (q_dm dm_X12_lands 14 rfl) ic_1 ?_
  refine qr_isub o (q_dm dm_X12_lands 15 rfl) ?_
  refine qr_iald o (sh86 j r) (q_dm dm_X12_lands 16 rfl) ?_
  refine qr_ldc o (q_dm dm_X12_lands 17 rfl) kc_X12_195 ?_
  refine qr_iremc o (q_dm dm_X12_lands 18 rfl) (by decide) ?_
  refine qr_lt (fun x1 => ?_)
  refine qs_istore_n (L' := [some (.inr (some 77)), some (.inl a1), some (.inl x1)]) o (q_dm dm_X12_lands 19 rfl) (Nat.le_of_ble_eq_true rfl) rfl ?_
  refine qr_aload_n o (q_dm dm_X12_lands 20 rfl) rfl ?_
  refine qr_getr (kf := 18) o cf_X12 (sh77 j r) rfl (Nat.le_of_ble_eq_true rfl) fl_X12_32 (q_dm dm_X12_lands 21 rfl) ?_
  refine qr_iload_n o (q_dm dm_X12_lands 22 rfl) rfl ?_
  refine qr_ldc o (q_dm dm_X12_lands 23 rfl) kc_X12_195 ?_
  refine qr_aload_n o (q_dm dm_X12_lands 24 rfl) rfl ?_
  refine qr_getr (kf := 18) o cf_X12 (sh77 j r) rfl (Nat.le_of_ble_eq_true rfl) fl_X12_32 (q_dm dm_X12_lands 25 rfl) ?_
  refine qr_iload_n o (q_dm dm_X12_lands 26 rfl) rfl ?_
  refine qr_iald o (sh85 j r) (q_dm dm_X12_lands 27 rfl) ?_
  refine qr_ldc o (q_dm dm_X12_lands 28 rfl) kc_X12_195 ?_
  refine qr_idivc o (q_dm dm_X12_lands 29 rfl) (by decide) ?_
  refine qr_imul o (q_dm dm_X12_lands 30 rfl) ?_
  refine qr_aload_n o (q_dm dm_X12_lands 31 rfl) rfl ?_
  refine qr_getf (kf := 14) o cf_X12 (sh77 j r) rfl (Nat.le_of_ble_eq_true rfl) fl_X12_192 (q_dm dm_X12_lands 32 rfl) ?_
  refine qr_iadd o (q_dm dm_X12_lands 33 rfl) ?_
  refine qr_iast o (sh85 j r) (q_dm dm_X12_lands 34 rfl) ?_
  refine qr_letm (fun m2 => ?_)
  refine qr_aload_n o (q_dm dm_X12_lands 35 rfl) rfl ?_
  refine qr_aload_n o (q_dm dm_X12_lands 36 rfl) rfl ?_
  refine qr_getf (kf := 15) o cf_X12 (sh77 j r) rfl (Nat.le_of_ble_eq_true rfl) fl_X12_199 (q_dm dm_X12_lands 37 rfl) ?_
  refine qr_iconst o (q_dm dm_X12_lands 38 rfl) ic_1 ?_
  refine qr_isub o (q_dm dm_X12_lands 39 rfl) ?_
  refine qr_putf (kf := 15) o cf_X12 (sh77 j r) rfl (Nat.le_of_ble_eq_true rfl) fl_X12_199 rfl (by decide +kernel) (q_dm dm_X12_lands 40 rfl) ?_
  refine qr_letm (fun m3 => ?_)
  refine qr_goto (tgt := 0) o (q_dm dm_X12_lands 41 rfl) (by decide) ?_
  exact qr_loc (q_leS (q_leS (q_leN q_le0))) (hK0 a1 m3)

def b_X12_lands_0 (n : Nat) (K0 : Int32 → qM → qR) (a1 : Int32) (M : qM) : qR :=
  qc (f_X12_waitTop n  M) (fun r1 m2 => (if r1 = (11 : Int32) then f_X12_lands_22 n K0 a1 m2 else (if a1 = (0 : Int32) then some (0, m2) else qc (f_X12_waitTop n  m2) (fun r3 m4 => (if r3 = (12 : Int32) then f_X12_lands_22 n K0 a1 m4 else some (0, m4))))))
set_option maxRecDepth 4000 in
theorem wb_X12_lands_0 {g : qG} {k : qK} (n : Nat) (j r : Nat) (hj : q_isLaw j) (hr : q_isLaw r) (o : qOk g 1 zX12_lands k) (K0 : Int32 → qM → qR) (hK0 : ∀ (a1 : Int32) (M : qM), qAE g k zX12_lands (qL j r) 0 [some (.inr (some 77)), some (.inl a1), none] [] (qL j r, M) (K0 a1 M)) (a1 : Int32) (M : qM) : qAE g k zX12_lands (qL j r) 0 [some (.inr (some 77)), some (.inl a1), none] [] (qL j r, M) (b_X12_lands_0 n K0 a1 M) := by
  unfold b_X12_lands_0
  refine qr_aload_n o (q_dm dm_X12_lands 0 rfl) rfl ?_
  refine qr_callv_i (As := []) (S := []) o (a_X12_waitTop g k.2.1 n j r hj hr  M) (Nat.le_of_ble_eq_true rfl) zv_X12_waitTop rfl cf_X12 (sh77 j r) ml_X12_202 (Nat.le_of_ble_eq_true rfl) (q_dm dm_X12_lands 1 rfl) (fun r1 m2 => ?_)
  refine qr_bipush o (q_dm dm_X12_lands 2 rfl) bi_11 ?_
  refine qr_icmp_eq (tgt := 22) o (q_dm dm_X12_lands 3 rfl) (by decide) ?_ ?_
  · exact qr_loc (q_leS (q_leS (q_leN q_le0))) (w_X12_lands_22 n j r hj hr o K0 hK0 a1 m2)
  · refine qr_iload_n o (q_dm dm_X12_lands 4 rfl) rfl ?_
    refine qr_if_eq (tgt := 73) o (q_dm dm_X12_lands 5 rfl) (by decide) ?_ ?_
    · exact qr_vret o rfl (q_dm dm_X12_lands 42 rfl)
    · refine qr_aload_n o (q_dm dm_X12_lands 6 rfl) rfl ?_
      refine qr_callv_i (As := []) (S := []) o (a_X12_waitTop g k.2.1 n j r hj hr  m2) (Nat.le_of_ble_eq_true rfl) zv_X12_waitTop rfl cf_X12 (sh77 j r) ml_X12_202 (Nat.le_of_ble_eq_true rfl) (q_dm dm_X12_lands 7 rfl) (fun r3 m4 => ?_)
      refine qr_bipush o (q_dm dm_X12_lands 8 rfl) bi_12 ?_
      refine qr_icmp_ne (tgt := 73) o (q_dm dm_X12_lands 9 rfl) (by decide) ?_ ?_
      · exact qr_vret o rfl (q_dm dm_X12_lands 42 rfl)
      · exact qr_loc (q_leS (q_leS (q_leN q_le0))) (w_X12_lands_22 n j r hj hr o K0 hK0 a1 m4)

def f_X12_lands_0 (n : Nat) : Nat → Int32 → qM → qR
  | 0, _, _ => none
  | m + 1, a1, M => b_X12_lands_0 n (f_X12_lands_0 n m) a1 M
theorem w_X12_lands_0 {g : qG} {k : qK} (n : Nat) (j r : Nat) (hj : q_isLaw j) (hr : q_isLaw r) (o : qOk g 1 zX12_lands k) : ∀ (m : Nat) (a1 : Int32) (M : qM), qAE g k zX12_lands (qL j r) 0 [some (.inr (some 77)), some (.inl a1), none] [] (qL j r, M) (f_X12_lands_0 n m a1 M) := by
  intro m
  induction m with
  | zero =>
    intro a1 M
    exact qr_none
  | succ m ih =>
    intro a1 M
    exact wb_X12_lands_0 n j r hj hr o (f_X12_lands_0 n m) ih a1 M
def f_X12_lands (n : Nat) (a1 : Int32) (M : qM) : qR :=
  f_X12_lands_0 n n a1 M
set_option maxRecDepth 4000 in
theorem w_X12_lands {g : qG} {k : qK} (n : Nat) (j r : Nat) (hj : q_isLaw j) (hr : q_isLaw r) (o : qOk g 1 zX12_lands k) (a1 : Int32) (M : qM) : qAE g k zX12_lands (qL j r) 0 [some (.inr (some 77)), some (.inl a1), none] [] (qL j r, M) (f_X12_lands n a1 M) := by
  unfold f_X12_lands
  exact qr_loc (q_leS (q_leS (q_leN q_le0))) (w_X12_lands_0 n j r hj hr o n a1 M)

theorem a_X12_lands (g : qG) (l : Launch) (n : Nat) (j r : Nat) (hj : q_isLaw j) (hr : q_isLaw r) (a1 : Int32) (M : qM) : qAM g l 1 zX12_lands (qL j r) [.inr (some 77), .inl a1] (qL j r, M) (f_X12_lands n a1 M) :=
  qAM.of zv_X12_lands.1 (by show 2 ≤ 3; decide) (fun k hk o => w_X12_lands n j r hj hr o a1 M)
def tb_X12_opens : List (Nat × Instr × Nat) := [(0, (.aload_n 0, 1)), (1, (.getfield 196, 3)), (4, (.bipush 6, 2)), (6, (.if_icmp .ne 13, 3)), (9, (.aload_n 0, 1)), (10, (.iconst 5, 1)), (11, (.aload_n 0, 1)), (12, (.getfield 169, 3)), (15, (.invokevirtual 182, 3)), (18, (.ireturn, 1)), (19, (.aload_n 0, 1)), (20, (.aload_n 0, 1)), (21, (.getfield 196, 3)), (24, (.iconst 1, 1)), (25, (.iadd, 1)), (26, (.putfield 196, 3)), (29, (.aload_n 0, 1)), (30, (.getfield 35, 3)), (33, (.aload_n 0, 1)), (34, (.getfield 199, 3)), (37, (.ldc 195, 2)), (39, (.iload_n 1, 1)), (40, (.imul, 1)), (41, (.iastore, 1)), (42, (.aload_n 0, 1)), (43, (.aload_n 0, 1)), (44, (.getfield 199, 3)), (47, (.iconst 1, 1)), (48, (.iadd, 1)), (49, (.putfield 199, 3)), (52, (.aload_n 0, 1)), (53, (.aload_n 0, 1)), (54, (.getfield 169, 3)), (57, (.iconst 1, 1)), (58, (.iadd, 1)), (59, (.putfield 169, 3)), (62, (.iconst 1, 1)), (63, (.ireturn, 1))]
theorem dm_X12_opens : ∀ q ∈ tb_X12_opens, decode zX12_opens.2.1 q.1 = .ok q.2 := by decide +kernel
def f_X12_opens (n : Nat) (a1 : Int32) (M : qM) : qR :=
  (if (M 77 13) = (6 : Int32) then qc (f_X12_wrongAt n (5 : Int32) (M 77 9) M) (fun r5 m6 => qb r5 (some (r5, m6))) else qlm (mu M 77 13 ((M 77 13) + (1 : Int32))) (fun m1 => qg (m1 77 15) 260 (qlm (mu m1 86 (m1 77 15).toNatClampNeg ((1048576 : Int32) * a1)) (fun m2 => qlm (mu m2 77 15 ((m2 77 15) + (1 : Int32))) (fun m3 => qlm (mu m3 77 9 ((m3 77 9) + (1 : Int32))) (fun m4 => some ((1 : Int32), m4)))))))
set_option maxRecDepth 4000 in
theorem w_X12_opens {g : qG} {k : qK} (n : Nat) (j r : Nat) (hj : q_isLaw j) (hr : q_isLaw r) (o : qOk g 1 zX12_opens k) (a1 : Int32) (M : qM) : qAE g k zX12_opens (qL j r) 0 [some (.inr (some 77)), some (.inl a1)] [] (qL j r, M) (f_X12_opens n a1 M) := by
  unfold f_X12_opens
  refine qr_aload_n o (q_dm dm_X12_opens 0 rfl) rfl ?_
  refine qr_getf (kf := 13) o cf_X12 (sh77 j r) rfl (Nat.le_of_ble_eq_true rfl) fl_X12_196 (q_dm dm_X12_opens 1 rfl) ?_
  refine qr_bipush o (q_dm dm_X12_opens 2 rfl) bi_6 ?_
  refine qr_icmp_ne (tgt := 19) o (q_dm dm_X12_opens 3 rfl) (by decide) ?_ ?_
  · refine qr_aload_n o (q_dm dm_X12_opens 10 rfl) rfl ?_
    refine qr_aload_n o (q_dm dm_X12_opens 11 rfl) rfl ?_
    refine qr_getf (kf := 13) o cf_X12 (sh77 j r) rfl (Nat.le_of_ble_eq_true rfl) fl_X12_196 (q_dm dm_X12_opens 12 rfl) ?_
    refine qr_iconst o (q_dm dm_X12_opens 13 rfl) ic_1 ?_
    refine qr_iadd o (q_dm dm_X12_opens 14 rfl) ?_
    refine qr_putf (kf := 13) o cf_X12 (sh77 j r) rfl (Nat.le_of_ble_eq_true rfl) fl_X12_196 rfl (by decide +kernel) (q_dm dm_X12_opens 15 rfl) ?_
    refine qr_letm (fun m1 => ?_)
    refine qr_aload_n o (q_dm dm_X12_opens 16 rfl) rfl ?_
    refine qr_getr (kf := 19) o cf_X12 (sh77 j r) rfl (Nat.le_of_ble_eq_true rfl) fl_X12_35 (q_dm dm_X12_opens 17 rfl) ?_
    refine qr_aload_n o (q_dm dm_X12_opens 18 rfl) rfl ?_
    refine qr_getf (kf := 15) o cf_X12 (sh77 j r) rfl (Nat.le_of_ble_eq_true rfl) fl_X12_199 (q_dm dm_X12_opens 19 rfl) ?_
    refine qr_ldc o (q_dm dm_X12_opens 20 rfl) kc_X12_195 ?_
    refine qr_iload_n o (q_dm dm_X12_opens 21 rfl) rfl ?_
    refine qr_imul o (q_dm dm_X12_opens 22 rfl) ?_
    refine qr_iast o (sh86 j r) (q_dm dm_X12_opens 23 rfl) ?_
    refine qr_letm (fun m2 => ?_)
    refine qr_aload_n o (q_dm dm_X12_opens 24 rfl) rfl ?_
    refine qr_aload_n o (q_dm dm_X12_opens 25 rfl) rfl ?_
    refine qr_getf (kf := 15) o cf_X12 (sh77 j r) rfl (Nat.le_of_ble_eq_true rfl) fl_X12_199 (q_dm dm_X12_opens 26 rfl) ?_
    refine qr_iconst o (q_dm dm_X12_opens 27 rfl) ic_1 ?_
    refine qr_iadd o (q_dm dm_X12_opens 28 rfl) ?_
    refine qr_putf (kf := 15) o cf_X12 (sh77 j r) rfl (Nat.le_of_ble_eq_true rfl) fl_X12_199 rfl (by decide +kernel) (q_dm dm_X12_opens 29 rfl) ?_
    refine qr_letm (fun m3 => ?_)
    refine qr_aload_n o (q_dm dm_X12_opens 30 rfl) rfl ?_
    refine qr_aload_n o (q_dm dm_X12_opens 31 rfl) rfl ?_
    refine qr_getf (kf := 9) o cf_X12 (sh77 j r) rfl (Nat.le_of_ble_eq_true rfl) fl_X12_169 (q_dm dm_X12_opens 32 rfl) ?_
    refine qr_iconst o (q_dm dm_X12_opens 33 rfl) ic_1 ?_
    refine qr_iadd o (q_dm dm_X12_opens 34 rfl) ?_
    refine qr_putf (kf := 9) o cf_X12 (sh77 j r) rfl (Nat.le_of_ble_eq_true rfl) fl_X12_169 rfl (by decide +kernel) (q_dm dm_X12_opens 35 rfl) ?_
    refine qr_letm (fun m4 => ?_)
    refine qr_iconst o (q_dm dm_X12_opens 36 rfl) ic_1 ?_
    exact qr_iret o rfl (by decide) (q_dm dm_X12_opens 37 rfl)
  · refine qr_aload_n o (q_dm dm_X12_opens 4 rfl) rfl ?_
    refine qr_iconst o (q_dm dm_X12_opens 5 rfl) ic_5 ?_
    refine qr_aload_n o (q_dm dm_X12_opens 6 rfl) rfl ?_
    refine qr_getf (kf := 9) o cf_X12 (sh77 j r) rfl (Nat.le_of_ble_eq_true rfl) fl_X12_169 (q_dm dm_X12_opens 7 rfl) ?_
    refine qr_callv_i (As := [.inl (5 : Int32), .inl (M 77 9)]) (S := []) o (a_X12_wrongAt g k.2.1 n j r hj hr (5 : Int32) (M 77 9) M) (Nat.le_of_ble_eq_true rfl) zv_X12_wrongAt rfl cf_X12 (sh77 j r) ml_X12_182 (Nat.le_of_ble_eq_true rfl) (q_dm dm_X12_opens 8 rfl) (fun r5 m6 => ?_)
    exact qr_zret o rfl (q_dm dm_X12_opens 9 rfl)

theorem a_X12_opens (g : qG) (l : Launch) (n : Nat) (j r : Nat) (hj : q_isLaw j) (hr : q_isLaw r) (a1 : Int32) (M : qM) : qAM g l 1 zX12_opens (qL j r) [.inr (some 77), .inl a1] (qL j r, M) (f_X12_opens n a1 M) :=
  qAM.of zv_X12_opens.1 (by show 2 ≤ 2; decide) (fun k hk o => w_X12_opens n j r hj hr o a1 M)
def tb_X12_readsNumber : List (Nat × Instr × Nat) := [(0, (.aload_n 0, 1)), (1, (.getfield 169, 3)), (4, (.istore_n 1, 1)), (5, (.aload_n 0, 1)), (6, (.iconst 0, 1)), (7, (.putfield 185, 3)), (10, (.aload_n 0, 1)), (11, (.invokevirtual 188, 3)), (14, (.ifCond .eq 55, 3)), (17, (.aload_n 0, 1)), (18, (.getfield 169, 3)), (21, (.iload_n 1, 1)), (22, (.iconst 5, 1)), (23, (.iadd, 1)), (24, (.if_icmp .ne 13, 3)), (27, (.aload_n 0, 1)), (28, (.iconst 2, 1)), (29, (.aload_n 0, 1)), (30, (.getfield 169, 3)), (33, (.invokevirtual 182, 3)), (36, (.ireturn, 1)), (37, (.aload_n 0, 1)), (38, (.bipush 10, 2)), (40, (.aload_n 0, 1)), (41, (.getfield 185, 3)), (44, (.imul, 1)), (45, (.aload_n 0, 1)), (46, (.invokevirtual 175, 3)), (49, (.iadd, 1)), (50, (.bipush 48, 2)), (52, (.isub, 1)), (53, (.putfield 185, 3)), (56, (.aload_n 0, 1)), (57, (.aload_n 0, 1)), (58, (.getfield 169, 3)), (61, (.iconst 1, 1)), (62, (.iadd, 1)), (63, (.putfield 169, 3)), (66, (.goto (-56), 3)), (69, (.iconst 1, 1)), (70, (.ireturn, 1))]
theorem dm_X12_readsNumber : ∀ q ∈ tb_X12_readsNumber, decode zX12_readsNumber.2.1 q.1 = .ok q.2 := by decide +kernel
def b_X12_readsNumber_10 (n : Nat) (K10 : Int32 → qM → qR) (a1 : Int32) (M : qM) : qR :=
  qc (f_X12_isDigit n  M) (fun r1 m2 => (if r1 = (0 : Int32) then some ((1 : Int32), m2) else (if (m2 77 9) = (a1 + (5 : Int32)) then qc (f_X12_wrongAt n (2 : Int32) (m2 77 9) m2) (fun r7 m8 => qb r7 (some (r7, m8))) else qc (f_X12_here n  m2) (fun r3 m4 => qlm (mu m4 77 12 ((((10 : Int32) * (m2 77 12)) + r3) - (48 : Int32))) (fun m5 => qlm (mu m5 77 9 ((m5 77 9) + (1 : Int32))) (fun m6 => K10 a1 m6))))))
set_option maxRecDepth 4000 in
theorem wb_X12_readsNumber_10 {g : qG} {k : qK} (n : Nat) (j r : Nat) (hj : q_isLaw j) (hr : q_isLaw r) (o : qOk g 2 zX12_readsNumber k) (K10 : Int32 → qM → qR) (hK10 : ∀ (a1 : Int32) (M : qM), qAE g k zX12_readsNumber (qL j r) 10 [some (.inr (some 77)), some (.inl a1)] [] (qL j r, M) (K10 a1 M)) (a1 : Int32) (M : qM) : qAE g k zX12_readsNumber (qL j r) 10 [some (.inr (some 77)), some (.inl a1)] [] (qL j r, M) (b_X12_readsNumber_10 n K10 a1 M) := by
  unfold b_X12_readsNumber_10
  refine qr_aload_n o (q_dm dm_X12_readsNumber 6 rfl) rfl ?_
  refine qr_callv_i (As := []) (S := []) o (a_X12_isDigit g k.2.1 n j r hj hr  M) (Nat.le_of_ble_eq_true rfl) zv_X12_isDigit rfl cf_X12 (sh77 j r) ml_X12_188 (Nat.le_of_ble_eq_true rfl) (q_dm dm_X12_readsNumber 7 rfl) (fun r1 m2 => ?_)
  refine qr_if_eq (tgt := 69) o (q_dm dm_X12_readsNumber 8 rfl) (by decide) ?_ ?_
  · refine qr_iconst o (q_dm dm_X12_readsNumber 39 rfl) ic_1 ?_
    exact qr_iret o rfl (by decide) (q_dm dm_X12_readsNumber 40 rfl)
  · refine qr_aload_n o (q_dm dm_X12_readsNumber 9 rfl) rfl ?_
    refine qr_getf (kf := 9) o cf_X12 (sh77 j r) rfl (Nat.le_of_ble_eq_true rfl) fl_X12_169 (q_dm dm_X12_readsNumber 10 rfl) ?_
    refine qr_iload_n o (q_dm dm_X12_readsNumber 11 rfl) rfl ?_
    refine qr_iconst o (q_dm dm_X12_readsNumber 12 rfl) ic_5 ?_
    refine qr_iadd o (q_dm dm_X12_readsNumber 13 rfl) ?_
    refine qr_icmp_ne (tgt := 37) o (q_dm dm_X12_readsNumber 14 rfl) (by decide) ?_ ?_
    · refine qr_aload_n o (q_dm dm_X12_readsNumber 21 rfl) rfl ?_
      refine qr_bipush o (q_dm dm_X12_readsNumber 22 rfl) bi_10 ?_
      refine qr_aload_n o (q_dm dm_X12_readsNumber 23 rfl) rfl ?_
      refine qr_getf (kf := 12) o cf_X12 (sh77 j r) rfl (Nat.le_of_ble_eq_true rfl) fl_X12_185 (q_dm dm_X12_readsNumber 24 rfl) ?_
      refine qr_imul o (q_dm dm_X12_readsNumber 25 rfl) ?_
      refine qr_aload_n o (q_dm dm_X12_readsNumber 26 rfl) rfl ?_
      refine qr_callv_i (As := []) (S := [.inl ((10 : Int32) * (m2 77 12)), .inr (some 77)]) o (a_X12_here g k.2.1 n j r hj hr  m2) (Nat.le_of_ble_eq_true rfl) zv_X12_here rfl cf_X12 (sh77 j r) ml_X12_175 (Nat.le_of_ble_eq_true rfl) (q_dm dm_X12_readsNumber 27 rfl) (fun r3 m4 => ?_)
      refine qr_iadd o (q_dm dm_X12_readsNumber 28 rfl) ?_
      refine qr_bipush o (q_dm dm_X12_readsNumber 29 rfl) bi_48 ?_
      refine qr_isub o (q_dm dm_X12_readsNumber 30 rfl) ?_
      refine qr_putf (kf := 12) o cf_X12 (sh77 j r) rfl (Nat.le_of_ble_eq_true rfl) fl_X12_185 rfl (by decide +kernel) (q_dm dm_X12_readsNumber 31 rfl) ?_
      refine qr_letm (fun m5 => ?_)
      refine qr_aload_n o (q_dm dm_X12_readsNumber 32 rfl) rfl ?_
      refine qr_aload_n o (q_dm dm_X12_readsNumber 33 rfl) rfl ?_
      refine qr_getf (kf := 9) o cf_X12 (sh77 j r) rfl (Nat.le_of_ble_eq_true rfl) fl_X12_169 (q_dm dm_X12_readsNumber 34 rfl) ?_
      refine qr_iconst o (q_dm dm_X12_readsNumber 35 rfl) ic_1 ?_
      refine qr_iadd o (q_dm dm_X12_readsNumber 36 rfl) ?_
      refine qr_putf (kf := 9) o cf_X12 (sh77 j r) rfl (Nat.le_of_ble_eq_true rfl) fl_X12_169 rfl (by decide +kernel) (q_dm dm_X12_readsNumber 37 rfl) ?_
      refine qr_letm (fun m6 => ?_)
      refine qr_goto (tgt := 10) o (q_dm dm_X12_readsNumber 38 rfl) (by decide) ?_
      exact qr_loc (q_leS (q_leS q_le0)) (hK10 a1 m6)
    · refine qr_aload_n o (q_dm dm_X12_readsNumber 15 rfl) rfl ?_
      refine qr_iconst o (q_dm dm_X12_readsNumber 16 rfl) ic_2 ?_
      refine qr_aload_n o (q_dm dm_X12_readsNumber 17 rfl) rfl ?_
      refine qr_getf (kf := 9) o cf_X12 (sh77 j r) rfl (Nat.le_of_ble_eq_true rfl) fl_X12_169 (q_dm dm_X12_readsNumber 18 rfl) ?_
      refine qr_callv_i (As := [.inl (2 : Int32), .inl (m2 77 9)]) (S := []) o (a_X12_wrongAt g k.2.1 n j r hj hr (2 : Int32) (m2 77 9) m2) (Nat.le_of_ble_eq_true rfl) zv_X12_wrongAt rfl cf_X12 (sh77 j r) ml_X12_182 (Nat.le_of_ble_eq_true rfl) (q_dm dm_X12_readsNumber 19 rfl) (fun r7 m8 => ?_)
      exact qr_zret o rfl (q_dm dm_X12_readsNumber 20 rfl)

def f_X12_readsNumber_10 (n : Nat) : Nat → Int32 → qM → qR
  | 0, _, _ => none
  | m + 1, a1, M => b_X12_readsNumber_10 n (f_X12_readsNumber_10 n m) a1 M
theorem w_X12_readsNumber_10 {g : qG} {k : qK} (n : Nat) (j r : Nat) (hj : q_isLaw j) (hr : q_isLaw r) (o : qOk g 2 zX12_readsNumber k) : ∀ (m : Nat) (a1 : Int32) (M : qM), qAE g k zX12_readsNumber (qL j r) 10 [some (.inr (some 77)), some (.inl a1)] [] (qL j r, M) (f_X12_readsNumber_10 n m a1 M) := by
  intro m
  induction m with
  | zero =>
    intro a1 M
    exact qr_none
  | succ m ih =>
    intro a1 M
    exact wb_X12_readsNumber_10 n j r hj hr o (f_X12_readsNumber_10 n m) ih a1 M
def f_X12_readsNumber (n : Nat) (M : qM) : qR :=
  ql (M 77 9) (fun x1 => qlm (mu M 77 12 (0 : Int32)) (fun m2 => f_X12_readsNumber_10 n n x1 m2))
set_option maxRecDepth 4000 in
theorem w_X12_readsNumber {g : qG} {k : qK} (n : Nat) (j r : Nat) (hj : q_isLaw j) (hr : q_isLaw r) (o : qOk g 2 zX12_readsNumber k) (M : qM) : qAE g k zX12_readsNumber (qL j r) 0 [some (.inr (some 77)), none] [] (qL j r, M) (f_X12_readsNumber n  M) := by
  unfold f_X12_readsNumber
  refine qr_aload_n o (q_dm dm_X12_readsNumber 0 rfl) rfl ?_
  refine qr_getf (kf := 9) o cf_X12 (sh77 j r) rfl (Nat.le_of_ble_eq_true rfl) fl_X12_169 (q_dm dm_X12_readsNumber 1 rfl) ?_
  refine qr_lt (fun x1 => ?_)
  refine qs_istore_n (L' := [some (.inr (some 77)), some (.inl x1)]) o (q_dm dm_X12_readsNumber 2 rfl) (Nat.le_of_ble_eq_true rfl) rfl ?_
  refine qr_aload_n o (q_dm dm_X12_readsNumber 3 rfl) rfl ?_
  refine qr_iconst o (q_dm dm_X12_readsNumber 4 rfl) ic_0 ?_
  refine qr_putf (kf := 12) o cf_X12 (sh77 j r) rfl (Nat.le_of_ble_eq_true rfl) fl_X12_185 rfl (by decide +kernel) (q_dm dm_X12_readsNumber 5 rfl) ?_
  refine qr_letm (fun m2 => ?_)
  exact qr_loc (q_leS (q_leS q_le0)) (w_X12_readsNumber_10 n j r hj hr o n x1 m2)

theorem a_X12_readsNumber (g : qG) (l : Launch) (n : Nat) (j r : Nat) (hj : q_isLaw j) (hr : q_isLaw r) (M : qM) : qAM g l 2 zX12_readsNumber (qL j r) [.inr (some 77)] (qL j r, M) (f_X12_readsNumber n  M) :=
  qAM.of zv_X12_readsNumber.1 (by show 1 ≤ 2; decide) (fun k hk o => w_X12_readsNumber n j r hj hr o  M)

