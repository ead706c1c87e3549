def tb_X12_daysGo : List (Nat × Instr × Nat) := [(0, (.aload_n 0, 1)), (1, (.iconst 0, 1)), (2, (.putfield 335, 3)), (5, (.aload_n 0, 1)), (6, (.iconst 0, 1)), (7, (.putfield 341, 3)), (10, (.aload_n 0, 1)), (11, (.iconst 0, 1)), (12, (.putfield 338, 3)), (15, (.aload_n 0, 1)), (16, (.bipush (-2), 2)), (18, (.putfield 344, 3)), (21, (.aload_n 0, 1)), (22, (.bipush (-2), 2)), (24, (.putfield 347, 3)), (27, (.aload_n 0, 1)), (28, (.bipush (-2), 2)), (30, (.putfield 350, 3)), (33, (.iconst 0, 1)), (34, (.istore_n 2, 1)), (35, (.iload_n 2, 1)), (36, (.iload_n 1, 1)), (37, (.if_icmp .ge 68, 3)), (40, (.aload_n 0, 1)), (41, (.getfield 7, 3)), (44, (.sipush 313, 3)), (47, (.iaload, 1)), (48, (.sipush 9999, 3)), (51, (.if_icmp .ge 54, 3)), (54, (.iconst 0, 1)), (55, (.istore_n 3, 1)), (56, (.iload_n 3, 1)), (57, (.bipush 8, 2)), (59, (.if_icmp .ge 22, 3)), (62, (.aload_n 0, 1)), (63, (.iload_n 3, 1)), (64, (.invokevirtual 310, 3)), (67, (.ifCond .eq 8, 3)), (70, (.aload_n 0, 1)), (71, (.iload_n 3, 1)), (72, (.invokevirtual 356, 3)), (75, (.iinc 3 1, 3)), (78, (.goto (-22), 3)), (81, (.aload_n 0, 1)), (82, (.getfield 7, 3)), (85, (.sipush 313, 3)), (88, (.aload_n 0, 1)), (89, (.getfield 7, 3)), (92, (.sipush 313, 3)), (95, (.iaload, 1)), (96, (.iconst 1, 1)), (97, (.iadd, 1)), (98, (.iastore, 1)), (99, (.iinc 2 1, 3)), (102, (.goto (-67), 3)), (105, (.return_, 1))]
theorem dm_X12_daysGo : ∀ q ∈ tb_X12_daysGo, decode zX12_daysGo.2.1 q.1 = .ok q.2 := by decide +kernel
def b_X12_daysGo_56 (n : Nat) (K35 : Int32 → Int32 → qM → qR) (K56 : Int32 → Int32 → Int32 → qM → qR) (a1 a2 a3 : Int32) (M : qM) : qR :=
  (if (8 : Int32) ≤ a3 then qlm (mu M 78 313 ((M 78 313) + (1 : Int32))) (fun m1 => ql (a2 + (1 : Int32)) (fun x2 => K35 a1 x2 m1)) else qc (f_X12_isPerson n a3 M) (fun r3 m4 => (if r3 = (0 : Int32) then ql (a3 + (1 : Int32)) (fun x5 => K56 a1 a2 x5 m4) else qc (f_X12_dayOf n a3 m4) (fun _ m6 => ql (a3 + (1 : Int32)) (fun x7 => K56 a1 a2 x7 m6)))))
set_option maxRecDepth 4000 in
theorem wb_X12_daysGo_56 {g : qG} {k : qK} (n : Nat) (j r : Nat) (hj : q_isLaw j) (hr : q_isLaw r) (o : qOk g 6 zX12_daysGo k) (K35 : Int32 → Int32 → qM → qR) (hK35 : ∀ (a1 a2 : Int32) (M : qM), qAE g k zX12_daysGo (qL j r) 35 [some (.inr (some 77)), some (.inl a1), some (.inl a2), none] [] (qL j r, M) (K35 a1 a2 M)) (K56 : Int32 → Int32 → Int32 → qM → qR) (hK56 : ∀ (a1 a2 a3 : Int32) (M : qM), qAE g k zX12_daysGo (qL j r) 56 [some (.inr (some 77)), some (.inl a1), some (.inl a2), some (.inl a3)] [] (qL j r, M) (K56 a1 a2 a3 M)) (a1 a2 a3 : Int32) (M : qM) : qAE g k zX12_daysGo (qL j r) 56 [some (.inr (some 77)), some (.inl a1), some (.inl a2), some (.inl a3)] [] (qL j r, M) (b_X12_daysGo_56 n K35 K56 a1 a2 a3 M) := by
  unfold b_X12_daysGo_56
  refine qr_iload_n o (q_dm dm_X12_daysGo 31 rfl) rfl ?_
  refine qr_bipush o (q_dm dm_X12_daysGo 32 rfl) bi_8 ?_
  refine qr_icmp_ge (tgt := 81) o (q_dm dm_X12_daysGo 33 rfl) (by decide) ?_ ?_
  · refine qr_aload_n o (q_dm dm_X12_daysGo 43 rfl) rfl ?_
    refine qr_getr (kf := 0) o cf_X12 (sh77 j r) rfl (Nat.le_of_ble_eq_true rfl) fl_X12_7 (q_dm dm_X12_daysGo 44 rfl) ?_
    refine qr_sipush o (q_dm dm_X12_daysGo 45 rfl) si_313 ?_
    refine qr_aload_n o (q_dm dm_X12_daysGo 46 rfl) rfl ?_
    refine qr_getr (kf := 0) o cf_X12 (sh77 j r) rfl (Nat.le_of_ble_eq_true rfl) fl_X12_7 (q_dm dm_X12_daysGo 47 rfl) ?_
    refine qr_sipush o (q_dm dm_X12_daysGo 48 rfl) si_313 ?_
    refine qr_iald0 (c := 313) o (sh78 j r) (by decide) (by decide) (q_dm dm_X12_daysGo 49 rfl) ?_
    refine qr_iconst o (q_dm dm_X12_daysGo 50 rfl) ic_1 ?_
    refine qr_iadd o (q_dm dm_X12_daysGo 51 rfl) ?_
    refine qr_iast0 (c := 313) o (sh78 j r) (by decide) (by decide) (q_dm dm_X12_daysGo 52 rfl) ?_
    refine qr_letm (fun m1 => ?_)
    refine qs_iincl2 (L' := fun x2 => [some (.inr (some 77)), some (.inl a1), some (.inl x2), some (.inl a3)]) o (q_dm dm_X12_daysGo 53 rfl) rfl ic_1 (Nat.le_of_ble_eq_true rfl) (fun _ => rfl) (fun x2 => ?_)
    refine qr_goto (tgt := 35) o (q_dm dm_X12_daysGo 54 rfl) (by decide) ?_
    exact qr_loc (q_leS (q_leS (q_leS (q_leN q_le0)))) (hK35 a1 x2 m1)
  · refine qr_aload_n o (q_dm dm_X12_daysGo 34 rfl) rfl ?_
    refine qr_iload_n o (q_dm dm_X12_daysGo 35 rfl) rfl ?_
    refine qr_callv_i (As := [.inl a3]) (S := []) o (a_X12_isPerson g k.2.1 n j r hj hr a3 M) (Nat.le_of_ble_eq_true rfl) zv_X12_isPerson rfl cf_X12 (sh77 j r) ml_X12_310 (Nat.le_of_ble_eq_true rfl) (q_dm dm_X12_daysGo 36 rfl) (fun r3 m4 => ?_)
    refine qr_if_eq (tgt := 75) o (q_dm dm_X12_daysGo 37 rfl) (by decide) ?_ ?_
    · refine qs_iincl2 (L' := fun x5 => [some (.inr (some 77)), some (.inl a1), some (.inl a2), some (.inl x5)]) o (q_dm dm_X12_daysGo 41 rfl) rfl ic_1 (Nat.le_of_ble_eq_true rfl) (fun _ => rfl) (fun x5 => ?_)
      refine qr_goto (tgt := 56) o (q_dm dm_X12_daysGo 42 rfl) (by decide) ?_
      exact qr_loc (q_leS (q_leS (q_leS (q_leS q_le0)))) (hK56 a1 a2 x5 m4)
    · refine qr_aload_n o (q_dm dm_X12_daysGo 38 rfl) rfl ?_
      refine qr_iload_n o (q_dm dm_X12_daysGo 39 rfl) rfl ?_
      refine qr_callv_v (As := [.inl a3]) (S := []) o (a_X12_dayOf g k.2.1 n j r hj hr a3 m4) (Nat.le_of_ble_eq_true rfl) zv_X12_dayOf rfl cf_X12 (sh77 j r) ml_X12_356 (Nat.le_of_ble_eq_true rfl) (q_dm dm_X12_daysGo 40 rfl) (fun _ m6 => ?_)
      refine qs_iincl2 (L' := fun x7 => [some (.inr (some 77)), some (.inl a1), some (.inl a2), some (.inl x7)]) o (q_dm dm_X12_daysGo 41 rfl) rfl ic_1 (Nat.le_of_ble_eq_true rfl) (fun _ => rfl) (fun x7 => ?_)
      refine qr_goto (tgt := 56) o (q_dm dm_X12_daysGo 42 rfl) (by decide) ?_
      exact qr_loc (q_leS (q_leS (q_leS (q_leS q_le0)))) (hK56 a1 a2 x7 m6)

def f_X12_daysGo_56 (n : Nat) (K35 : Int32 → Int32 → qM → qR) : Nat → Int32 → Int32 → Int32 → qM → qR
  | 0, _, _, _, _ => none
  | m + 1, a1, a2, a3, M => b_X12_daysGo_56 n K35 (f_X12_daysGo_56 n K35 m) a1 a2 a3 M
theorem w_X12_daysGo_56 {g : qG} {k : qK} (n : Nat) (j r : Nat) (hj : q_isLaw j) (hr : q_isLaw r) (o : qOk g 6 zX12_daysGo k) (K35 : Int32 → Int32 → qM → qR) (hK35 : ∀ (a1 a2 : Int32) (M : qM), qAE g k zX12_daysGo (qL j r) 35 [some (.inr (some 77)), some (.inl a1), some (.inl a2), none] [] (qL j r, M) (K35 a1 a2 M)) : ∀ (m : Nat) (a1 a2 a3 : Int32) (M : qM), qAE g k zX12_daysGo (qL j r) 56 [some (.inr (some 77)), some (.inl a1), some (.inl a2), some (.inl a3)] [] (qL j r, M) (f_X12_daysGo_56 n K35 m a1 a2 a3 M) := by
  intro m
  induction m with
  | zero =>
    intro a1 a2 a3 M
    exact qr_none
  | succ m ih =>
    intro a1 a2 a3 M
    exact wb_X12_daysGo_56 n j r hj hr o K35 hK35 (f_X12_daysGo_56 n K35 m) ih a1 a2 a3 M
def b_X12_daysGo_35 (n : Nat) (K35 : Int32 → Int32 → qM → qR) (a1 a2 : Int32) (M : qM) : qR :=
  (if a1 ≤ a2 then some (0, M) else (if (9999 : Int32) ≤ (M 78 313) then some (0, M) else f_X12_daysGo_56 n K35 n a1 a2 (0 : Int32) M))
set_option maxRecDepth 4000 in
theorem wb_X12_daysGo_35 {g : qG} {k : qK} (n : Nat) (j r : Nat) (hj : q_isLaw j) (hr : q_isLaw r) (o : qOk g 6 zX12_daysGo k) (K35 : Int32 → Int32 → qM → qR) (hK35 : ∀ (a1 a2 : Int32) (M : qM), qAE g k zX12_daysGo (qL j r) 35 [some (.inr (some 77)), some (.inl a1), some (.inl a2), none] [] (qL j r, M) (K35 a1 a2 M)) (a1 a2 : Int32) (M : qM) : qAE g k zX12_daysGo (qL j r) 35 [some (.inr (some 77)), some (.inl a1), some (.inl a2), none] [] (qL j r, M) (b_X12_daysGo_35 n K35 a1 a2 M) := by
  unfold b_X12_daysGo_35
  refine qr_iload_n o (q_dm dm_X12_daysGo 20 rfl) rfl ?_
  refine qr_iload_n o (q_dm dm_X12_daysGo 21 rfl) rfl ?_
  refine qr_icmp_ge (tgt := 105) o (q_dm dm_X12_daysGo 22 rfl) (by decide) ?_ ?_
  · exact qr_vret o rfl (q_dm dm_X12_daysGo 55 rfl)
  · refine qr_aload_n o (q_dm dm_X12_daysGo 23 rfl) rfl ?_
    refine qr_getr (kf := 0) o cf_X12 (sh77 j r) rfl (Nat.le_of_ble_eq_true rfl) fl_X12_7 (q_dm dm_X12_daysGo 24 rfl) ?_
    refine qr_sipush o (q_dm dm_X12_daysGo 25 rfl) si_313 ?_
    refine qr_iald0 (c := 313) o (sh78 j r) (by decide) (by decide) (q_dm dm_X12_daysGo 26 rfl) ?_
    refine qr_sipush o (q_dm dm_X12_daysGo 27 rfl) si_9999 ?_
    refine qr_icmp_ge (tgt := 105) o (q_dm dm_X12_daysGo 28 rfl) (by decide) ?_ ?_
    · exact qr_vret o rfl (q_dm dm_X12_daysGo 55 rfl)
    · refine qr_iconst o (q_dm dm_X12_daysGo 29 rfl) ic_0 ?_
      refine qs_istore_n (L' := [some (.inr (some 77)), some (.inl a1), some (.inl a2), some (.inl (0 : Int32))]) o (q_dm dm_X12_daysGo 30 rfl) (Nat.le_of_ble_eq_true rfl) rfl ?_
      exact qr_loc (q_leS (q_leS (q_leS (q_leS q_le0)))) (w_X12_daysGo_56 n j r hj hr o K35 hK35 n a1 a2 (0 : Int32) M)

def f_X12_daysGo_35 (n : Nat) : Nat → Int32 → Int32 → qM → qR
  | 0, _, _, _ => none
  | m + 1, a1, a2, M => b_X12_daysGo_35 n (f_X12_daysGo_35 n m) a1 a2 M
theorem w_X12_daysGo_35 {g : qG} {k : qK} (n : Nat) (j r : Nat) (hj : q_isLaw j) (hr : q_isLaw r) (o : qOk g 6 zX12_daysGo k) : ∀ (m : Nat) (a1 a2 : Int32) (M : qM), qAE g k zX12_daysGo (qL j r) 35 [some (.inr (some 77)), some (.inl a1), some (.inl a2), none] [] (qL j r, M) (f_X12_daysGo_35 n m a1 a2 M) := by
  intro m
  induction m with
  | zero =>
    intro a1 a2 M
    exact qr_none
  | succ m ih =>
    intro a1 a2 M
    exact wb_X12_daysGo_35 n j r hj hr o (f_X12_daysGo_35 n m) ih a1 a2 M
def f_X12_daysGo (n : Nat) (a1 : Int32) (M : qM) : qR :=
  qlm (mu M 77 37 (0 : Int32)) (fun m1 => qlm (mu m1 77 38 (0 : Int32)) (fun m2 => qlm (mu m2 77 39 (0 : Int32)) (fun m3 => qlm (mu m3 77 40 (-2 : Int32)) (fun m4 => qlm (mu m4 77 41 (-2 : Int32)) (fun m5 => qlm (mu m5 77 42 (-2 : Int32)) (fun m6 => f_X12_daysGo_35 n n a1 (0 : Int32) m6))))))
set_option maxRecDepth 4000 in
theorem w_X12_daysGo {g : qG} {k : qK} (n : Nat) (j r : Nat) (hj : q_isLaw j) (hr : q_isLaw r) (o : qOk g 6 zX12_daysGo k) (a1 : Int32) (M : qM) : qAE g k zX12_daysGo (qL j r) 0 [some (.inr (some 77)), some (.inl a1), none, none] [] (qL j r, M) (f_X12_daysGo n a1 M) := by
  unfold f_X12_daysGo
  refine qr_aload_n o (q_dm dm_X12_daysGo 0 rfl) rfl ?_
  refine qr_iconst o (q_dm dm_X12_daysGo 1 rfl) ic_0 ?_
  refine qr_putf (kf := 37) o cf_X12 (sh77 j r) rfl (Nat.le_of_ble_eq_true rfl) fl_X12_335 rfl (by decide +kernel) (q_dm dm_X12_daysGo 2 rfl) ?_
  refine qr_letm (fun m1 => ?_)
  refine qr_aload_n o (q_dm dm_X12_daysGo 3 rfl) rfl ?_
  refine qr_iconst o (q_dm dm_X12_daysGo 4 rfl) ic_0 ?_
  refine qr_putf (kf := 38) o cf_X12 (sh77 j r) rfl (Nat.le_of_ble_eq_true rfl) fl_X12_341 rfl (by decide +kernel) (q_dm dm_X12_daysGo 5 rfl) ?_
  refine qr_letm (fun m2 => ?_)
  refine qr_aload_n o (q_dm dm_X12_daysGo 6 rfl) rfl ?_
  refine qr_iconst o (q_dm dm_X12_daysGo 7 rfl) ic_0 ?_
  refine qr_putf (kf := 39) o cf_X12 (sh77 j r) rfl (Nat.le_of_ble_eq_true rfl) fl_X12_338 rfl (by decide +kernel) (q_dm dm_X12_daysGo 8 rfl) ?_
  refine qr_letm (fun m3 => ?_)
  refine qr_aload_n o (q_dm dm_X12_daysGo 9 rfl) rfl ?_
  refine qr_bipush o (q_dm dm_X12_daysGo 10 rfl) bi_m2 ?_
  refine qr_putf (kf := 40) o cf_X12 (sh77 j r) rfl (Nat.le_of_ble_eq_true rfl) fl_X12_344 rfl (by decide +kernel) (q_dm dm_X12_daysGo 11 rfl) ?_
  refine qr_letm (fun m4 => ?_)
  refine qr_aload_n o (q_dm dm_X12_daysGo 12 rfl) rfl ?_
  refine qr_bipush o (q_dm dm_X12_daysGo 13 rfl) bi_m2 ?_
  refine qr_putf (kf := 41) o cf_X12 (sh77 j r) rfl (Nat.le_of_ble_eq_true rfl) fl_X12_347 rfl (by decide +kernel) (q_dm dm_X12_daysGo 14 rfl) ?_
  refine qr_letm (fun m5 => ?_)
  refine qr_aload_n o (q_dm dm_X12_daysGo 15 rfl) rfl ?_
  refine qr_bipush o (q_dm dm_X12_daysGo 16 rfl) bi_m2 ?_
  refine qr_putf (kf := 42) o cf_X12 (sh77 j r) rfl (Nat.le_of_ble_eq_true rfl) fl_X12_350 rfl (by decide +kernel) (q_dm dm_X12_daysGo 17 rfl) ?_
  refine qr_letm (fun m6 => ?_)
  refine qr_iconst o (q_dm dm_X12_daysGo 18 rfl) ic_0 ?_
  refine qs_istore_n (L' := [some (.inr (some 77)), some (.inl a1), some (.inl (0 : Int32)), none]) o (q_dm dm_X12_daysGo 19 rfl) (Nat.le_of_ble_eq_true rfl) rfl ?_
  exact qr_loc (q_leS (q_leS (q_leS (q_leN q_le0)))) (w_X12_daysGo_35 n j r hj hr o n a1 (0 : Int32) m6)

theorem a_X12_daysGo (g : qG) (l : Launch) (n : Nat) (j r : Nat) (hj : q_isLaw j) (hr : q_isLaw r) (a1 : Int32) (M : qM) : qAM g l 6 zX12_daysGo (qL j r) [.inr (some 77), .inl a1] (qL j r, M) (f_X12_daysGo n a1 M) :=
  qAM.of zv_X12_daysGo.1 (by show 2 ≤ 4; decide) (fun k hk o => w_X12_daysGo n j r hj hr o a1 M)
def tb_X12_days : List (Nat × Instr × Nat) := [(0, (.iload_n 1, 1)), (1, (.iconst 1, 1)), (2, (.bipush 60, 2)), (4, (.invokestatic 153, 3)), (7, (.ifCond .ne 5, 3)), (10, (.iconst (-1), 1)), (11, (.ireturn, 1)), (12, (.aload_n 0, 1)), (13, (.iload_n 1, 1)), (14, (.invokevirtual 359, 3)), (17, (.aload_n 0, 1)), (18, (.getfield 341, 3)), (21, (.ireturn, 1))]
theorem dm_X12_days : ∀ q ∈ tb_X12_days, decode zX12_days.2.1 q.1 = .ok q.2 := by decide +kernel
def f_X12_days (n : Nat) (a1 : Int32) (M : qM) : qR :=
  qc (f_X12_in n a1 (1 : Int32) (60 : Int32) M) (fun r1 m2 => (if r1 = (0 : Int32) then some ((-1 : Int32), m2) else qc (f_X12_daysGo n a1 m2) (fun _ m3 => some ((m3 77 38), m3))))
set_option maxRecDepth 4000 in
theorem w_X12_days {g : qG} {k : qK} (n : Nat) (j r : Nat) (hj : q_isLaw j) (hr : q_isLaw r) (o : qOk g 7 zX12_days k) (a1 : Int32) (M : qM) : qAE g k zX12_days (qL j r) 0 [some (.inr (some 77)), some (.inl a1)] [] (qL j r, M) (f_X12_days n a1 M) := by
  unfold f_X12_days
  refine qr_iload_n o (q_dm dm_X12_days 0 rfl) rfl ?_
  refine qr_iconst o (q_dm dm_X12_days 1 rfl) ic_1 ?_
  refine qr_bipush o (q_dm dm_X12_days 2 rfl) bi_60 ?_
  refine qr_calls_i (As := [.inl a1, .inl (1 : Int32), .inl (60 : Int32)]) (S := []) o (a_X12_in g k.2.1 n j r hj hr a1 (1 : Int32) (60 : Int32) M) (Nat.le_of_ble_eq_true rfl) zs_X12_in rfl ml_X12_153 (Nat.le_of_ble_eq_true rfl) (q_dm dm_X12_days 3 rfl) (fun r1 m2 => ?_)
  refine qr_if_ne (tgt := 12) o (q_dm dm_X12_days 4 rfl) (by decide) ?_ ?_
  · refine qr_aload_n o (q_dm dm_X12_days 7 rfl) rfl ?_
    refine qr_iload_n o (q_dm dm_X12_days 8 rfl) rfl ?_
    refine qr_callv_v (As := [.inl a1]) (S := []) o (a_X12_daysGo g k.2.1 n j r hj hr a1 m2) (Nat.le_of_ble_eq_true rfl) zv_X12_daysGo rfl cf_X12 (sh77 j r) ml_X12_359 (Nat.le_of_ble_eq_true rfl) (q_dm dm_X12_days 9 rfl) (fun _ m3 => ?_)
    refine qr_aload_n o (q_dm dm_X12_days 10 rfl) rfl ?_
    refine qr_getf (kf := 38) o cf_X12 (sh77 j r) rfl (Nat.le_of_ble_eq_true rfl) fl_X12_341 (q_dm dm_X12_days 11 rfl) ?_
    exact qr_iret o rfl rfl (q_dm dm_X12_days 12 rfl)
  · refine qr_iconst o (q_dm dm_X12_days 5 rfl) ic_m1 ?_
    exact qr_iret o rfl rfl (q_dm dm_X12_days 6 rfl)

theorem a_X12_days (g : qG) (l : Launch) (n : Nat) (j r : Nat) (hj : q_isLaw j) (hr : q_isLaw r) (a1 : Int32) (M : qM) : qAM g l 7 zX12_days (qL j r) [.inr (some 77), .inl a1] (qL j r, M) (f_X12_days n a1 M) :=
  qAM.of zv_X12_days.1 (by show 2 ≤ 2; decide) (fun k hk o => w_X12_days n j r hj hr o a1 M)
def tb_X12_endsPiece : List (Nat × Instr × Nat) := [(0, (.aload_n 0, 1)), (1, (.invokevirtual 202, 3)), (4, (.bipush 10, 2)), (6, (.if_icmp .ne 33, 3)), (9, (.aload_n 0, 1)), (10, (.bipush 10, 2)), (12, (.iconst 0, 1)), (13, (.invokevirtual 205, 3)), (16, (.aload_n 0, 1)), (17, (.aload_n 0, 1)), (18, (.getfield 199, 3)), (21, (.iconst 1, 1)), (22, (.isub, 1)), (23, (.putfield 199, 3)), (26, (.aload_n 0, 1)), (27, (.aload_n 0, 1)), (28, (.getfield 196, 3)), (31, (.iconst 1, 1)), (32, (.isub, 1)), (33, (.putfield 196, 3)), (36, (.goto (-36), 3)), (39, (.return_, 1))]
theorem dm_X12_endsPiece : ∀ q ∈ tb_X12_endsPiece, decode zX12_endsPiece.2.1 q.1 = .ok q.2 := by decide +kernel
def b_X12_endsPiece_0 (n : Nat) (K0 : qM → qR) (M : qM) : qR :=
  qc (f_X12_waitTop n  M) (fun r1 m2 => (if r1 = (10 : Int32) then qc (f_X12_notes n (10 : Int32) (0 : Int32) m2) (fun _ m3 => qlm (mu m3 77 15 ((m3 77 15) - (1 : Int32))) (fun m4 => qlm (mu m4 77 13 ((m4 77 13) - (1 : Int32))) (fun m5 => K0  m5))) else some (0, m2)))
set_option maxRecDepth 4000 in
theorem wb_X12_endsPiece_0 {g : qG} {k : qK} (n : Nat) (j r : Nat) (hj : q_isLaw j) (hr : q_isLaw r) (o : qOk g 1 zX12_endsPiece k) (K0 : qM → qR) (hK0 : ∀ (M : qM), qAE g k zX12_endsPiece (qL j r) 0 [some (.inr (some 77))] [] (qL j r, M) (K0  M)) (M : qM) : qAE g k zX12_endsPiece (qL j r) 0 [some (.inr (some 77))] [] (qL j r, M) (b_X12_endsPiece_0 n K0  M) := by
  unfold b_X12_endsPiece_0
  refine qr_aload_n o (q_dm dm_X12_endsPiece 0 rfl) rfl ?_
  refine qr_callv_i (As := []) (S := []) o (a_X12_waitTop g k.2.1 n j r hj hr  M) (Nat.le_of_ble_eq_true rfl) zv_X12_waitTop rfl cf_X12 (sh77 j r) ml_X12_202 (Nat.le_of_ble_eq_true rfl) (q_dm dm_X12_endsPiece 1 rfl) (fun r1 m2 => ?_)
  refine qr_bipush o (q_dm dm_X12_endsPiece 2 rfl) bi_10 ?_
  refine qr_icmp_ne (tgt := 39) o (q_dm dm_X12_endsPiece 3 rfl) (by decide) ?_ ?_
  · exact qr_vret o rfl (q_dm dm_X12_endsPiece 21 rfl)
  · refine qr_aload_n o (q_dm dm_X12_endsPiece 4 rfl) rfl ?_
    refine qr_bipush o (q_dm dm_X12_endsPiece 5 rfl) bi_10 ?_
    refine qr_iconst o (q_dm dm_X12_endsPiece 6 rfl) ic_0 ?_
    refine qr_callv_v (As := [.inl (10 : Int32), .inl (0 : Int32)]) (S := []) o (a_X12_notes g k.2.1 n j r hj hr (10 : Int32) (0 : Int32) m2) (Nat.le_of_ble_eq_true rfl) zv_X12_notes rfl cf_X12 (sh77 j r) ml_X12_205 (Nat.le_of_ble_eq_true rfl) (q_dm dm_X12_endsPiece 7 rfl) (fun _ m3 => ?_)
    refine qr_aload_n o (q_dm dm_X12_endsPiece 8 rfl) rfl ?_
    refine qr_aload_n o (q_dm dm_X12_endsPiece 9 rfl) rfl ?_
    refine qr_getf (kf := 15) o cf_X12 (sh77 j r) rfl (Nat.le_of_ble_eq_true rfl) fl_X12_199 (q_dm dm_X12_endsPiece 10 rfl) ?_
    refine qr_iconst o (q_dm dm_X12_endsPiece 11 rfl) ic_1 ?_
    refine qr_isub o (q_dm dm_X12_endsPiece 12 rfl) ?_
    refine qr_putf (kf := 15) o cf_X12 (sh77 j r) rfl (Nat.le_of_ble_eq_true rfl) fl_X12_199 rfl (by decide +kernel) (q_dm dm_X12_endsPiece 13 rfl) ?_
    refine qr_letm (fun m4 => ?_)
    refine qr_aload_n o (q_dm dm_X12_endsPiece 14 rfl) rfl ?_
    refine qr_aload_n o (q_dm dm_X12_endsPiece 15 rfl) rfl ?_
    refine qr_getf (kf := 13) o cf_X12 (sh77 j r) rfl (Nat.le_of_ble_eq_true rfl) fl_X12_196 (q_dm dm_X12_endsPiece 16 rfl) ?_
    refine qr_iconst o (q_dm dm_X12_endsPiece 17 rfl) ic_1 ?_
    refine qr_isub o (q_dm dm_X12_endsPiece 18 rfl) ?_
    refine qr_putf (kf := 13) o cf_X12 (sh77 j r) rfl (Nat.le_of_ble_eq_true rfl) fl_X12_196 rfl (by decide +kernel) (q_dm dm_X12_endsPiece 19 rfl) ?_
    refine qr_letm (fun m5 => ?_)
    refine qr_goto (tgt := 0) o (q_dm dm_X12_endsPiece 20 rfl) (by decide) ?_
    exact qr_loc (q_leS q_le0) (hK0  m5)

def f_X12_endsPiece_0 (n : Nat) : Nat → qM → qR
  | 0, _ => none
  | m + 1, M => b_X12_endsPiece_0 n (f_X12_endsPiece_0 n m)  M
theorem w_X12_endsPiece_0 {g : qG} {k : qK} (n : Nat) (j r : Nat) (hj : q_isLaw j) (hr : q_isLaw r) (o : qOk g 1 zX12_endsPiece k) : ∀ (m : Nat) (M : qM), qAE g k zX12_endsPiece (qL j r) 0 [some (.inr (some 77))] [] (qL j r, M) (f_X12_endsPiece_0 n m  M) := by
  intro m
  induction m with
  | zero =>
    intro  M
    exact qr_none
  | succ m ih =>
    intro  M
    exact wb_X12_endsPiece_0 n j r hj hr o (f_X12_endsPiece_0 n m) ih  M
def f_X12_endsPiece (n : Nat) (M : qM) : qR :=
  f_X12_endsPiece_0 n n  M
set_option maxRecDepth 4000 in
theorem w_X12_endsPiece {g : qG} {k : qK} (n : Nat) (j r : Nat) (hj : q_isLaw j) (hr : q_isLaw r) (o : qOk g 1 zX12_endsPiece k) (M : qM) : qAE g k zX12_endsPiece (qL j r) 0 [some (.inr (some 77))] [] (qL j r, M) (f_X12_endsPiece n  M) := by
  unfold f_X12_endsPiece
  exact qr_loc (q_leS q_le0) (w_X12_endsPiece_0 n j r hj hr o n  M)

theorem a_X12_endsPiece (g : qG) (l : Launch) (n : Nat) (j r : Nat) (hj : q_isLaw j) (hr : q_isLaw r) (M : qM) : qAM g l 1 zX12_endsPiece (qL j r) [.inr (some 77)] (qL j r, M) (f_X12_endsPiece n  M) :=
  qAM.of zv_X12_endsPiece.1 (by show 1 ≤ 1; decide) (fun k hk o => w_X12_endsPiece n j r hj hr o  M)
def tb_X12_here : List (Nat × Instr × Nat) := [(0, (.aload_n 0, 1)), (1, (.getfield 169, 3)), (4, (.aload_n 0, 1)), (5, (.getfield 172, 3)), (8, (.if_icmp .ge 19, 3)), (11, (.aload_n 0, 1)), (12, (.getfield 28, 3)), (15, (.aload_n 0, 1)), (16, (.getfield 169, 3)), (19, (.baload, 1)), (20, (.sipush 255, 3)), (23, (.iand, 1)), (24, (.goto 4, 3)), (27, (.iconst (-1), 1)), (28, (.ireturn, 1))]
theorem dm_X12_here : ∀ q ∈ tb_X12_here, decode zX12_here.2.1 q.1 = .ok q.2 := by decide +kernel
def f_X12_here (n : Nat) (M : qM) : qR :=
  (if (M 77 10) ≤ (M 77 9) then some ((-1 : Int32), M) else qg (M 77 9) 260 (some (((M 84 (M 77 9).toNatClampNeg) &&& (255 : Int32)), M)))
set_option maxRecDepth 4000 in
theorem w_X12_here {g : qG} {k : qK} (n : Nat) (j r : Nat) (hj : q_isLaw j) (hr : q_isLaw r) (o : qOk g 0 zX12_here k) (M : qM) : qAE g k zX12_here (qL j r) 0 [some (.inr (some 77))] [] (qL j r, M) (f_X12_here n  M) := by
  unfold f_X12_here
  refine qr_aload_n o (q_dm dm_X12_here 0 rfl) rfl ?_
  refine qr_getf (kf := 9) o cf_X12 (sh77 j r) rfl (Nat.le_of_ble_eq_true rfl) fl_X12_169 (q_dm dm_X12_here 1 rfl) ?_
  refine qr_aload_n o (q_dm dm_X12_here 2 rfl) rfl ?_
  refine qr_getf (kf := 10) o cf_X12 (sh77 j r) rfl (Nat.le_of_ble_eq_true rfl) fl_X12_172 (q_dm dm_X12_here 3 rfl) ?_
  refine qr_icmp_ge (tgt := 27) o (q_dm dm_X12_here 4 rfl) (by decide) ?_ ?_
  · refine qr_iconst o (q_dm dm_X12_here 13 rfl) ic_m1 ?_
    exact qr_iret o rfl rfl (q_dm dm_X12_here 14 rfl)
  · refine qr_aload_n o (q_dm dm_X12_here 5 rfl) rfl ?_
    refine qr_getr (kf := 7) o cf_X12 (sh77 j r) rfl (Nat.le_of_ble_eq_true rfl) fl_X12_28 (q_dm dm_X12_here 6 rfl) ?_
    refine qr_aload_n o (q_dm dm_X12_here 7 rfl) rfl ?_
    refine qr_getf (kf := 9) o cf_X12 (sh77 j r) rfl (Nat.le_of_ble_eq_true rfl) fl_X12_169 (q_dm dm_X12_here 8 rfl) ?_
    refine qr_bald o (sh84 j r) (q_dm dm_X12_here 9 rfl) ?_
    refine qr_sipush o (q_dm dm_X12_here 10 rfl) si_255 ?_
    refine qr_iand o (q_dm dm_X12_here 11 rfl) ?_
    refine qr_goto (tgt := 28) o (q_dm dm_X12_here 12 rfl) (by decide) ?_
    exact qr_iret o rfl rfl (q_dm dm_X12_here 14 rfl)

theorem a_X12_here (g : qG) (l : Launch) (n : Nat) (j r : Nat) (hj : q_isLaw j) (hr : q_isLaw r) (M : qM) : qAM g l 0 zX12_here (qL j r) [.inr (some 77)] (qL j r, M) (f_X12_here n  M) :=
  qAM.of zv_X12_here.1 (by show 1 ≤ 1; decide) (fun k hk o => w_X12_here n j r hj hr o  M)
def tb_X12_wrongAt : List (Nat × Instr × Nat) := [(0, (.aload_n 0, 1)), (1, (.sipush (-1000), 3)), (4, (.iload_n 1, 1)), (5, (.imul, 1)), (6, (.iload_n 2, 1)), (7, (.isub, 1)), (8, (.putfield 179, 3)), (11, (.iconst 0, 1)), (12, (.ireturn, 1))]
theorem dm_X12_wrongAt : ∀ q ∈ tb_X12_wrongAt, decode zX12_wrongAt.2.1 q.1 = .ok q.2 := by decide +kernel
def f_X12_wrongAt (n : Nat) (a1 a2 : Int32) (M : qM) : qR :=
  qlm (mu M 77 11 (((-1000 : Int32) * a1) - a2)) (fun m1 => some ((0 : Int32), m1))
set_option maxRecDepth 4000 in
theorem w_X12_wrongAt {g : qG} {k : qK} (n : Nat) (j r : Nat) (hj : q_isLaw j) (hr : q_isLaw r) (o : qOk g 0 zX12_wrongAt k) (a1 a2 : Int32) (M : qM) : qAE g k zX12_wrongAt (qL j r) 0 [some (.inr (some 77)), some (.inl a1), some (.inl a2)] [] (qL j r, M) (f_X12_wrongAt n a1 a2 M) := by
  unfold f_X12_wrongAt
  refine qr_aload_n o (q_dm dm_X12_wrongAt 0 rfl) rfl ?_
  refine qr_sipush o (q_dm dm_X12_wrongAt 1 rfl) si_m1000 ?_
  refine qr_iload_n o (q_dm dm_X12_wrongAt 2 rfl) rfl ?_
  refine qr_imul o (q_dm dm_X12_wrongAt 3 rfl) ?_
  refine qr_iload_n o (q_dm dm_X12_wrongAt 4 rfl) rfl ?_
  refine qr_isub o (q_dm dm_X12_wrongAt 5 rfl) ?_
  refine qr_putf (kf := 11) o cf_X12 (sh77 j r) rfl (Nat.le_of_ble_eq_true rfl) fl_X12_179 rfl (by decide +kernel) (q_dm dm_X12_wrongAt 6 rfl) ?_
  refine qr_letm (fun m1 => ?_)
  refine qr_iconst o (q_dm dm_X12_wrongAt 7 rfl) ic_0 ?_
  exact qr_iret o rfl (by decide) (q_dm dm_X12_wrongAt 8 rfl)

theorem a_X12_wrongAt (g : qG) (l : Launch) (n : Nat) (j r : Nat) (hj : q_isLaw j) (hr : q_isLaw r) (a1 a2 : Int32) (M : qM) : qAM g l 0 zX12_wrongAt (qL j r) [.inr (some 77), .inl a1, .inl a2] (qL j r, M) (f_X12_wrongAt n a1 a2 M) :=
  qAM.of zv_X12_wrongAt.1 (by show 3 ≤ 3; decide) (fun k hk o => w_X12_wrongAt n j r hj hr o a1 a2 M)
def tb_X12_endsRound : List (Nat × Instr × Nat) := [(0, (.aload_n 0, 1)), (1, (.aload_n 0, 1)), (2, (.getfield 169, 3)), (5, (.iconst 1, 1)), (6, (.iadd, 1)), (7, (.putfield 169, 3)), (10, (.aload_n 0, 1)), (11, (.invokevirtual 175, 3)), (14, (.bipush 50, 2)), (16, (.bipush 57, 2)), (18, (.invokestatic 153, 3)), (21, (.ifCond .ne 13, 3)), (24, (.aload_n 0, 1)), (25, (.iconst 1, 1)), (26, (.aload_n 0, 1)), (27, (.getfield 169, 3)), (30, (.invokevirtual 182, 3)), (33, (.ireturn, 1)), (34, (.aload_n 0, 1)), (35, (.invokevirtual 175, 3)), (38, (.bipush 48, 2)), (40, (.isub, 1)), (41, (.istore_n 1, 1)), (42, (.aload_n 0, 1)), (43, (.aload_n 0, 1)), (44, (.getfield 169, 3)), (47, (.iconst 1, 1)), (48, (.iadd, 1)), (49, (.putfield 169, 3)), (52, (.aload_n 0, 1)), (53, (.aload_n 0, 1)), (54, (.getfield 323, 3)), (57, (.iconst 1, 1)), (58, (.isub, 1)), (59, (.putfield 323, 3)), (62, (.aload_n 0, 1)), (63, (.getfield 80, 3)), (66, (.aload_n 0, 1)), (67, (.getfield 323, 3)), (70, (.iaload, 1)), (71, (.istore_n 2, 1)), (72, (.aload_n 0, 1)), (73, (.getfield 326, 3)), (76, (.iload_n 2, 1)), (77, (.isub, 1)), (78, (.istore_n 3, 1)), (79, (.iload_n 2, 1)), (80, (.iload_n 3, 1)), (81, (.iload_n 1, 1)), (82, (.imul, 1)), (83, (.iadd, 1)), (84, (.bipush 40, 2)), (86, (.if_icmp .le 19, 3)), (89, (.aload_n 0, 1)), (90, (.bipush 6, 2)), (92, (.aload_n 0, 1)), (93, (.getfield 77, 3)), (96, (.aload_n 0, 1)), (97, (.getfield 323, 3)), (100, (.iaload, 1)), (101, (.invokevirtual 182, 3)), (104, (.ireturn, 1)), (105, (.iload_n 3, 1)), (106, (.istore 4, 2)), (108, (.iload 4, 2)), (110, (.iload_n 3, 1)), (111, (.iload_n 1, 1)), (112, (.imul, 1)), (113, (.if_icmp .ge 49, 3)), (116, (.aload_n 0, 1)), (117, (.getfield 71, 3)), (120, (.iload_n 2, 1)), (121, (.iload 4, 2)), (123, (.iadd, 1)), (124, (.aload_n 0, 1)), (125, (.getfield 71, 3)), (128, (.iload_n 2, 1)), (129, (.iload 4, 2)), (131, (.iadd, 1)), (132, (.iload_n 3, 1)), (133, (.isub, 1)), (134, (.iaload, 1)), (135, (.iastore, 1)), (136, (.aload_n 0, 1)), (137, (.getfield 74, 3)), (140, (.iload_n 2, 1)), (141, (.iload 4, 2)), (143, (.iadd, 1)), (144, (.aload_n 0, 1)), (145, (.getfield 74, 3)), (148, (.iload_n 2, 1)), (149, (.iload 4, 2)), (151, (.iadd, 1)), (152, (.iload_n 3, 1)), (153, (.isub, 1)), (154, (.iaload, 1)), (155, (.iastore, 1)), (156, (.iinc 4 1, 3)), (159, (.goto (-51), 3)), (162, (.aload_n 0, 1)), (163, (.iload_n 2, 1)), (164, (.iload_n 3, 1)), (165, (.iload_n 1, 1)), (166, (.imul, 1)), (167, (.iadd, 1)), (168, (.putfield 326, 3)), (171, (.iconst 1, 1)), (172, (.ireturn, 1))]
theorem dm_X12_endsRound : ∀ q ∈ tb_X12_endsRound, decode zX12_endsRound.2.1 q.1 = .ok q.2 := by decide +kernel
def b_X12_endsRound_108 (n : Nat) (K108 : Int32 → Int32 → Int32 → Int32 → qM → qR) (a1 a2 a3 a4 : Int32) (M : qM) : qR :=
  (if (a3 * a1) ≤ a4 then qlm (mu M 77 35 (a2 + (a3 * a1))) (fun m1 => some ((1 : Int32), m1)) else qg ((a2 + a4) - a3) 40 (qg (a2 + a4) 40 (qlm (mu M 98 (a2 + a4).toNatClampNeg (M 98 ((a2 + a4) - a3).toNatClampNeg)) (fun m2 => qg ((a2 + a4) - a3) 40 (qg (a2 + a4) 40 (qlm (mu m2 99 (a2 + a4).toNatClampNeg (m2 99 ((a2 + a4) - a3).toNatClampNeg)) (fun m3 => ql (a4 + (1 : Int32)) (fun x4 => K108 a1 a2 a3 x4 m3))))))))
set_option maxRecDepth 4000 in
theorem wb_X12_endsRound_108 {g : qG} {k : qK} (n : Nat) (j r : Nat) (hj : q_isLaw j) (hr : q_isLaw r) (o : qOk g 1 zX12_endsRound k) (K108 : Int32 → Int32 → Int32 → Int32 → qM → qR) (hK108 : ∀ (a1 a2 a3 a4 : Int32) (M : qM), qAE g k zX12_endsRound (qL j r) 108 [some (.inr (some 77)), some (.inl a1), some (.inl a2), some (.inl a3), some (.inl a4)] [] (qL j r, M) (K108 a1 a2 a3 a4 M)) (a1 a2 a3 a4 : Int32) (M : qM) : qAE g k zX12_endsRound (qL j r) 108 [some (.inr (some 77)), some (.inl a1), some (.inl a2), some (.inl a3), some (.inl a4)] [] (qL j r, M) (b_X12_endsRound_108 n K108 a1 a2 a3 a4 M) := by
  unfold b_X12_endsRound_108
  refine qr_iload o (q_dm dm_X12_endsRound 64 rfl) rfl ?_
  refine qr_iload_n o (q_dm dm_X12_endsRound 65 rfl) rfl ?_
  refine qr_iload_n o (q_dm dm_X12_endsRound 66 rfl) rfl ?_
  refine qr_imul o (q_dm dm_X12_endsRound 67 rfl) ?_
  refine qr_icmp_ge (tgt := 162) o (q_dm dm_X12_endsRound 68 rfl) (by decide) ?_ ?_
  · refine qr_aload_n o (q_dm dm_X12_endsRound 99 rfl) rfl ?_
    refine qr_iload_n o (q_dm dm_X12_endsRound 100 rfl) rfl ?_
    refine qr_iload_n o (q_dm dm_X12_endsRound 101 rfl) rfl ?_
    refine qr_iload_n o (q_dm dm_X12_endsRound 102 rfl) rfl ?_
    refine qr_imul o (q_dm dm_X12_endsRound 103 rfl) ?_
    refine qr_iadd o (q_dm dm_X12_endsRound 104 rfl) ?_
    refine qr_putf (kf := 35) o cf_X12 (sh77 j r) rfl (Nat.le_of_ble_eq_true rfl) fl_X12_326 rfl (by decide +kernel) (q_dm dm_X12_endsRound 105 rfl) ?_
    refine qr_letm (fun m1 => ?_)
    refine qr_iconst o (q_dm dm_X12_endsRound 106 rfl) ic_1 ?_
    exact qr_iret o rfl (by decide) (q_dm dm_X12_endsRound 107 rfl)
  · refine qr_aload_n o (q_dm dm_X12_endsRound 69 rfl) rfl ?_
    refine qr_getr (kf := 31) o cf_X12 (sh77 j r) rfl (Nat.le_of_ble_eq_true rfl) fl_X12_71 (q_dm dm_X12_endsRound 70 rfl) ?_
    refine qr_iload_n o (q_dm dm_X12_endsRound 71 rfl) rfl ?_
    refine qr_iload o (q_dm dm_X12_endsRound 72 rfl) rfl ?_
    refine qr_iadd o (q_dm dm_X12_endsRound 73 rfl) ?_
    refine qr_aload_n o (q_dm dm_X12_endsRound 74 rfl) rfl ?_
    refine qr_getr (kf := 31) o cf_X12 (sh77 j r) rfl (Nat.le_of_ble_eq_true rfl) fl_X12_71 (q_dm dm_X12_endsRound 75 rfl) ?_
    refine qr_iload_n o (q_dm dm_X12_endsRound 76 rfl) rfl ?_
    refine qr_iload o (q_dm dm_X12_endsRound 77 rfl) rfl ?_
    refine qr_iadd o (q_dm dm_X12_endsRound 78 rfl) ?_
    refine qr_iload_n o (q_dm dm_X12_endsRound 79 rfl) rfl ?_
    refine qr_isub o (q_dm dm_X12_endsRound 80 rfl) ?_
    refine qr_iald o (sh98 j r) (q_dm dm_X12_endsRound 81 rfl) ?_
    refine qr_iast o (sh98 j r) (q_dm dm_X12_endsRound 82 rfl) ?_
    refine qr_letm (fun m2 => ?_)
    refine qr_aload_n o (q_dm dm_X12_endsRound 83 rfl) rfl ?_
    refine qr_getr (kf := 32) o cf_X12 (sh77 j r) rfl (Nat.le_of_ble_eq_true rfl) fl_X12_74 (q_dm dm_X12_endsRound 84 rfl) ?_
    refine qr_iload_n o (q_dm dm_X12_endsRound 85 rfl) rfl ?_
    refine qr_iload o (q_dm dm_X12_endsRound 86 rfl) rfl ?_
    refine qr_iadd o (q_dm dm_X12_endsRound 87 rfl) ?_
    refine qr_aload_n o (q_dm dm_X12_endsRound 88 rfl) rfl ?_
    refine qr_getr (kf := 32) o cf_X12 (sh77 j r) rfl (Nat.le_of_ble_eq_true rfl) fl_X12_74 (q_dm dm_X12_endsRound 89 rfl) ?_
    refine qr_iload_n o (q_dm dm_X12_endsRound 90 rfl) rfl ?_
    refine qr_iload o (q_dm dm_X12_endsRound 91 rfl) rfl ?_
    refine qr_iadd o (q_dm dm_X12_endsRound 92 rfl) ?_
    refine qr_iload_n o (q_dm dm_X12_endsRound 93 rfl) rfl ?_
    refine qr_isub o (q_dm dm_X12_endsRound 94 rfl) ?_
    refine qr_iald o (sh99 j r) (q_dm dm_X12_endsRound 95 rfl) ?_
    refine qr_iast o (sh99 j r) (q_dm dm_X12_endsRound 96 rfl) ?_
    refine qr_letm (fun m3 => ?_)
    refine qs_iincl2 (L' := fun x4 => [some (.inr (some 77)), some (.inl a1), some (.inl a2), some (.inl a3), some (.inl x4)]) o (q_dm dm_X12_endsRound 97 rfl) rfl ic_1 (Nat.le_of_ble_eq_true rfl) (fun _ => rfl) (fun x4 => ?_)
    refine qr_goto (tgt := 108) o (q_dm dm_X12_endsRound 98 rfl) (by decide) ?_
    exact qr_loc (q_leS (q_leS (q_leS (q_leS (q_leS q_le0))))) (hK108 a1 a2 a3 x4 m3)

def f_X12_endsRound_108 (n : Nat) : Nat → Int32 → Int32 → Int32 → Int32 → qM → qR
  | 0, _, _, _, _, _ => none
  | m + 1, a1, a2, a3, a4, M => b_X12_endsRound_108 n (f_X12_endsRound_108 n m) a1 a2 a3 a4 M
theorem w_X12_endsRound_108 {g : qG} {k : qK} (n : Nat) (j r : Nat) (hj : q_isLaw j) (hr : q_isLaw r) (o : qOk g 1 zX12_endsRound k) : ∀ (m : Nat) (a1 a2 a3 a4 : Int32) (M : qM), qAE g k zX12_endsRound (qL j r) 108 [some (.inr (some 77)), some (.inl a1), some (.inl a2), some (.inl a3), some (.inl a4)] [] (qL j r, M) (f_X12_endsRound_108 n m a1 a2 a3 a4 M) := by
  intro m
  induction m with
  | zero =>
    intro a1 a2 a3 a4 M
    exact qr_none
  | succ m ih =>
    intro a1 a2 a3 a4 M
    exact wb_X12_endsRound_108 n j r hj hr o (f_X12_endsRound_108 n m) ih a1 a2 a3 a4 M
def f_X12_endsRound (n : Nat) (M : qM) : qR :=
  qlm (mu M 77 9 ((M 77 9) + (1 : Int32))) (fun m1 => qc (f_X12_here n  m1) (fun r2 m3 => qc (f_X12_in n r2 (50 : Int32) (57 : Int32) m3) (fun r4 m5 => (if r4 = (0 : Int32) then qc (f_X12_wrongAt n (1 : Int32) (m5 77 9) m5) (fun r15 m16 => qb r15 (some (r15, m16))) else qc (f_X12_here n  m5) (fun r6 m7 => ql (r6 - (48 : Int32)) (fun x8 => qlm (mu m7 77 9 ((m7 77 9) + (1 : Int32))) (fun m9 => qlm (mu m9 77 36 ((m9 77 36) - (1 : Int32))) (fun m10 => qg (m10 77 36) 3 (ql (m10 101 (m10 77 36).toNatClampNeg) (fun x11 => ql ((m10 77 35) - x11) (fun x12 => (if (x11 + (x12 * x8)) ≤ (40 : Int32) then f_X12_endsRound_108 n n x8 x11 x12 x12 m10 else qg (m10 77 36) 3 (qc (f_X12_wrongAt n (6 : Int32) (m10 100 (m10 77 36).toNatClampNeg) m10) (fun r13 m14 => qb r13 (some (r13, m14))))))))))))))))
set_option maxRecDepth 4000 in
theorem w_X12_endsRound {g : qG} {k : qK} (n : Nat) (j r : Nat) (hj : q_isLaw j) (hr : q_isLaw r) (o : qOk g 1 zX12_endsRound k) (M : qM) : qAE g k zX12_endsRound (qL j r) 0 [some (.inr (some 77)), none, none, none, none] [] (qL j r, M) (f_X12_endsRound n  M) := by
  unfold f_X12_endsRound
  refine qr_aload_n o (q_dm dm_X12_endsRound 0 rfl) rfl ?_
  refine qr_aload_n o (q_dm dm_X12_endsRound 1 rfl) rfl ?_
  refine qr_getf (kf := 9) o cf_X12 (sh77 j r) rfl (Nat.le_of_ble_eq_true rfl) fl_X12_169 (q_dm dm_X12_endsRound 2 rfl) ?_
  refine qr_iconst o (q_dm dm_X12_endsRound 3 rfl) ic_1 ?_
  refine qr_iadd o (q_dm dm_X12_endsRound 4 rfl) ?_
  refine qr_putf (kf := 9) o cf_X12 (sh77 j r) rfl (Nat.le_of_ble_eq_true rfl) fl_X12_169 rfl (by decide +kernel) (q_dm dm_X12_endsRound 5 rfl) ?_
  refine qr_letm (fun m1 => ?_)
  refine qr_aload_n o (q_dm dm_X12_endsRound 6 rfl) rfl ?_
  refine qr_callv_i (As := []) (S := []) o (a_X12_here g k.2.1 n j r hj hr  m1) (Nat.le_of_ble_eq_true rfl) zv_X12_here rfl cf_X12 (sh77 j r) ml_X12_175 (Nat.le_of_ble_eq_true rfl) (q_dm dm_X12_endsRound 7 rfl) (fun r2 m3 => ?_)
  refine qr_bipush o (q_dm dm_X12_endsRound 8 rfl) bi_50 ?_
  refine qr_bipush o (q_dm dm_X12_endsRound 9 rfl) bi_57 ?_
  refine qr_calls_i (As := [.inl r2, .inl (50 : Int32), .inl (57 : Int32)]) (S := []) o (a_X12_in g k.2.1 n j r hj hr r2 (50 : Int32) (57 : Int32) m3) (Nat.le_of_ble_eq_true rfl) zs_X12_in rfl ml_X12_153 (Nat.le_of_ble_eq_true rfl) (q_dm dm_X12_endsRound 10 rfl) (fun r4 m5 => ?_)
  refine qr_if_ne (tgt := 34) o (q_dm dm_X12_endsRound 11 rfl) (by decide) ?_ ?_
  · refine qr_aload_n o (q_dm dm_X12_endsRound 18 rfl) rfl ?_
    refine qr_callv_i (As := []) (S := []) o (a_X12_here g k.2.1 n j r hj hr  m5) (Nat.le_of_ble_eq_true rfl) zv_X12_here rfl cf_X12 (sh77 j r) ml_X12_175 (Nat.le_of_ble_eq_true rfl) (q_dm dm_X12_endsRound 19 rfl) (fun r6 m7 => ?_)
    refine qr_bipush o (q_dm dm_X12_endsRound 20 rfl) bi_48 ?_
    refine qr_isub o (q_dm dm_X12_endsRound 21 rfl) ?_
    refine qr_lt (fun x8 => ?_)
    refine qs_istore_n (L' := [some (.inr (some 77)), some (.inl x8), none, none, none]) o (q_dm dm_X12_endsRound 22 rfl) (Nat.le_of_ble_eq_true rfl) rfl ?_
    refine qr_aload_n o (q_dm dm_X12_endsRound 23 rfl) rfl ?_
    refine qr_aload_n o (q_dm dm_X12_endsRound 24 rfl) rfl ?_
    refine qr_getf (kf := 9) o cf_X12 (sh77 j r) rfl (Nat.le_of_ble_eq_true rfl) fl_X12_169 (q_dm dm_X12_endsRound 25 rfl) ?_
    refine qr_iconst o (q_dm dm_X12_endsRound 26 rfl) ic_1 ?_
    refine qr_iadd o (q_dm dm_X12_endsRound 27 rfl) ?_
    refine qr_putf (kf := 9) o cf_X12 (sh77 j r) rfl (Nat.le_of_ble_eq_true rfl) fl_X12_169 rfl (by decide +kernel) (q_dm dm_X12_endsRound 28 rfl) ?_
    refine qr_letm (fun m9 => ?_)
    refine qr_aload_n o (q_dm dm_X12_endsRound 29 rfl) rfl ?_
    refine qr_aload_n o (q_dm dm_X12_endsRound 30 rfl) rfl ?_
    refine qr_getf (kf := 36) o cf_X12 (sh77 j r) rfl (Nat.le_of_ble_eq_true rfl) fl_X12_323 (q_dm dm_X12_endsRound 31 rfl) ?_
    refine qr_iconst o (q_dm dm_X12_endsRound 32 rfl) ic_1 ?_
    refine qr_isub o (q_dm dm_X12_endsRound 33 rfl) ?_
    refine qr_putf (kf := 36) o cf_X12 (sh77 j r) rfl (Nat.le_of_ble_eq_true rfl) fl_X12_323 rfl (by decide +kernel) (q_dm dm_X12_endsRound 34 rfl) ?_
    refine qr_letm (fun m10 => ?_)
    refine qr_aload_n o (q_dm dm_X12_endsRound 35 rfl) rfl ?_
    refine qr_getr (kf := 34) o cf_X12 (sh77 j r) rfl (Nat.le_of_ble_eq_true rfl) fl_X12_80 (q_dm dm_X12_endsRound 36 rfl) ?_
    refine qr_aload_n o (q_dm dm_X12_endsRound 37 rfl) rfl ?_
    refine qr_getf (kf := 36) o cf_X12 (sh77 j r) rfl (Nat.le_of_ble_eq_true rfl) fl_X12_323 (q_dm dm_X12_endsRound 38 rfl) ?_
    refine qr_iald o (sh101 j r) (q_dm dm_X12_endsRound 39 rfl) ?_
    refine qr_lt (fun x11 => ?_)
    refine qs_istore_n (L' := [some (.inr (some 77)), some (.inl x8), some (.inl x11), none, none]) o (q_dm dm_X12_endsRound 40 rfl) (Nat.le_of_ble_eq_true rfl) rfl ?_
    refine qr_aload_n o (q_dm dm_X12_endsRound 41 rfl) rfl ?_
    refine qr_getf (kf := 35) o cf_X12 (sh77 j r) rfl (Nat.le_of_ble_eq_true rfl) fl_X12_326 (q_dm dm_X12_endsRound 42 rfl) ?_
    refine qr_iload_n o (q_dm dm_X12_endsRound 43 rfl) rfl ?_
    refine qr_isub o (q_dm dm_X12_endsRound 44 rfl) ?_
    refine qr_lt (fun x12 => ?_)
    refine qs_istore_n (L' := [some (.inr (some 77)), some (.inl x8), some (.inl x11), some (.inl x12), none]) o (q_dm dm_X12_endsRound 45 rfl) (Nat.le_of_ble_eq_true rfl) rfl ?_
    refine qr_iload_n o (q_dm dm_X12_endsRound 46 rfl) rfl ?_
    refine qr_iload_n o (q_dm dm_X12_endsRound 47 rfl) rfl ?_
    refine qr_iload_n o (q_dm dm_X12_endsRound 48 rfl) rfl ?_
    refine qr_imul o (q_dm dm_X12_endsRound 49 rfl) ?_
    refine qr_iadd o (q_dm dm_X12_endsRound 50 rfl) ?_
    refine qr_bipush o (q_dm dm_X12_endsRound 51 rfl) bi_40 ?_
    refine qr_icmp_le (tgt := 105) o (q_dm dm_X12_endsRound 52 rfl) (by decide) ?_ ?_
    · refine qr_iload_n o (q_dm dm_X12_endsRound 62 rfl) rfl ?_
      refine qs_istore (L' := [some (.inr (some 77)), some (.inl x8), some (.inl x11), some (.inl x12), some (.inl x12)]) o (q_dm dm_X12_endsRound 63 rfl) (Nat.le_of_ble_eq_true rfl) rfl ?_
      exact qr_loc (q_leS (q_leS (q_leS (q_leS (q_leS q_le0))))) (w_X12_endsRound_108 n j r hj hr o n x8 x11 x12 x12 m10)
    · refine qr_aload_n o (q_dm dm_X12_endsRound 53 rfl) rfl ?_
      refine qr_bipush o (q_dm dm_X12_endsRound 54 rfl) bi_6 ?_
      refine qr_aload_n o (q_dm dm_X12_endsRound 55 rfl) rfl ?_
      refine qr_getr (kf := 33) o cf_X12 (sh77 j r) rfl (Nat.le_of_ble_eq_true rfl) fl_X12_77 (q_dm dm_X12_endsRound 56 rfl) ?_
      refine qr_aload_n o (q_dm dm_X12_endsRound 57 rfl) rfl ?_
      refine qr_getf (kf := 36) o cf_X12 (sh77 j r) rfl (Nat.le_of_ble_eq_true rfl) fl_X12_323 (q_dm dm_X12_endsRound 58 rfl) ?_
      refine qr_iald o (sh100 j r) (q_dm dm_X12_endsRound 59 rfl) ?_
      refine qr_callv_i (As := [.inl (6 : Int32), .inl (m10 100 (m10 77 36).toNatClampNeg)]) (S := []) o (a_X12_wrongAt g k.2.1 n j r hj hr (6 : Int32) (m10 100 (m10 77 36).toNatClampNeg) m10) (Nat.le_of_ble_eq_true rfl) zv_X12_wrongAt rfl cf_X12 (sh77 j r) ml_X12_182 (Nat.le_of_ble_eq_true rfl) (q_dm dm_X12_endsRound 60 rfl) (fun r13 m14 => ?_)
      exact qr_zret o rfl (q_dm dm_X12_endsRound 61 rfl)
  · refine qr_aload_n o (q_dm dm_X12_endsRound 12 rfl) rfl ?_
    refine qr_iconst o (q_dm dm_X12_endsRound 13 rfl) ic_1 ?_
    refine qr_aload_n o (q_dm dm_X12_endsRound 14 rfl) rfl ?_
    refine qr_getf (kf := 9) o cf_X12 (sh77 j r) rfl (Nat.le_of_ble_eq_true rfl) fl_X12_169 (q_dm dm_X12_endsRound 15 rfl) ?_
    refine qr_callv_i (As := [.inl (1 : Int32), .inl (m5 77 9)]) (S := []) o (a_X12_wrongAt g k.2.1 n j r hj hr (1 : Int32) (m5 77 9) m5) (Nat.le_of_ble_eq_true rfl) zv_X12_wrongAt rfl cf_X12 (sh77 j r) ml_X12_182 (Nat.le_of_ble_eq_true rfl) (q_dm dm_X12_endsRound 16 rfl) (fun r15 m16 => ?_)
    exact qr_zret o rfl (q_dm dm_X12_endsRound 17 rfl)

theorem a_X12_endsRound (g : qG) (l : Launch) (n : Nat) (j r : Nat) (hj : q_isLaw j) (hr : q_isLaw r) (M : qM) : qAM g l 1 zX12_endsRound (qL j r) [.inr (some 77)] (qL j r, M) (f_X12_endsRound n  M) :=
  qAM.of zv_X12_endsRound.1 (by show 1 ≤ 5; decide) (fun k hk o => w_X12_endsRound n j r hj hr o  M)
def tb_X12_factOf : List (Nat × Instr × Nat) := [(0, (.iload_n 0, 1)), (1, (.tableswitch 133 100 121 #[115, 133, 133, 133, 105, 133, 109, 103, 133, 113, 124, 127, 118, 121, 133, 133, 133, 133, 133, 130, 107, 111], 103)), (104, (.iconst 0, 1)), (105, (.ireturn, 1)), (106, (.iconst 1, 1)), (107, (.ireturn, 1)), (108, (.iconst 2, 1)), (109, (.ireturn, 1)), (110, (.iconst 3, 1)), (111, (.ireturn, 1)), (112, (.iconst 4, 1)), (113, (.ireturn, 1)), (114, (.iconst 5, 1)), (115, (.ireturn, 1)), (116, (.bipush 6, 2)), (118, (.ireturn, 1)), (119, (.bipush 7, 2)), (121, (.ireturn, 1)), (122, (.bipush 8, 2)), (124, (.ireturn, 1)), (125, (.bipush 9, 2)), (127, (.ireturn, 1)), (128, (.bipush 10, 2)), (130, (.ireturn, 1)), (131, (.bipush 11, 2)), (133, (.ireturn, 1)), (134, (.iconst (-1), 1)), (135, (.ireturn, 1))]
theorem dm_X12_factOf : ∀ q ∈ tb_X12_factOf, decode zX12_factOf.2.1 q.1 = .ok q.2 := by decide +kernel
def f_X12_factOf (n : Nat) (a0 : Int32) (M : qM) : qR :=
  qsw a0 [((100 : Int32), some ((6 : Int32), M)), ((101 : Int32), some ((-1 : Int32), M)), ((102 : Int32), some ((-1 : Int32), M)), ((103 : Int32), some ((-1 : Int32), M)), ((104 : Int32), some ((1 : Int32), M)), ((105 : Int32), some ((-1 : Int32), M)), ((106 : Int32), some ((3 : Int32), M)), ((107 : Int32), some ((0 : Int32), M)), ((108 : Int32), some ((-1 : Int32), M)), ((109 : Int32), some ((5 : Int32), M)), ((110 : Int32), some ((9 : Int32), M)), ((111 : Int32), some ((10 : Int32), M)), ((112 : Int32), some ((7 : Int32), M)), ((113 : Int32), some ((8 : Int32), M)), ((114 : Int32), some ((-1 : Int32), M)), ((115 : Int32), some ((-1 : Int32), M)), ((116 : Int32), some ((-1 : Int32), M)), ((117 : Int32), some ((-1 : Int32), M)), ((118 : Int32), some ((-1 : Int32), M)), ((119 : Int32), some ((11 : Int32), M)), ((120 : Int32), some ((2 : Int32), M)), ((121 : Int32), some ((4 : Int32), M))] (some ((-1 : Int32), M))
set_option maxRecDepth 4000 in
theorem w_X12_factOf {g : qG} {k : qK} (n : Nat) (j r : Nat) (hj : q_isLaw j) (hr : q_isLaw r) (o : qOk g 0 zX12_factOf k) (a0 : Int32) (M : qM) : qAE g k zX12_factOf (qL j r) 0 [some (.inl a0)] [] (qL j r, M) (f_X12_factOf n a0 M) := by
  unfold f_X12_factOf
  refine qr_iload_n o (q_dm dm_X12_factOf 0 rfl) rfl ?_
  refine qr_tablep (tgt := 134) o (q_dm dm_X12_factOf 1 rfl) (by show (_ : Int) + (22 : Nat) = _; decide) (by decide) ?_ (q_tbc (115) 116 (by decide) rfl (by decide) ?_ (q_tbc (133) 134 (by decide) rfl (by decide) ?_ (q_tbc (133) 134 (by decide) rfl (by decide) ?_ (q_tbc (133) 134 (by decide) rfl (by decide) ?_ (q_tbc (105) 106 (by decide) rfl (by decide) ?_ (q_tbc (133) 134 (by decide) rfl (by decide) ?_ (q_tbc (109) 110 (by decide) rfl (by decide) ?_ (q_tbc (103) 104 (by decide) rfl (by decide) ?_ (q_tbc (133) 134 (by decide) rfl (by decide) ?_ (q_tbc (113) 114 (by decide) rfl (by decide) ?_ (q_tbc (124) 125 (by decide) rfl (by decide) ?_ (q_tbc (127) 128 (by decide) rfl (by decide) ?_ (q_tbc (118) 119 (by decide) rfl (by decide) ?_ (q_tbc (121) 122 (by decide) rfl (by decide) ?_ (q_tbc (133) 134 (by decide) rfl (by decide) ?_ (q_tbc (133) 134 (by decide) rfl (by decide) ?_ (q_tbc (133) 134 (by decide) rfl (by decide) ?_ (q_tbc (133) 134 (by decide) rfl (by decide) ?_ (q_tbc (133) 134 (by decide) rfl (by decide) ?_ (q_tbc (130) 131 (by decide) rfl (by decide) ?_ (q_tbc (107) 108 (by decide) rfl (by decide) ?_ (q_tbc (111) 112 (by decide) rfl (by decide) ?_ q_tbn))))))))))))))))))))))
  · refine qr_iconst o (q_dm dm_X12_factOf 26 rfl) ic_m1 ?_
    exact qr_iret o rfl rfl (q_dm dm_X12_factOf 27 rfl)
  · refine qr_bipush o (q_dm dm_X12_factOf 14 rfl) bi_6 ?_
    exact qr_iret o rfl rfl (q_dm dm_X12_factOf 15 rfl)
  · refine qr_iconst o (q_dm dm_X12_factOf 26 rfl) ic_m1 ?_
    exact qr_iret o rfl rfl (q_dm dm_X12_factOf 27 rfl)
  · refine qr_iconst o (q_dm dm_X12_factOf 26 rfl) ic_m1 ?_
    exact qr_iret o rfl rfl (q_dm dm_X12_factOf 27 rfl)
  · refine qr_iconst o (q_dm dm_X12_factOf 26 rfl) ic_m1 ?_
    exact qr_iret o rfl rfl (q_dm dm_X12_factOf 27 rfl)
  · refine qr_iconst o (q_dm dm_X12_factOf 4 rfl) ic_1 ?_
    exact qr_iret o rfl rfl (q_dm dm_X12_factOf 5 rfl)
  · refine qr_iconst o (q_dm dm_X12_factOf 26 rfl) ic_m1 ?_
    exact qr_iret o rfl rfl (q_dm dm_X12_factOf 27 rfl)
  · refine qr_iconst o (q_dm dm_X12_factOf 8 rfl) ic_3 ?_
    exact qr_iret o rfl rfl (q_dm dm_X12_factOf 9 rfl)
  · refine qr_iconst o (q_dm dm_X12_factOf 2 rfl) ic_0 ?_
    exact qr_iret o rfl rfl (q_dm dm_X12_factOf 3 rfl)
  · refine qr_iconst o (q_dm dm_X12_factOf 26 rfl) ic_m1 ?_
    exact qr_iret o rfl rfl (q_dm dm_X12_factOf 27 rfl)
  · refine qr_iconst o (q_dm dm_X12_factOf 12 rfl) ic_5 ?_
    exact qr_iret o rfl rfl (q_dm dm_X12_factOf 13 rfl)
  · refine qr_bipush o (q_dm dm_X12_factOf 20 rfl) bi_9 ?_
    exact qr_iret o rfl rfl (q_dm dm_X12_factOf 21 rfl)
  · refine qr_bipush o (q_dm dm_X12_factOf 22 rfl) bi_10 ?_
    exact qr_iret o rfl rfl (q_dm dm_X12_factOf 23 rfl)
  · refine qr_bipush o (q_dm dm_X12_factOf 16 rfl) bi_7 ?_
    exact qr_iret o rfl rfl (q_dm dm_X12_factOf 17 rfl)
  · refine qr_bipush o (q_dm dm_X12_factOf 18 rfl) bi_8 ?_
    exact qr_iret o rfl rfl (q_dm dm_X12_factOf 19 rfl)
  · refine qr_iconst o (q_dm dm_X12_factOf 26 rfl) ic_m1 ?_
    exact qr_iret o rfl rfl (q_dm dm_X12_factOf 27 rfl)
  · refine qr_iconst o (q_dm dm_X12_factOf 26 rfl) ic_m1 ?_
    exact qr_iret o rfl rfl (q_dm dm_X12_factOf 27 rfl)
  · refine qr_iconst o (q_dm dm_X12_factOf 26 rfl) ic_m1 ?_
    exact qr_iret o rfl rfl (q_dm dm_X12_factOf 27 rfl)
  · refine qr_iconst o (q_dm dm_X12_factOf 26 rfl) ic_m1 ?_
    exact qr_iret o rfl rfl (q_dm dm_X12_factOf 27 rfl)
  · refine qr_iconst o (q_dm dm_X12_factOf 26 rfl) ic_m1 ?_
    exact qr_iret o rfl rfl (q_dm dm_X12_factOf 27 rfl)
  · refine qr_bipush o (q_dm dm_X12_factOf 24 rfl) bi_11 ?_
    exact qr_iret o rfl rfl (q_dm dm_X12_factOf 25 rfl)
  · refine qr_iconst o (q_dm dm_X12_factOf 6 rfl) ic_2 ?_
    exact qr_iret o rfl rfl (q_dm dm_X12_factOf 7 rfl)
  · refine qr_iconst o (q_dm dm_X12_factOf 10 rfl) ic_4 ?_
    exact qr_iret o rfl rfl (q_dm dm_X12_factOf 11 rfl)

theorem a_X12_factOf (g : qG) (l : Launch) (n : Nat) (j r : Nat) (hj : q_isLaw j) (hr : q_isLaw r) (a0 : Int32) (M : qM) : qAM g l 0 zX12_factOf (qL j r) [.inl a0] (qL j r, M) (f_X12_factOf n a0 M) :=
  qAM.of zs_X12_factOf.1 (by show 1 ≤ 1; decide) (fun k hk o => w_X12_factOf n j r hj hr o a0 M)
def tb_X12_types : List (Nat × Instr × Nat) := [(0, (.iconst 3, 1)), (1, (.istore_n 2, 1)), (2, (.iload_n 2, 1)), (3, (.ifCond .lt 35, 3)), (6, (.aload_n 0, 1)), (7, (.getfield 28, 3)), (10, (.aload_n 0, 1)), (11, (.getfield 162, 3)), (14, (.iload_n 1, 1)), (15, (.bipush 8, 2)), (17, (.iload_n 2, 1)), (18, (.imul, 1)), (19, (.ishr, 1)), (20, (.i2b, 1)), (21, (.bastore, 1)), (22, (.aload_n 0, 1)), (23, (.aload_n 0, 1)), (24, (.getfield 162, 3)), (27, (.iconst 1, 1)), (28, (.iadd, 1)), (29, (.putfield 162, 3)), (32, (.iinc 2 (-1), 3)), (35, (.goto (-33), 3)), (38, (.return_, 1))]
theorem dm_X12_types : ∀ q ∈ tb_X12_types, decode zX12_types.2.1 q.1 = .ok q.2 := by decide +kernel
def b_X12_types_2 (n : Nat) (K2 : Int32 → Int32 → qM → qR) (a1 a2 : Int32) (M : qM) : qR :=
  (if a2 < (0 : Int32) then some (0, M) else qg (M 77 8) 260 (qlm (mu M 84 (M 77 8).toNatClampNeg (vp_nar .byte ((a1 >>> (((8 : Int32) * a2) &&& 31)).toInt8.toInt32))) (fun m1 => qlm (mu m1 77 8 ((m1 77 8) + (1 : Int32))) (fun m2 => ql (a2 + (-1 : Int32)) (fun x3 => K2 a1 x3 m2)))))
set_option maxRecDepth 4000 in
theorem wb_X12_types_2 {g : qG} {k : qK} (n : Nat) (j r : Nat) (hj : q_isLaw j) (hr : q_isLaw r) (o : qOk g 0 zX12_types k) (K2 : Int32 → Int32 → qM → qR) (hK2 : ∀ (a1 a2 : Int32) (M : qM), qAE g k zX12_types (qL j r) 2 [some (.inr (some 77)), some (.inl a1), some (.inl a2)] [] (qL j r, M) (K2 a1 a2 M)) (a1 a2 : Int32) (M : qM) : qAE g k zX12_types (qL j r) 2 [some (.inr (some 77)), some (.inl a1), some (.inl a2)] [] (qL j r, M) (b_X12_types_2 n K2 a1 a2 M) := by
  unfold b_X12_types_2
  refine qr_iload_n o (q_dm dm_X12_types 2 rfl) rfl ?_
  refine qr_if_lt (tgt := 38) o (q_dm dm_X12_types 3 rfl) (by decide) ?_ ?_
  · exact qr_vret o rfl (q_dm dm_X12_types 23 rfl)
  · refine qr_aload_n o (q_dm dm_X12_types 4 rfl) rfl ?_
    refine qr_getr (kf := 7) o cf_X12 (sh77 j r) rfl (Nat.le_of_ble_eq_true rfl) fl_X12_28 (q_dm dm_X12_types 5 rfl) ?_
    refine qr_aload_n o (q_dm dm_X12_types 6 rfl) rfl ?_
    refine qr_getf (kf := 8) o cf_X12 (sh77 j r) rfl (Nat.le_of_ble_eq_true rfl) fl_X12_162 (q_dm dm_X12_types 7 rfl) ?_
    refine qr_iload_n o (q_dm dm_X12_types 8 rfl) rfl ?_
    refine qr_bipush o (q_dm dm_X12_types 9 rfl) bi_8 ?_
    refine qr_iload_n o (q_dm dm_X12_types 10 rfl) rfl ?_
    refine qr_imul o (q_dm dm_X12_types 11 rfl) ?_
    refine qr_ishr o (q_dm dm_X12_types 12 rfl) ?_
    refine qr_i2b o (q_dm dm_X12_types 13 rfl) ?_
    refine qr_bast o (sh84 j r) (q_dm dm_X12_types 14 rfl) ?_
    refine qr_letm (fun m1 => ?_)
    refine qr_aload_n o (q_dm dm_X12_types 15 rfl) rfl ?_
    refine qr_aload_n o (q_dm dm_X12_types 16 rfl) rfl ?_
    refine qr_getf (kf := 8) o cf_X12 (sh77 j r) rfl (Nat.le_of_ble_eq_true rfl) fl_X12_162 (q_dm dm_X12_types 17 rfl) ?_
    refine qr_iconst o (q_dm dm_X12_types 18 rfl) ic_1 ?_
    refine qr_iadd o (q_dm dm_X12_types 19 rfl) ?_
    refine qr_putf (kf := 8) o cf_X12 (sh77 j r) rfl (Nat.le_of_ble_eq_true rfl) fl_X12_162 rfl (by decide +kernel) (q_dm dm_X12_types 20 rfl) ?_
    refine qr_letm (fun m2 => ?_)
    refine qs_iincl2 (L' := fun x3 => [some (.inr (some 77)), some (.inl a1), some (.inl x3)]) o (q_dm dm_X12_types 21 rfl) rfl ic_m1 (Nat.le_of_ble_eq_true rfl) (fun _ => rfl) (fun x3 => ?_)
    refine qr_goto (tgt := 2) o (q_dm dm_X12_types 22 rfl) (by decide) ?_
    exact qr_loc (q_leS (q_leS (q_leS q_le0))) (hK2 a1 x3 m2)

def f_X12_types_2 (n : Nat) : Nat → Int32 → Int32 → qM → qR
  | 0, _, _, _ => none
  | m + 1, a1, a2, M => b_X12_types_2 n (f_X12_types_2 n m) a1 a2 M
theorem w_X12_types_2 {g : qG} {k : qK} (n : Nat) (j r : Nat) (hj : q_isLaw j) (hr : q_isLaw r) (o : qOk g 0 zX12_types k) : ∀ (m : Nat) (a1 a2 : Int32) (M : qM), qAE g k zX12_types (qL j r) 2 [some (.inr (some 77)), some (.inl a1), some (.inl a2)] [] (qL j r, M) (f_X12_types_2 n m a1 a2 M) := by
  intro m
  induction m with
  | zero =>
    intro a1 a2 M
    exact qr_none
  | succ m ih =>
    intro a1 a2 M
    exact wb_X12_types_2 n j r hj hr o (f_X12_types_2 n m) ih a1 a2 M
def f_X12_types (n : Nat) (a1 : Int32) (M : qM) : qR :=
  f_X12_types_2 n n a1 (3 : Int32) M
set_option maxRecDepth 4000 in
theorem w_X12_types {g : qG} {k : qK} (n : Nat) (j r : Nat) (hj : q_isLaw j) (hr : q_isLaw r) (o : qOk g 0 zX12_types k) (a1 : Int32) (M : qM) : qAE g k zX12_types (qL j r) 0 [some (.inr (some 77)), some (.inl a1), none] [] (qL j r, M) (f_X12_types n a1 M) := by
  unfold f_X12_types
  refine qr_iconst o (q_dm dm_X12_types 0 rfl) ic_3 ?_
  refine qs_istore_n (L' := [some (.inr (some 77)), some (.inl a1), some (.inl (3 : Int32))]) o (q_dm dm_X12_types 1 rfl) (Nat.le_of_ble_eq_true rfl) rfl ?_
  exact qr_loc (q_leS (q_leS (q_leS q_le0))) (w_X12_types_2 n j r hj hr o n a1 (3 : Int32) M)

theorem a_X12_types (g : qG) (l : Launch) (n : Nat) (j r : Nat) (hj : q_isLaw j) (hr : q_isLaw r) (a1 : Int32) (M : qM) : qAM g l 0 zX12_types (qL j r) [.inr (some 77), .inl a1] (qL j r, M) (f_X12_types n a1 M) :=
  qAM.of zv_X12_types.1 (by show 2 ≤ 3; decide) (fun k hk o => w_X12_types n j r hj hr o a1 M)
def tb_X12_feed : List (Nat × Instr × Nat) := [(0, (.aload_n 0, 1)), (1, (.getfield 162, 3)), (4, (.bipush 20, 2)), (6, (.iadd, 1)), (7, (.sipush 260, 3)), (10, (.if_icmp .le 5, 3)), (13, (.iconst (-1), 1)), (14, (.ireturn, 1)), (15, (.aload_n 0, 1)), (16, (.iload_n 1, 1)), (17, (.invokevirtual 165, 3)), (20, (.aload_n 0, 1)), (21, (.iload_n 2, 1)), (22, (.invokevirtual 165, 3)), (25, (.aload_n 0, 1)), (26, (.iload_n 3, 1)), (27, (.invokevirtual 165, 3)), (30, (.aload_n 0, 1)), (31, (.iload 4, 2)), (33, (.invokevirtual 165, 3)), (36, (.aload_n 0, 1)), (37, (.iload 5, 2)), (39, (.invokevirtual 165, 3)), (42, (.aload_n 0, 1)), (43, (.getfield 162, 3)), (46, (.ireturn, 1))]
theorem dm_X12_feed : ∀ q ∈ tb_X12_feed, decode zX12_feed.2.1 q.1 = .ok q.2 := by decide +kernel
def f_X12_feed (n : Nat) (a1 a2 a3 a4 a5 : Int32) (M : qM) : qR :=
  (if ((M 77 8) + (20 : Int32)) ≤ (260 : Int32) then qc (f_X12_types n a1 M) (fun _ m1 => qc (f_X12_types n a2 m1) (fun _ m2 => qc (f_X12_types n a3 m2) (fun _ m3 => qc (f_X12_types n a4 m3) (fun _ m4 => qc (f_X12_types n a5 m4) (fun _ m5 => some ((m5 77 8), m5)))))) else some ((-1 : Int32), M))
set_option maxRecDepth 4000 in
theorem w_X12_feed {g : qG} {k : qK} (n : Nat) (j r : Nat) (hj : q_isLaw j) (hr : q_isLaw r) (o : qOk g 1 zX12_feed k) (a1 a2 a3 a4 a5 : Int32) (M : qM) : qAE g k zX12_feed (qL j r) 0 [some (.inr (some 77)), some (.inl a1), some (.inl a2), some (.inl a3), some (.inl a4), some (.inl a5)] [] (qL j r, M) (f_X12_feed n a1 a2 a3 a4 a5 M) := by
  unfold f_X12_feed
  refine qr_aload_n o (q_dm dm_X12_feed 0 rfl) rfl ?_
  refine qr_getf (kf := 8) o cf_X12 (sh77 j r) rfl (Nat.le_of_ble_eq_true rfl) fl_X12_162 (q_dm dm_X12_feed 1 rfl) ?_
  refine qr_bipush o (q_dm dm_X12_feed 2 rfl) bi_20 ?_
  refine qr_iadd o (q_dm dm_X12_feed 3 rfl) ?_
  refine qr_sipush o (q_dm dm_X12_feed 4 rfl) si_260 ?_
  refine qr_icmp_le (tgt := 15) o (q_dm dm_X12_feed 5 rfl) (by decide) ?_ ?_
  · refine qr_aload_n o (q_dm dm_X12_feed 8 rfl) rfl ?_
    refine qr_iload_n o (q_dm dm_X12_feed 9 rfl) rfl ?_
    refine qr_callv_v (As := [.inl a1]) (S := []) o (a_X12_types g k.2.1 n j r hj hr a1 M) (Nat.le_of_ble_eq_true rfl) zv_X12_types rfl cf_X12 (sh77 j r) ml_X12_165 (Nat.le_of_ble_eq_true rfl) (q_dm dm_X12_feed 10 rfl) (fun _ m1 => ?_)
    refine qr_aload_n o (q_dm dm_X12_feed 11 rfl) rfl ?_
    refine qr_iload_n o (q_dm dm_X12_feed 12 rfl) rfl ?_
    refine qr_callv_v (As := [.inl a2]) (S := []) o (a_X12_types g k.2.1 n j r hj hr a2 m1) (Nat.le_of_ble_eq_true rfl) zv_X12_types rfl cf_X12 (sh77 j r) ml_X12_165 (Nat.le_of_ble_eq_true rfl) (q_dm dm_X12_feed 13 rfl) (fun _ m2 => ?_)
    refine qr_aload_n o (q_dm dm_X12_feed 14 rfl) rfl ?_
    refine qr_iload_n o (q_dm dm_X12_feed 15 rfl) rfl ?_
    refine qr_callv_v (As := [.inl a3]) (S := []) o (a_X12_types g k.2.1 n j r hj hr a3 m2) (Nat.le_of_ble_eq_true rfl) zv_X12_types rfl cf_X12 (sh77 j r) ml_X12_165 (Nat.le_of_ble_eq_true rfl) (q_dm dm_X12_feed 16 rfl) (fun _ m3 => ?_)
    refine qr_aload_n o (q_dm dm_X12_feed 17 rfl) rfl ?_
    refine qr_iload o (q_dm dm_X12_feed 18 rfl) rfl ?_
    refine qr_callv_v (As := [.inl a4]) (S := []) o (a_X12_types g k.2.1 n j r hj hr a4 m3) (Nat.le_of_ble_eq_true rfl) zv_X12_types rfl cf_X12 (sh77 j r) ml_X12_165 (Nat.le_of_ble_eq_true rfl) (q_dm dm_X12_feed 19 rfl) (fun _ m4 => ?_)
    refine qr_aload_n o (q_dm dm_X12_feed 20 rfl) rfl ?_
    refine qr_iload o (q_dm dm_X12_feed 21 rfl) rfl ?_
    refine qr_callv_v (As := [.inl a5]) (S := []) o (a_X12_types g k.2.1 n j r hj hr a5 m4) (Nat.le_of_ble_eq_true rfl) zv_X12_types rfl cf_X12 (sh77 j r) ml_X12_165 (Nat.le_of_ble_eq_true rfl) (q_dm dm_X12_feed 22 rfl) (fun _ m5 => ?_)
    refine qr_aload_n o (q_dm dm_X12_feed 23 rfl) rfl ?_
    refine qr_getf (kf := 8) o cf_X12 (sh77 j r) rfl (Nat.le_of_ble_eq_true rfl) fl_X12_162 (q_dm dm_X12_feed 24 rfl) ?_
    exact qr_iret o rfl rfl (q_dm dm_X12_feed 25 rfl)
  · refine qr_iconst o (q_dm dm_X12_feed 6 rfl) ic_m1 ?_
    exact qr_iret o rfl rfl (q_dm dm_X12_feed 7 rfl)

theorem a_X12_feed (g : qG) (l : Launch) (n : Nat) (j r : Nat) (hj : q_isLaw j) (hr : q_isLaw r) (a1 a2 a3 a4 a5 : Int32) (M : qM) : qAM g l 1 zX12_feed (qL j r) [.inr (some 77), .inl a1, .inl a2, .inl a3, .inl a4, .inl a5] (qL j r, M) (f_X12_feed n a1 a2 a3 a4 a5 M) :=
  qAM.of zv_X12_feed.1 (by show 6 ≤ 6; decide) (fun k hk o => w_X12_feed n j r hj hr o a1 a2 a3 a4 a5 M)
def tb_X12_finds : List (Nat × Instr × Nat) := [(0, (.iconst 0, 1)), (1, (.istore_n 3, 1)), (2, (.iload_n 3, 1)), (3, (.bipush 12, 2)), (5, (.if_icmp .ge 49, 3)), (8, (.iload_n 1, 1)), (9, (.iload_n 3, 1)), (10, (.invokestatic 149, 3)), (13, (.ifCond .eq 15, 3)), (16, (.aload_n 0, 1)), (17, (.bipush 12, 2)), (19, (.iload_n 3, 1)), (20, (.invokevirtual 279, 3)), (23, (.ifCond .ne 5, 3)), (26, (.iconst 0, 1)), (27, (.ireturn, 1)), (28, (.iload_n 2, 1)), (29, (.iload_n 3, 1)), (30, (.invokestatic 149, 3)), (33, (.ifCond .eq 15, 3)), (36, (.aload_n 0, 1)), (37, (.bipush 12, 2)), (39, (.iload_n 3, 1)), (40, (.invokevirtual 279, 3)), (43, (.ifCond .eq 5, 3)), (46, (.iconst 0, 1)), (47, (.ireturn, 1)), (48, (.iinc 3 1, 3)), (51, (.goto (-49), 3)), (54, (.iconst 1, 1)), (55, (.ireturn, 1))]
theorem dm_X12_finds : ∀ q ∈ tb_X12_finds, decode zX12_finds.2.1 q.1 = .ok q.2 := by decide +kernel
def f_X12_finds_28 (n : Nat) (K2 : Int32 → Int32 → Int32 → qM → qR) (a1 a2 a3 : Int32) (M : qM) : qR :=
  qc (f_X12_has0 n a2 a3 M) (fun r1 m2 => (if r1 = (0 : Int32) then ql (a3 + (1 : Int32)) (fun x3 => K2 a1 a2 x3 m2) else qc (f_X12_isLike n (12 : Int32) a3 m2) (fun r4 m5 => (if r4 = (0 : Int32) then ql (a3 + (1 : Int32)) (fun x6 => K2 a1 a2 x6 m5) else some ((0 : Int32), m5)))))
set_option maxRecDepth 4000 in
theorem w_X12_finds_28 {g : qG} {k : qK} (n : Nat) (j r : Nat) (hj : q_isLaw j) (hr : q_isLaw r) (o : qOk g 3 zX12_finds k) (K2 : Int32 → Int32 → Int32 → qM → qR) (hK2 : ∀ (a1 a2 a3 : Int32) (M : qM), qAE g k zX12_finds (qL j r) 2 [some (.inr (some 77)), some (.inl a1), some (.inl a2), some (.inl a3)] [] (qL j r, M) (K2 a1 a2 a3 M)) (a1 a2 a3 : Int32) (M : qM) : qAE g k zX12_finds (qL j r) 28 [some (.inr (some 77)), some (.inl a1), some (.inl a2), some (.inl a3)] [] (qL j r, M) (f_X12_finds_28 n K2 a1 a2 a3 M) := by
  unfold f_X12_finds_28
  refine qr_iload_n o (q_dm dm_X12_finds 16 rfl) rfl ?_
  refine qr_iload_n o (q_dm dm_X12_finds 17 rfl) rfl ?_
  refine qr_calls_i (As := [.inl a2, .inl a3]) (S := []) o (a_X12_has0 g k.2.1 n j r hj hr a2 a3 M) (Nat.le_of_ble_eq_true rfl) zs_X12_has0 rfl ml_X12_149 (Nat.le_of_ble_eq_true rfl) (q_dm dm_X12_finds 18 rfl) (fun r1 m2 => ?_)
  refine qr_if_eq (tgt := 48) o (q_dm dm_X12_finds 19 rfl) (by decide) ?_ ?_
  · refine qs_iincl2 (L' := fun x3 => [some (.inr (some 77)), some (.inl a1), some (.inl a2), some (.inl x3)]) o (q_dm dm_X12_finds 27 rfl) rfl ic_1 (Nat.le_of_ble_eq_true rfl) (fun _ => rfl) (fun x3 => ?_)
    refine qr_goto (tgt := 2) o (q_dm dm_X12_finds 28 rfl) (by decide) ?_
    exact qr_loc (q_leS (q_leS (q_leS (q_leS q_le0)))) (hK2 a1 a2 x3 m2)
  · refine qr_aload_n o (q_dm dm_X12_finds 20 rfl) rfl ?_
    refine qr_bipush o (q_dm dm_X12_finds 21 rfl) bi_12 ?_
    refine qr_iload_n o (q_dm dm_X12_finds 22 rfl) rfl ?_
    refine qr_callv_i (As := [.inl (12 : Int32), .inl a3]) (S := []) o (a_X12_isLike g k.2.1 n j r hj hr (12 : Int32) a3 m2) (Nat.le_of_ble_eq_true rfl) zv_X12_isLike rfl cf_X12 (sh77 j r) ml_X12_279 (Nat.le_of_ble_eq_true rfl) (q_dm dm_X12_finds 23 rfl) (fun r4 m5 => ?_)
    refine qr_if_eq (tgt := 48) o (q_dm dm_X12_finds 24 rfl) (by decide) ?_ ?_
    · refine qs_iincl2 (L' := fun x6 => [some (.inr (some 77)), some (.inl a1), some (.inl a2), some (.inl x6)]) o (q_dm dm_X12_finds 27 rfl) rfl ic_1 (Nat.le_of_ble_eq_true rfl) (fun _ => rfl) (fun x6 => ?_)
      refine qr_goto (tgt := 2) o (q_dm dm_X12_finds 28 rfl) (by decide) ?_
      exact qr_loc (q_leS (q_leS (q_leS (q_leS q_le0)))) (hK2 a1 a2 x6 m5)
    · refine qr_iconst o (q_dm dm_X12_finds 25 rfl) ic_0 ?_
      exact qr_iret o rfl (by decide) (q_dm dm_X12_finds 26 rfl)

def b_X12_finds_2 (n : Nat) (K2 : Int32 → Int32 → Int32 → qM → qR) (a1 a2 a3 : Int32) (M : qM) : qR :=
  (if (12 : Int32) ≤ a3 then some ((1 : Int32), M) else qc (f_X12_has0 n a1 a3 M) (fun r1 m2 => (if r1 = (0 : Int32) then f_X12_finds_28 n K2 a1 a2 a3 m2 else qc (f_X12_isLike n (12 : Int32) a3 m2) (fun r3 m4 => (if r3 = (0 : Int32) then some ((0 : Int32), m4) else f_X12_finds_28 n K2 a1 a2 a3 m4)))))
set_option maxRecDepth 4000 in
theorem wb_X12_finds_2 {g : qG} {k : qK} (n : Nat) (j r : Nat) (hj : q_isLaw j) (hr : q_isLaw r) (o : qOk g 3 zX12_finds k) (K2 : Int32 → Int32 → Int32 → qM → qR) (hK2 : ∀ (a1 a2 a3 : Int32) (M : qM), qAE g k zX12_finds (qL j r) 2 [some (.inr (some 77)), some (.inl a1), some (.inl a2), some (.inl a3)] [] (qL j r, M) (K2 a1 a2 a3 M)) (a1 a2 a3 : Int32) (M : qM) : qAE g k zX12_finds (qL j r) 2 [some (.inr (some 77)), some (.inl a1), some (.inl a2), some (.inl a3)] [] (qL j r, M) (b_X12_finds_2 n K2 a1 a2 a3 M) := by
  unfold b_X12_finds_2
  refine qr_iload_n o (q_dm dm_X12_finds 2 rfl) rfl ?_
  refine qr_bipush o (q_dm dm_X12_finds 3 rfl) bi_12 ?_
  refine qr_icmp_ge (tgt := 54) o (q_dm dm_X12_finds 4 rfl) (by decide) ?_ ?_
  · refine qr_iconst o (q_dm dm_X12_finds 29 rfl) ic_1 ?_
    exact qr_iret o rfl (by decide) (q_dm dm_X12_finds 30 rfl)
  · refine qr_iload_n o (q_dm dm_X12_finds 5 rfl) rfl ?_
    refine qr_iload_n o (q_dm dm_X12_finds 6 rfl) rfl ?_
    refine qr_calls_i (As := [.inl a1, .inl a3]) (S := []) o (a_X12_has0 g k.2.1 n j r hj hr a1 a3 M) (Nat.le_of_ble_eq_true rfl) zs_X12_has0 rfl ml_X12_149 (Nat.le_of_ble_eq_true rfl) (q_dm dm_X12_finds 7 rfl) (fun r1 m2 => ?_)
    refine qr_if_eq (tgt := 28) o (q_dm dm_X12_finds 8 rfl) (by decide) ?_ ?_
    · exact qr_loc (q_leS (q_leS (q_leS (q_leS q_le0)))) (w_X12_finds_28 n j r hj hr o K2 hK2 a1 a2 a3 m2)
    · refine qr_aload_n o (q_dm dm_X12_finds 9 rfl) rfl ?_
      refine qr_bipush o (q_dm dm_X12_finds 10 rfl) bi_12 ?_
      refine qr_iload_n o (q_dm dm_X12_finds 11 rfl) rfl ?_
      refine qr_callv_i (As := [.inl (12 : Int32), .inl a3]) (S := []) o (a_X12_isLike g k.2.1 n j r hj hr (12 : Int32) a3 m2) (Nat.le_of_ble_eq_true rfl) zv_X12_isLike rfl cf_X12 (sh77 j r) ml_X12_279 (Nat.le_of_ble_eq_true rfl) (q_dm dm_X12_finds 12 rfl) (fun r3 m4 => ?_)
      refine qr_if_ne (tgt := 28) o (q_dm dm_X12_finds 13 rfl) (by decide) ?_ ?_
      · exact qr_loc (q_leS (q_leS (q_leS (q_leS q_le0)))) (w_X12_finds_28 n j r hj hr o K2 hK2 a1 a2 a3 m4)
      · refine qr_iconst o (q_dm dm_X12_finds 14 rfl) ic_0 ?_
        exact qr_iret o rfl (by decide) (q_dm dm_X12_finds 15 rfl)

def f_X12_finds_2 (n : Nat) : Nat → Int32 → Int32 → Int32 → qM → qR
  | 0, _, _, _, _ => none
  | m + 1, a1, a2, a3, M => b_X12_finds_2 n (f_X12_finds_2 n m) a1 a2 a3 M
theorem w_X12_finds_2 {g : qG} {k : qK} (n : Nat) (j r : Nat) (hj : q_isLaw j) (hr : q_isLaw r) (o : qOk g 3 zX12_finds k) : ∀ (m : Nat) (a1 a2 a3 : Int32) (M : qM), qAE g k zX12_finds (qL j r) 2 [some (.inr (some 77)), some (.inl a1), some (.inl a2), some (.inl a3)] [] (qL j r, M) (f_X12_finds_2 n m a1 a2 a3 M) := by
  intro m
  induction m with
  | zero =>
    intro a1 a2 a3 M
    exact qr_none
  | succ m ih =>
    intro a1 a2 a3 M
    exact wb_X12_finds_2 n j r hj hr o (f_X12_finds_2 n m) ih a1 a2 a3 M
def f_X12_finds (n : Nat) (a1 a2 : Int32) (M : qM) : qR :=
  f_X12_finds_2 n n a1 a2 (0 : Int32) M
set_option maxRecDepth 4000 in
theorem w_X12_finds {g : qG} {k : qK} (n : Nat) (j r : Nat) (hj : q_isLaw j) (hr : q_isLaw r) (o : qOk g 3 zX12_finds k) (a1 a2 : Int32) (M : qM) : qAE g k zX12_finds (qL j r) 0 [some (.inr (some 77)), some (.inl a1), some (.inl a2), none] [] (qL j r, M) (f_X12_finds n a1 a2 M) := by
  unfold f_X12_finds
  refine qr_iconst o (q_dm dm_X12_finds 0 rfl) ic_0 ?_
  refine qs_istore_n (L' := [some (.inr (some 77)), some (.inl a1), some (.inl a2), some (.inl (0 : Int32))]) o (q_dm dm_X12_finds 1 rfl) (Nat.le_of_ble_eq_true rfl) rfl ?_
  exact qr_loc (q_leS (q_leS (q_leS (q_leS q_le0)))) (w_X12_finds_2 n j r hj hr o n a1 a2 (0 : Int32) M)

theorem a_X12_finds (g : qG) (l : Launch) (n : Nat) (j r : Nat) (hj : q_isLaw j) (hr : q_isLaw r) (a1 a2 : Int32) (M : qM) : qAM g l 3 zX12_finds (qL j r) [.inr (some 77), .inl a1, .inl a2] (qL j r, M) (f_X12_finds n a1 a2 M) :=
  qAM.of zv_X12_finds.1 (by show 3 ≤ 4; decide) (fun k hk o => w_X12_finds n j r hj hr o a1 a2 M)
def tb_X12_gainOf : List (Nat × Instr × Nat) := [(0, (.iload_n 0, 1)), (1, (.iload_n 1, 1)), (2, (.invokestatic 149, 3)), (5, (.istore 4, 2)), (7, (.iload_n 0, 1)), (8, (.iconst 1, 1)), (9, (.iload_n 1, 1)), (10, (.isub, 1)), (11, (.invokestatic 149, 3)), (14, (.istore 5, 2)), (16, (.iload 4, 2)), (18, (.ifCond .eq 20, 3)), (21, (.iload 5, 2)), (23, (.ifCond .eq 10, 3)), (26, (.iload_n 2, 1)), (27, (.iconst 2, 1)), (28, (.idiv, 1)), (29, (.ineg, 1)), (30, (.goto 18, 3)), (33, (.iload_n 2, 1)), (34, (.ineg, 1)), (35, (.goto 13, 3)), (38, (.iload 5, 2)), (40, (.ifCond .eq 7, 3)), (43, (.iload_n 3, 1)), (44, (.goto 4, 3)), (47, (.iconst (-1), 1)), (48, (.ireturn, 1))]
theorem dm_X12_gainOf : ∀ q ∈ tb_X12_gainOf, decode zX12_gainOf.2.1 q.1 = .ok q.2 := by decide +kernel
def f_X12_gainOf (n : Nat) (a0 a1 a2 a3 : Int32) (M : qM) : qR :=
  qc (f_X12_has0 n a0 a1 M) (fun r1 m2 => qc (f_X12_has0 n a0 ((1 : Int32) - a1) m2) (fun r3 m4 => (if r1 = (0 : Int32) then (if r3 = (0 : Int32) then some ((-1 : Int32), m4) else some (a3, m4)) else (if r3 = (0 : Int32) then some ((-a2), m4) else some ((-(a2 / (2 : Int32))), m4)))))
set_option maxRecDepth 4000 in
theorem w_X12_gainOf {g : qG} {k : qK} (n : Nat) (j r : Nat) (hj : q_isLaw j) (hr : q_isLaw r) (o : qOk g 1 zX12_gainOf k) (a0 a1 a2 a3 : Int32) (M : qM) : qAE g k zX12_gainOf (qL j r) 0 [some (.inl a0), some (.inl a1), some (.inl a2), some (.inl a3), none, none] [] (qL j r, M) (f_X12_gainOf n a0 a1 a2 a3 M) := by
  unfold f_X12_gainOf
  refine qr_iload_n o (q_dm dm_X12_gainOf 0 rfl) rfl ?_
  refine qr_iload_n o (q_dm dm_X12_gainOf 1 rfl) rfl ?_
  refine qr_calls_i (As := [.inl a0, .inl a1]) (S := []) o (a_X12_has0 g k.2.1 n j r hj hr a0 a1 M) (Nat.le_of_ble_eq_true rfl) zs_X12_has0 rfl ml_X12_149 (Nat.le_of_ble_eq_true rfl) (q_dm dm_X12_gainOf 2 rfl) (fun r1 m2 => ?_)
  refine qs_istore (L' := [some (.inl a0), some (.inl a1), some (.inl a2), some (.inl a3), some (.inl r1), none]) o (q_dm dm_X12_gainOf 3 rfl) (Nat.le_of_ble_eq_true rfl) rfl ?_
  refine qr_iload_n o (q_dm dm_X12_gainOf 4 rfl) rfl ?_
  refine qr_iconst o (q_dm dm_X12_gainOf 5 rfl) ic_1 ?_
  refine qr_iload_n o (q_dm dm_X12_gainOf 6 rfl) rfl ?_
  refine qr_isub o (q_dm dm_X12_gainOf 7 rfl) ?_
  refine qr_calls_i (As := [.inl a0, .inl ((1 : Int32) - a1)]) (S := []) o (a_X12_has0 g k.2.1 n j r hj hr a0 ((1 : Int32) - a1) m2) (Nat.le_of_ble_eq_true rfl) zs_X12_has0 rfl ml_X12_149 (Nat.le_of_ble_eq_true rfl) (q_dm dm_X12_gainOf 8 rfl) (fun r3 m4 => ?_)
  refine qs_istore (L' := [some (.inl a0), some (.inl a1), some (.inl a2), some (.inl a3), some (.inl r1), some (.inl r3)]) o (q_dm dm_X12_gainOf 9 rfl) (Nat.le_of_ble_eq_true rfl) rfl ?_
  refine qr_iload o (q_dm dm_X12_gainOf 10 rfl) rfl ?_
  refine qr_if_eq (tgt := 38) o (q_dm dm_X12_gainOf 11 rfl) (by decide) ?_ ?_
  · refine qr_iload o (q_dm dm_X12_gainOf 22 rfl) rfl ?_
    refine qr_if_eq (tgt := 47) o (q_dm dm_X12_gainOf 23 rfl) (by decide) ?_ ?_
    · refine qr_iconst o (q_dm dm_X12_gainOf 26 rfl) ic_m1 ?_
      exact qr_iret o rfl rfl (q_dm dm_X12_gainOf 27 rfl)
    · refine qr_iload_n o (q_dm dm_X12_gainOf 24 rfl) rfl ?_
      refine qr_goto (tgt := 48) o (q_dm dm_X12_gainOf 25 rfl) (by decide) ?_
      exact qr_iret o rfl rfl (q_dm dm_X12_gainOf 27 rfl)
  · refine qr_iload o (q_dm dm_X12_gainOf 12 rfl) rfl ?_
    refine qr_if_eq (tgt := 33) o (q_dm dm_X12_gainOf 13 rfl) (by decide) ?_ ?_
    · refine qr_iload_n o (q_dm dm_X12_gainOf 19 rfl) rfl ?_
      refine qr_ineg o (q_dm dm_X12_gainOf 20 rfl) ?_
      refine qr_goto (tgt := 48) o (q_dm dm_X12_gainOf 21 rfl) (by decide) ?_
      exact qr_iret o rfl rfl (q_dm dm_X12_gainOf 27 rfl)
    · refine qr_iload_n o (q_dm dm_X12_gainOf 14 rfl) rfl ?_
      refine qr_iconst o (q_dm dm_X12_gainOf 15 rfl) ic_2 ?_
      refine qr_idivc o (q_dm dm_X12_gainOf 16 rfl) (by decide) ?_
      refine qr_ineg o (q_dm dm_X12_gainOf 17 rfl) ?_
      refine qr_goto (tgt := 48) o (q_dm dm_X12_gainOf 18 rfl) (by decide) ?_
      exact qr_iret o rfl rfl (q_dm dm_X12_gainOf 27 rfl)

theorem a_X12_gainOf (g : qG) (l : Launch) (n : Nat) (j r : Nat) (hj : q_isLaw j) (hr : q_isLaw r) (a0 a1 a2 a3 : Int32) (M : qM) : qAM g l 1 zX12_gainOf (qL j r) [.inl a0, .inl a1, .inl a2, .inl a3] (qL j r, M) (f_X12_gainOf n a0 a1 a2 a3 M) :=
  qAM.of zs_X12_gainOf.1 (by show 4 ≤ 6; decide) (fun k hk o => w_X12_gainOf n j r hj hr o a0 a1 a2 a3 M)
def tb_X12_gameState : List (Nat × Instr × Nat) := [(0, (.iconst 4, 1)), (1, (.iload_n 0, 1)), (2, (.imul, 1)), (3, (.iload_n 1, 1)), (4, (.ifCond .eq 7, 3)), (7, (.iconst 2, 1)), (8, (.goto 4, 3)), (11, (.iconst 0, 1)), (12, (.iadd, 1)), (13, (.iload_n 2, 1)), (14, (.ifCond .eq 7, 3)), (17, (.iconst 1, 1)), (18, (.goto 4, 3)), (21, (.iconst 0, 1)), (22, (.iadd, 1)), (23, (.ireturn, 1))]
theorem dm_X12_gameState : ∀ q ∈ tb_X12_gameState, decode zX12_gameState.2.1 q.1 = .ok q.2 := by decide +kernel
def f_X12_gameState_12 (n : Nat) (a2 s0 s1 : Int32) (M : qM) : qR :=
  (if a2 = (0 : Int32) then some (((s0 + s1) + (0 : Int32)), M) else some (((s0 + s1) + (1 : Int32)), M))
set_option maxRecDepth 4000 in
theorem w_X12_gameState_12 {g : qG} {k : qK} (n : Nat) (j r : Nat) (hj : q_isLaw j) (hr : q_isLaw r) (o : qOk g 0 zX12_gameState k) (a2 s0 s1 : Int32) (M : qM) : qAE g k zX12_gameState (qL j r) 12 [none, none, some (.inl a2)] [.inl s1, .inl s0] (qL j r, M) (f_X12_gameState_12 n a2 s0 s1 M) := by
  unfold f_X12_gameState_12
  refine qr_iadd o (q_dm dm_X12_gameState 8 rfl) ?_
  refine qr_iload_n o (q_dm dm_X12_gameState 9 rfl) rfl ?_
  refine qr_if_eq (tgt := 21) o (q_dm dm_X12_gameState 10 rfl) (by decide) ?_ ?_
  · refine qr_iconst o (q_dm dm_X12_gameState 13 rfl) ic_0 ?_
    refine qr_iadd o (q_dm dm_X12_gameState 14 rfl) ?_
    exact qr_iret o rfl rfl (q_dm dm_X12_gameState 15 rfl)
  · refine qr_iconst o (q_dm dm_X12_gameState 11 rfl) ic_1 ?_
    refine qr_goto (tgt := 22) o (q_dm dm_X12_gameState 12 rfl) (by decide) ?_
    refine qr_iadd o (q_dm dm_X12_gameState 14 rfl) ?_
    exact qr_iret o rfl rfl (q_dm dm_X12_gameState 15 rfl)

def f_X12_gameState (n : Nat) (a0 a1 a2 : Int32) (M : qM) : qR :=
  (if a1 = (0 : Int32) then f_X12_gameState_12 n a2 ((4 : Int32) * a0) (0 : Int32) M else f_X12_gameState_12 n a2 ((4 : Int32) * a0) (2 : Int32) M)
set_option maxRecDepth 4000 in
theorem w_X12_gameState {g : qG} {k : qK} (n : Nat) (j r : Nat) (hj : q_isLaw j) (hr : q_isLaw r) (o : qOk g 0 zX12_gameState k) (a0 a1 a2 : Int32) (M : qM) : qAE g k zX12_gameState (qL j r) 0 [some (.inl a0), some (.inl a1), some (.inl a2)] [] (qL j r, M) (f_X12_gameState n a0 a1 a2 M) := by
  unfold f_X12_gameState
  refine qr_iconst o (q_dm dm_X12_gameState 0 rfl) ic_4 ?_
  refine qr_iload_n o (q_dm dm_X12_gameState 1 rfl) rfl ?_
  refine qr_imul o (q_dm dm_X12_gameState 2 rfl) ?_
  refine qr_iload_n o (q_dm dm_X12_gameState 3 rfl) rfl ?_
  refine qr_if_eq (tgt := 11) o (q_dm dm_X12_gameState 4 rfl) (by decide) ?_ ?_
  · refine qr_iconst o (q_dm dm_X12_gameState 7 rfl) ic_0 ?_
    exact qr_loc (q_leN (q_leN (q_leS q_le0))) (w_X12_gameState_12 n j r hj hr o a2 ((4 : Int32) * a0) (0 : Int32) M)
  · refine qr_iconst o (q_dm dm_X12_gameState 5 rfl) ic_2 ?_
    refine qr_goto (tgt := 12) o (q_dm dm_X12_gameState 6 rfl) (by decide) ?_
    exact qr_loc (q_leN (q_leN (q_leS q_le0))) (w_X12_gameState_12 n j r hj hr o a2 ((4 : Int32) * a0) (2 : Int32) M)

theorem a_X12_gameState (g : qG) (l : Launch) (n : Nat) (j r : Nat) (hj : q_isLaw j) (hr : q_isLaw r) (a0 a1 a2 : Int32) (M : qM) : qAM g l 0 zX12_gameState (qL j r) [.inl a0, .inl a1, .inl a2] (qL j r, M) (f_X12_gameState n a0 a1 a2 M) :=
  qAM.of zs_X12_gameState.1 (by show 3 ≤ 3; decide) (fun k hk o => w_X12_gameState n j r hj hr o a0 a1 a2 M)
def tb_X12_heapIn : List (Nat × Instr × Nat) := [(0, (.iload_n 1, 1)), (1, (.ifCond .ne 10, 3)), (4, (.iload_n 0, 1)), (5, (.bipush 64, 2)), (7, (.idiv, 1)), (8, (.goto 22, 3)), (11, (.iload_n 1, 1)), (12, (.iconst 1, 1)), (13, (.if_icmp .ne 13, 3)), (16, (.iload_n 0, 1)), (17, (.bipush 8, 2)), (19, (.idiv, 1)), (20, (.bipush 8, 2)), (22, (.irem, 1)), (23, (.goto 7, 3)), (26, (.iload_n 0, 1)), (27, (.bipush 8, 2)), (29, (.irem, 1)), (30, (.ireturn, 1))]
theorem dm_X12_heapIn : ∀ q ∈ tb_X12_heapIn, decode zX12_heapIn.2.1 q.1 = .ok q.2 := by decide +kernel
def f_X12_heapIn (n : Nat) (a0 a1 : Int32) (M : qM) : qR :=
  (if a1 = (0 : Int32) then some ((a0 / (64 : Int32)), M) else (if a1 = (1 : Int32) then some (((a0 / (8 : Int32)) - (a0 / (8 : Int32)) / (8 : Int32) * (8 : Int32)), M) else some ((a0 - a0 / (8 : Int32) * (8 : Int32)), M)))
set_option maxRecDepth 4000 in
theorem w_X12_heapIn {g : qG} {k : qK} (n : Nat) (j r : Nat) (hj : q_isLaw j) (hr : q_isLaw r) (o : qOk g 0 zX12_heapIn k) (a0 a1 : Int32) (M : qM) : qAE g k zX12_heapIn (qL j r) 0 [some (.inl a0), some (.inl a1)] [] (qL j r, M) (f_X12_heapIn n a0 a1 M) := by
  unfold f_X12_heapIn
  refine qr_iload_n o (q_dm dm_X12_heapIn 0 rfl) rfl ?_
  refine qr_if_ne (tgt := 11) o (q_dm dm_X12_heapIn 1 rfl) (by decide) ?_ ?_
  · refine qr_iload_n o (q_dm dm_X12_heapIn 6 rfl) rfl ?_
    refine qr_iconst o (q_dm dm_X12_heapIn 7 rfl) ic_1 ?_
    refine qr_icmp_ne (tgt := 26) o (q_dm dm_X12_heapIn 8 rfl) (by decide) ?_ ?_
    · refine qr_iload_n o (q_dm dm_X12_heapIn 15 rfl) rfl ?_
      refine qr_bipush o (q_dm dm_X12_heapIn 16 rfl) bi_8 ?_
      refine qr_iremc o (q_dm dm_X12_heapIn 17 rfl) (by decide) ?_
      exact qr_iret o rfl rfl (q_dm dm_X12_heapIn 18 rfl)
    · refine qr_iload_n o (q_dm dm_X12_heapIn 9 rfl) rfl ?_
      refine qr_bipush o (q_dm dm_X12_heapIn 10 rfl) bi_8 ?_
      refine qr_idivc o (q_dm dm_X12_heapIn 11 rfl) (by decide) ?_
      refine qr_bipush o (q_dm dm_X12_heapIn 12 rfl) bi_8 ?_
      refine qr_iremc o (q_dm dm_X12_heapIn 13 rfl) (by decide) ?_
      refine qr_goto (tgt := 30) o (q_dm dm_X12_heapIn 14 rfl) (by decide) ?_
      exact qr_iret o rfl rfl (q_dm dm_X12_heapIn 18 rfl)
  · refine qr_iload_n o (q_dm dm_X12_heapIn 2 rfl) rfl ?_
    refine qr_bipush o (q_dm dm_X12_heapIn 3 rfl) bi_64 ?_
    refine qr_idivc o (q_dm dm_X12_heapIn 4 rfl) (by decide) ?_
    refine qr_goto (tgt := 30) o (q_dm dm_X12_heapIn 5 rfl) (by decide) ?_
    exact qr_iret o rfl rfl (q_dm dm_X12_heapIn 18 rfl)

theorem a_X12_heapIn (g : qG) (l : Launch) (n : Nat) (j r : Nat) (hj : q_isLaw j) (hr : q_isLaw r) (a0 a1 : Int32) (M : qM) : qAM g l 0 zX12_heapIn (qL j r) [.inl a0, .inl a1] (qL j r, M) (f_X12_heapIn n a0 a1 M) :=
  qAM.of zs_X12_heapIn.1 (by show 2 ≤ 2; decide) (fun k hk o => w_X12_heapIn n j r hj hr o a0 a1 M)
def tb_X12_heapUnit : List (Nat × Instr × Nat) := [(0, (.iload_n 0, 1)), (1, (.ifCond .ne 8, 3)), (4, (.bipush 64, 2)), (6, (.goto 14, 3)), (9, (.iload_n 0, 1)), (10, (.iconst 1, 1)), (11, (.if_icmp .ne 8, 3)), (14, (.bipush 8, 2)), (16, (.goto 4, 3)), (19, (.iconst 1, 1)), (20, (.ireturn, 1))]
theorem dm_X12_heapUnit : ∀ q ∈ tb_X12_heapUnit, decode zX12_heapUnit.2.1 q.1 = .ok q.2 := by decide +kernel
def f_X12_heapUnit (n : Nat) (a0 : Int32) (M : qM) : qR :=
  (if a0 = (0 : Int32) then some ((64 : Int32), M) else (if a0 = (1 : Int32) then some ((8 : Int32), M) else some ((1 : Int32), M)))
set_option maxRecDepth 4000 in
theorem w_X12_heapUnit {g : qG} {k : qK} (n : Nat) (j r : Nat) (hj : q_isLaw j) (hr : q_isLaw r) (o : qOk g 0 zX12_heapUnit k) (a0 : Int32) (M : qM) : qAE g k zX12_heapUnit (qL j r) 0 [some (.inl a0)] [] (qL j r, M) (f_X12_heapUnit n a0 M) := by
  unfold f_X12_heapUnit
  refine qr_iload_n o (q_dm dm_X12_heapUnit 0 rfl) rfl ?_
  refine qr_if_ne (tgt := 9) o (q_dm dm_X12_heapUnit 1 rfl) (by decide) ?_ ?_
  · refine qr_iload_n o (q_dm dm_X12_heapUnit 4 rfl) rfl ?_
    refine qr_iconst o (q_dm dm_X12_heapUnit 5 rfl) ic_1 ?_
    refine qr_icmp_ne (tgt := 19) o (q_dm dm_X12_heapUnit 6 rfl) (by decide) ?_ ?_
    · refine qr_iconst o (q_dm dm_X12_heapUnit 9 rfl) ic_1 ?_
      exact qr_iret o rfl rfl (q_dm dm_X12_heapUnit 10 rfl)
    · refine qr_bipush o (q_dm dm_X12_heapUnit 7 rfl) bi_8 ?_
      refine qr_goto (tgt := 20) o (q_dm dm_X12_heapUnit 8 rfl) (by decide) ?_
      exact qr_iret o rfl rfl (q_dm dm_X12_heapUnit 10 rfl)
  · refine qr_bipush o (q_dm dm_X12_heapUnit 2 rfl) bi_64 ?_
    refine qr_goto (tgt := 20) o (q_dm dm_X12_heapUnit 3 rfl) (by decide) ?_
    exact qr_iret o rfl rfl (q_dm dm_X12_heapUnit 10 rfl)

theorem a_X12_heapUnit (g : qG) (l : Launch) (n : Nat) (j r : Nat) (hj : q_isLaw j) (hr : q_isLaw r) (a0 : Int32) (M : qM) : qAM g l 0 zX12_heapUnit (qL j r) [.inl a0] (qL j r, M) (f_X12_heapUnit n a0 M) :=
  qAM.of zs_X12_heapUnit.1 (by show 1 ≤ 1; decide) (fun k hk o => w_X12_heapUnit n j r hj hr o a0 M)
def tb_X12_wins : List (Nat × Instr × Nat) := [(0, (.aload_n 0, 1)), (1, (.getfield 139, 3)), (4, (.iload_n 2, 1)), (5, (.ifCond .eq 16, 3)), (8, (.iload_n 1, 1)), (9, (.iload 5, 2)), (11, (.iload 4, 2)), (13, (.invokestatic 472, 3)), (16, (.imul, 1)), (17, (.isub, 1)), (18, (.goto 4, 3)), (21, (.iload_n 1, 1)), (22, (.iload_n 3, 1)), (23, (.iconst 1, 1)), (24, (.invokestatic 475, 3)), (27, (.baload, 1)), (28, (.ifCond .ne 7, 3)), (31, (.iconst 1, 1)), (32, (.goto 4, 3)), (35, (.iconst 0, 1)), (36, (.ireturn, 1))]
theorem dm_X12_wins : ∀ q ∈ tb_X12_wins, decode zX12_wins.2.1 q.1 = .ok q.2 := by decide +kernel
def f_X12_wins_22 (n : Nat) (a3 s1 : Int32) (M : qM) : qR :=
  qc (f_X12_gameState n s1 a3 (1 : Int32) M) (fun r1 m2 => qg r1 2048 ((if (m2 120 r1.toNatClampNeg) = (0 : Int32) then some ((1 : Int32), m2) else some ((0 : Int32), m2))))
set_option maxRecDepth 4000 in
theorem w_X12_wins_22 {g : qG} {k : qK} (n : Nat) (j r : Nat) (hj : q_isLaw j) (hr : q_isLaw r) (o : qOk g 1 zX12_wins k) (a3 s1 : Int32) (M : qM) : qAE g k zX12_wins (qL j r) 22 [none, none, none, some (.inl a3), none, none] [.inl s1, .inr (some 120)] (qL j r, M) (f_X12_wins_22 n a3 s1 M) := by
  unfold f_X12_wins_22
  refine qr_iload_n o (q_dm dm_X12_wins 12 rfl) rfl ?_
  refine qr_iconst o (q_dm dm_X12_wins 13 rfl) ic_1 ?_
  refine qr_calls_i (As := [.inl s1, .inl a3, .inl (1 : Int32)]) (S := [.inr (some 120)]) o (a_X12_gameState g k.2.1 n j r hj hr s1 a3 (1 : Int32) M) (Nat.le_of_ble_eq_true rfl) zs_X12_gameState rfl ml_X12_475 (Nat.le_of_ble_eq_true rfl) (q_dm dm_X12_wins 14 rfl) (fun r1 m2 => ?_)
  refine qr_zald o (sh120 j r) (q_dm dm_X12_wins 15 rfl) ?_
  refine qr_if_ne (tgt := 35) o (q_dm dm_X12_wins 16 rfl) (by decide) ?_ ?_
  · refine qr_iconst o (q_dm dm_X12_wins 19 rfl) ic_0 ?_
    exact qr_iret o rfl (by decide) (q_dm dm_X12_wins 20 rfl)
  · refine qr_iconst o (q_dm dm_X12_wins 17 rfl) ic_1 ?_
    refine qr_goto (tgt := 36) o (q_dm dm_X12_wins 18 rfl) (by decide) ?_
    exact qr_iret o rfl (by decide) (q_dm dm_X12_wins 20 rfl)

def f_X12_wins (n : Nat) (a1 a2 a3 a4 a5 : Int32) (M : qM) : qR :=
  (if a2 = (0 : Int32) then f_X12_wins_22 n a3 a1 M else qc (f_X12_heapUnit n a4 M) (fun r1 m2 => f_X12_wins_22 n a3 (a1 - (a5 * r1)) m2))
set_option maxRecDepth 4000 in
theorem w_X12_wins {g : qG} {k : qK} (n : Nat) (j r : Nat) (hj : q_isLaw j) (hr : q_isLaw r) (o : qOk g 1 zX12_wins k) (a1 a2 a3 a4 a5 : Int32) (M : qM) : qAE g k zX12_wins (qL j r) 0 [some (.inr (some 77)), some (.inl a1), some (.inl a2), some (.inl a3), some (.inl a4), some (.inl a5)] [] (qL j r, M) (f_X12_wins n a1 a2 a3 a4 a5 M) := by
  unfold f_X12_wins
  refine qr_aload_n o (q_dm dm_X12_wins 0 rfl) rfl ?_
  refine qr_getr (kf := 66) o cf_X12 (sh77 j r) rfl (Nat.le_of_ble_eq_true rfl) fl_X12_139 (q_dm dm_X12_wins 1 rfl) ?_
  refine qr_iload_n o (q_dm dm_X12_wins 2 rfl) rfl ?_
  refine qr_if_eq (tgt := 21) o (q_dm dm_X12_wins 3 rfl) (by decide) ?_ ?_
  · refine qr_iload_n o (q_dm dm_X12_wins 11 rfl) rfl ?_
    exact qr_loc (q_leN (q_leN (q_leN (q_leS (q_leN (q_leN q_le0)))))) (w_X12_wins_22 n j r hj hr o a3 a1 M)
  · refine qr_iload_n o (q_dm dm_X12_wins 4 rfl) rfl ?_
    refine qr_iload o (q_dm dm_X12_wins 5 rfl) rfl ?_
    refine qr_iload o (q_dm dm_X12_wins 6 rfl) rfl ?_
    refine qr_calls_i (As := [.inl a4]) (S := [.inl a5, .inl a1, .inr (some 120)]) o (a_X12_heapUnit g k.2.1 n j r hj hr a4 M) (Nat.le_of_ble_eq_true rfl) zs_X12_heapUnit rfl ml_X12_472 (Nat.le_of_ble_eq_true rfl) (q_dm dm_X12_wins 7 rfl) (fun r1 m2 => ?_)
    refine qr_imul o (q_dm dm_X12_wins 8 rfl) ?_
    refine qr_isub o (q_dm dm_X12_wins 9 rfl) ?_
    refine qr_goto (tgt := 22) o (q_dm dm_X12_wins 10 rfl) (by decide) ?_
    exact qr_loc (q_leN (q_leN (q_leN (q_leS (q_leN (q_leN q_le0)))))) (w_X12_wins_22 n j r hj hr o a3 (a1 - (a5 * r1)) m2)

theorem a_X12_wins (g : qG) (l : Launch) (n : Nat) (j r : Nat) (hj : q_isLaw j) (hr : q_isLaw r) (a1 a2 a3 a4 a5 : Int32) (M : qM) : qAM g l 1 zX12_wins (qL j r) [.inr (some 77), .inl a1, .inl a2, .inl a3, .inl a4, .inl a5] (qL j r, M) (f_X12_wins n a1 a2 a3 a4 a5 M) :=
  qAM.of zv_X12_wins.1 (by show 6 ≤ 6; decide) (fun k hk o => w_X12_wins n j r hj hr o a1 a2 a3 a4 a5 M)
def tb_X12_winningMove : List (Nat × Instr × Nat) := [(0, (.iconst 0, 1)), (1, (.istore 4, 2)), (3, (.iload 4, 2)), (5, (.iconst 3, 1)), (6, (.if_icmp .ge 58, 3)), (9, (.iconst 1, 1)), (10, (.istore 5, 2)), (12, (.iload 5, 2)), (14, (.iconst 3, 1)), (15, (.if_icmp .gt 43, 3)), (18, (.iload_n 1, 1)), (19, (.iload 4, 2)), (21, (.invokestatic 479, 3)), (24, (.iload 5, 2)), (26, (.if_icmp .lt 26, 3)), (29, (.aload_n 0, 1)), (30, (.iload_n 1, 1)), (31, (.iload_n 2, 1)), (32, (.iload_n 3, 1)), (33, (.iload 4, 2)), (35, (.iload 5, 2)), (37, (.invokevirtual 482, 3)), (40, (.ifCond .eq 12, 3)), (43, (.bipush 10, 2)), (45, (.iload 4, 2)), (47, (.imul, 1)), (48, (.iload 5, 2)), (50, (.iadd, 1)), (51, (.ireturn, 1)), (52, (.iinc 5 1, 3)), (55, (.goto (-43), 3)), (58, (.iinc 4 1, 3)), (61, (.goto (-58), 3)), (64, (.iconst (-1), 1)), (65, (.ireturn, 1))]
theorem dm_X12_winningMove : ∀ q ∈ tb_X12_winningMove, decode zX12_winningMove.2.1 q.1 = .ok q.2 := by decide +kernel
def b_X12_winningMove_12 (n : Nat) (K3 : Int32 → Int32 → Int32 → Int32 → qM → qR) (K12 : Int32 → Int32 → Int32 → Int32 → Int32 → qM → qR) (a1 a2 a3 a4 a5 : Int32) (M : qM) : qR :=
  (if (3 : Int32) < a5 then ql (a4 + (1 : Int32)) (fun x1 => K3 a1 a2 a3 x1 M) else qc (f_X12_heapIn n a1 a4 M) (fun r2 m3 => (if r2 < a5 then ql (a5 + (1 : Int32)) (fun x4 => K12 a1 a2 a3 a4 x4 m3) else qc (f_X12_wins n a1 a2 a3 a4 a5 m3) (fun r5 m6 => (if r5 = (0 : Int32) then ql (a5 + (1 : Int32)) (fun x7 => K12 a1 a2 a3 a4 x7 m6) else some ((((10 : Int32) * a4) + a5), m6))))))
set_option maxRecDepth 4000 in
theorem wb_X12_winningMove_12 {g : qG} {k : qK} (n : Nat) (j r : Nat) (hj : q_isLaw j) (hr : q_isLaw r) (o : qOk g 2 zX12_winningMove k) (K3 : Int32 → Int32 → Int32 → Int32 → qM → qR) (hK3 : ∀ (a1 a2 a3 a4 : Int32) (M : qM), qAE g k zX12_winningMove (qL j r) 3 [some (.inr (some 77)), some (.inl a1), some (.inl a2), some (.inl a3), some (.inl a4), none] [] (qL j r, M) (K3 a1 a2 a3 a4 M)) (K12 : Int32 → Int32 → Int32 → Int32 → Int32 → qM → qR) (hK12 : ∀ (a1 a2 a3 a4 a5 : Int32) (M : qM), qAE g k zX12_winningMove (qL j r) 12 [some (.inr (some 77)), some (.inl a1), some (.inl a2), some (.inl a3), some (.inl a4), some (.inl a5)] [] (qL j r, M) (K12 a1 a2 a3 a4 a5 M)) (a1 a2 a3 a4 a5 : Int32) (M : qM) : qAE g k zX12_winningMove (qL j r) 12 [some (.inr (some 77)), some (.inl a1), some (.inl a2), some (.inl a3), some (.inl a4), some (.inl a5)] [] (qL j r, M) (b_X12_winningMove_12 n K3 K12 a1 a2 a3 a4 a5 M) := by
  unfold b_X12_winningMove_12
  refine qr_iload o (q_dm dm_X12_winningMove 7 rfl) rfl ?_
  refine qr_iconst o (q_dm dm_X12_winningMove 8 rfl) ic_3 ?_
  refine qr_icmp_gt (tgt := 58) o (q_dm dm_X12_winningMove 9 rfl) (by decide) ?_ ?_
  · refine qs_iincl2 (L' := fun x1 => [some (.inr (some 77)), some (.inl a1), some (.inl a2), some (.inl a3), some (.inl x1), some (.inl a5)]) o (q_dm dm_X12_winningMove 31 rfl) rfl ic_1 (Nat.le_of_ble_eq_true rfl) (fun _ => rfl) (fun x1 => ?_)
    refine qr_goto (tgt := 3) o (q_dm dm_X12_winningMove 32 rfl) (by decide) ?_
    exact qr_loc (q_leS (q_leS (q_leS (q_leS (q_leS (q_leN q_le0)))))) (hK3 a1 a2 a3 x1 M)
  · refine qr_iload_n o (q_dm dm_X12_winningMove 10 rfl) rfl ?_
    refine qr_iload o (q_dm dm_X12_winningMove 11 rfl) rfl ?_
    refine qr_calls_i (As := [.inl a1, .inl a4]) (S := []) o (a_X12_heapIn g k.2.1 n j r hj hr a1 a4 M) (Nat.le_of_ble_eq_true rfl) zs_X12_heapIn rfl ml_X12_479 (Nat.le_of_ble_eq_true rfl) (q_dm dm_X12_winningMove 12 rfl) (fun r2 m3 => ?_)
    refine qr_iload o (q_dm dm_X12_winningMove 13 rfl) rfl ?_
    refine qr_icmp_lt (tgt := 52) o (q_dm dm_X12_winningMove 14 rfl) (by decide) ?_ ?_
    · refine qs_iincl2 (L' := fun x4 => [some (.inr (some 77)), some (.inl a1), some (.inl a2), some (.inl a3), some (.inl a4), some (.inl x4)]) o (q_dm dm_X12_winningMove 29 rfl) rfl ic_1 (Nat.le_of_ble_eq_true rfl) (fun _ => rfl) (fun x4 => ?_)
      refine qr_goto (tgt := 12) o (q_dm dm_X12_winningMove 30 rfl) (by decide) ?_
      exact qr_loc (q_leS (q_leS (q_leS (q_leS (q_leS (q_leS q_le0)))))) (hK12 a1 a2 a3 a4 x4 m3)
    · refine qr_aload_n o (q_dm dm_X12_winningMove 15 rfl) rfl ?_
      refine qr_iload_n o (q_dm dm_X12_winningMove 16 rfl) rfl ?_
      refine qr_iload_n o (q_dm dm_X12_winningMove 17 rfl) rfl ?_
      refine qr_iload_n o (q_dm dm_X12_winningMove 18 rfl) rfl ?_
      refine qr_iload o (q_dm dm_X12_winningMove 19 rfl) rfl ?_
      refine qr_iload o (q_dm dm_X12_winningMove 20 rfl) rfl ?_
      refine qr_callv_i (As := [.inl a1, .inl a2, .inl a3, .inl a4, .inl a5]) (S := []) o (a_X12_wins g k.2.1 n j r hj hr a1 a2 a3 a4 a5 m3) (Nat.le_of_ble_eq_true rfl) zv_X12_wins rfl cf_X12 (sh77 j r) ml_X12_482 (Nat.le_of_ble_eq_true rfl) (q_dm dm_X12_winningMove 21 rfl) (fun r5 m6 => ?_)
      refine qr_if_eq (tgt := 52) o (q_dm dm_X12_winningMove 22 rfl) (by decide) ?_ ?_
      · refine qs_iincl2 (L' := fun x7 => [some (.inr (some 77)), some (.inl a1), some (.inl a2), some (.inl a3), some (.inl a4), some (.inl x7)]) o (q_dm dm_X12_winningMove 29 rfl) rfl ic_1 (Nat.le_of_ble_eq_true rfl) (fun _ => rfl) (fun x7 => ?_)
        refine qr_goto (tgt := 12) o (q_dm dm_X12_winningMove 30 rfl) (by decide) ?_
        exact qr_loc (q_leS (q_leS (q_leS (q_leS (q_leS (q_leS q_le0)))))) (hK12 a1 a2 a3 a4 x7 m6)
      · refine qr_bipush o (q_dm dm_X12_winningMove 23 rfl) bi_10 ?_
        refine qr_iload o (q_dm dm_X12_winningMove 24 rfl) rfl ?_
        refine qr_imul o (q_dm dm_X12_winningMove 25 rfl) ?_
        refine qr_iload o (q_dm dm_X12_winningMove 26 rfl) rfl ?_
        refine qr_iadd o (q_dm dm_X12_winningMove 27 rfl) ?_
        exact qr_iret o rfl rfl (q_dm dm_X12_winningMove 28 rfl)

def f_X12_winningMove_12 (n : Nat) (K3 : Int32 → Int32 → Int32 → Int32 → qM → qR) : Nat → Int32 → Int32 → Int32 → Int32 → Int32 → qM → qR
  | 0, _, _, _, _, _, _ => none
  | m + 1, a1, a2, a3, a4, a5, M => b_X12_winningMove_12 n K3 (f_X12_winningMove_12 n K3 m) a1 a2 a3 a4 a5 M
theorem w_X12_winningMove_12 {g : qG} {k : qK} (n : Nat) (j r : Nat) (hj : q_isLaw j) (hr : q_isLaw r) (o : qOk g 2 zX12_winningMove k) (K3 : Int32 → Int32 → Int32 → Int32 → qM → qR) (hK3 : ∀ (a1 a2 a3 a4 : Int32) (M : qM), qAE g k zX12_winningMove (qL j r) 3 [some (.inr (some 77)), some (.inl a1), some (.inl a2), some (.inl a3), some (.inl a4), none] [] (qL j r, M) (K3 a1 a2 a3 a4 M)) : ∀ (m : Nat) (a1 a2 a3 a4 a5 : Int32) (M : qM), qAE g k zX12_winningMove (qL j r) 12 [some (.inr (some 77)), some (.inl a1), some (.inl a2), some (.inl a3), some (.inl a4), some (.inl a5)] [] (qL j r, M) (f_X12_winningMove_12 n K3 m a1 a2 a3 a4 a5 M) := by
  intro m
  induction m with
  | zero =>
    intro a1 a2 a3 a4 a5 M
    exact qr_none
  | succ m ih =>
    intro a1 a2 a3 a4 a5 M
    exact wb_X12_winningMove_12 n j r hj hr o K3 hK3 (f_X12_winningMove_12 n K3 m) ih a1 a2 a3 a4 a5 M
def b_X12_winningMove_3 (n : Nat) (K3 : Int32 → Int32 → Int32 → Int32 → qM → qR) (a1 a2 a3 a4 : Int32) (M : qM) : qR :=
  (if (3 : Int32) ≤ a4 then some ((-1 : Int32), M) else f_X12_winningMove_12 n K3 n a1 a2 a3 a4 (1 : Int32) M)
set_option maxRecDepth 4000 in
theorem wb_X12_winningMove_3 {g : qG} {k : qK} (n : Nat) (j r : Nat) (hj : q_isLaw j) (hr : q_isLaw r) (o : qOk g 2 zX12_winningMove k) (K3 : Int32 → Int32 → Int32 → Int32 → qM → qR) (hK3 : ∀ (a1 a2 a3 a4 : Int32) (M : qM), qAE g k zX12_winningMove (qL j r) 3 [some (.inr (some 77)), some (.inl a1), some (.inl a2), some (.inl a3), some (.inl a4), none] [] (qL j r, M) (K3 a1 a2 a3 a4 M)) (a1 a2 a3 a4 : Int32) (M : qM) : qAE g k zX12_winningMove (qL j r) 3 [some (.inr (some 77)), some (.inl a1), some (.inl a2), some (.inl a3), some (.inl a4), none] [] (qL j r, M) (b_X12_winningMove_3 n K3 a1 a2 a3 a4 M) := by
  unfold b_X12_winningMove_3
  refine qr_iload o (q_dm dm_X12_winningMove 2 rfl) rfl ?_
  refine qr_iconst o (q_dm dm_X12_winningMove 3 rfl) ic_3 ?_
  refine qr_icmp_ge (tgt := 64) o (q_dm dm_X12_winningMove 4 rfl) (by decide) ?_ ?_
  · refine qr_iconst o (q_dm dm_X12_winningMove 33 rfl) ic_m1 ?_
    exact qr_iret o rfl rfl (q_dm dm_X12_winningMove 34 rfl)
  · refine qr_iconst o (q_dm dm_X12_winningMove 5 rfl) ic_1 ?_
    refine qs_istore (L' := [some (.inr (some 77)), some (.inl a1), some (.inl a2), some (.inl a3), some (.inl a4), some (.inl (1 : Int32))]) o (q_dm dm_X12_winningMove 6 rfl) (Nat.le_of_ble_eq_true rfl) rfl ?_
    exact qr_loc (q_leS (q_leS (q_leS (q_leS (q_leS (q_leS q_le0)))))) (w_X12_winningMove_12 n j r hj hr o K3 hK3 n a1 a2 a3 a4 (1 : Int32) M)

def f_X12_winningMove_3 (n : Nat) : Nat → Int32 → Int32 → Int32 → Int32 → qM → qR
  | 0, _, _, _, _, _ => none
  | m + 1, a1, a2, a3, a4, M => b_X12_winningMove_3 n (f_X12_winningMove_3 n m) a1 a2 a3 a4 M
theorem w_X12_winningMove_3 {g : qG} {k : qK} (n : Nat) (j r : Nat) (hj : q_isLaw j) (hr : q_isLaw r) (o : qOk g 2 zX12_winningMove k) : ∀ (m : Nat) (a1 a2 a3 a4 : Int32) (M : qM), qAE g k zX12_winningMove (qL j r) 3 [some (.inr (some 77)), some (.inl a1), some (.inl a2), some (.inl a3), some (.inl a4), none] [] (qL j r, M) (f_X12_winningMove_3 n m a1 a2 a3 a4 M) := by
  intro m
  induction m with
  | zero =>
    intro a1 a2 a3 a4 M
    exact qr_none
  | succ m ih =>
    intro a1 a2 a3 a4 M
    exact wb_X12_winningMove_3 n j r hj hr o (f_X12_winningMove_3 n m) ih a1 a2 a3 a4 M
def f_X12_winningMove (n : Nat) (a1 a2 a3 : Int32) (M : qM) : qR :=
  f_X12_winningMove_3 n n a1 a2 a3 (0 : Int32) M
set_option maxRecDepth 4000 in
theorem w_X12_winningMove {g : qG} {k : qK} (n : Nat) (j r : Nat) (hj : q_isLaw j) (hr : q_isLaw r) (o : qOk g 2 zX12_winningMove k) (a1 a2 a3 : Int32) (M : qM) : qAE g k zX12_winningMove (qL j r) 0 [some (.inr (some 77)), some (.inl a1), some (.inl a2), some (.inl a3), none, none] [] (qL j r, M) (f_X12_winningMove n a1 a2 a3 M) := by
  unfold f_X12_winningMove
  refine qr_iconst o (q_dm dm_X12_winningMove 0 rfl) ic_0 ?_
  refine qs_istore (L' := [some (.inr (some 77)), some (.inl a1), some (.inl a2), some (.inl a3), some (.inl (0 : Int32)), none]) o (q_dm dm_X12_winningMove 1 rfl) (Nat.le_of_ble_eq_true rfl) rfl ?_
  exact qr_loc (q_leS (q_leS (q_leS (q_leS (q_leS (q_leN q_le0)))))) (w_X12_winningMove_3 n j r hj hr o n a1 a2 a3 (0 : Int32) M)

theorem a_X12_winningMove (g : qG) (l : Launch) (n : Nat) (j r : Nat) (hj : q_isLaw j) (hr : q_isLaw r) (a1 a2 a3 : Int32) (M : qM) : qAM g l 2 zX12_winningMove (qL j r) [.inr (some 77), .inl a1, .inl a2, .inl a3] (qL j r, M) (f_X12_winningMove n a1 a2 a3 M) :=
  qAM.of zv_X12_winningMove.1 (by show 4 ≤ 6; decide) (fun k hk o => w_X12_winningMove n j r hj hr o a1 a2 a3 M)
