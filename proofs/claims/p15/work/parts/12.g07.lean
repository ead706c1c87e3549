def tb_X5_findBestRow : List (Nat × Instr × Nat) := [(0, (.iconst 1, 1)), (1, (.istore_n 1, 1)), (2, (.iconst 0, 1)), (3, (.istore_n 2, 1)), (4, (.iload_n 2, 1)), (5, (.aload_n 0, 1)), (6, (.getfield 49, 3)), (9, (.if_icmp .ge 16, 3)), (12, (.iload_n 1, 1)), (13, (.aload_n 0, 1)), (14, (.getfield 65, 3)), (17, (.imul, 1)), (18, (.istore_n 1, 1)), (19, (.iinc 2 1, 3)), (22, (.goto (-18), 3)), (25, (.aload_n 0, 1)), (26, (.ldc 102, 2)), (28, (.putfield 136, 3)), (31, (.aload_n 0, 1)), (32, (.iconst 0, 1)), (33, (.putfield 93, 3)), (36, (.iconst 0, 1)), (37, (.istore_n 2, 1)), (38, (.iload_n 2, 1)), (39, (.iload_n 1, 1)), (40, (.if_icmp .ge 33, 3)), (43, (.aload_n 0, 1)), (44, (.iload_n 2, 1)), (45, (.invokevirtual 139, 3)), (48, (.istore_n 3, 1)), (49, (.iload_n 3, 1)), (50, (.aload_n 0, 1)), (51, (.getfield 136, 3)), (54, (.if_icmp .ge 13, 3)), (57, (.aload_n 0, 1)), (58, (.iload_n 3, 1)), (59, (.putfield 136, 3)), (62, (.aload_n 0, 1)), (63, (.iload_n 2, 1)), (64, (.putfield 93, 3)), (67, (.iinc 2 1, 3)), (70, (.goto (-32), 3)), (73, (.return_, 1))]
theorem dm_X5_findBestRow : ∀ q ∈ tb_X5_findBestRow, decode zX5_findBestRow.2.1 q.1 = .ok q.2 := by decide +kernel
def b_X5_findBestRow_38 (n : Nat) (K38 : Int32 → Int32 → qM → qR) (a1 a2 : Int32) (M : qM) : qR :=
  (if a1 ≤ a2 then some (0, M) else qc (f_X5_longestOf n a2 M) (fun r1 m2 => (if (m2 64 11) ≤ r1 then ql (a2 + (1 : Int32)) (fun x3 => K38 a1 x3 m2) else qlm (mu m2 64 11 r1) (fun m4 => qlm (mu m4 64 12 a2) (fun m5 => ql (a2 + (1 : Int32)) (fun x6 => K38 a1 x6 m5))))))
set_option maxRecDepth 4000 in
theorem wb_X5_findBestRow_38 {g : qG} {k : qK} (n : Nat) (j r : Nat) (hj : q_isLaw j) (hr : q_isLaw r) (o : qOk g 2 zX5_findBestRow k) (K38 : Int32 → Int32 → qM → qR) (hK38 : ∀ (a1 a2 : Int32) (M : qM), qAE g k zX5_findBestRow (qL j r) 38 [some (.inr (some 64)), some (.inl a1), some (.inl a2), none] [] (qL j r, M) (K38 a1 a2 M)) (a1 a2 : Int32) (M : qM) : qAE g k zX5_findBestRow (qL j r) 38 [some (.inr (some 64)), some (.inl a1), some (.inl a2), none] [] (qL j r, M) (b_X5_findBestRow_38 n K38 a1 a2 M) := by
  unfold b_X5_findBestRow_38
  refine qr_iload_n o (q_dm dm_X5_findBestRow 23 rfl) rfl ?_
  refine qr_iload_n o (q_dm dm_X5_findBestRow 24 rfl) rfl ?_
  refine qr_icmp_ge (tgt := 73) o (q_dm dm_X5_findBestRow 25 rfl) (by decide) ?_ ?_
  · exact qr_vret o rfl (q_dm dm_X5_findBestRow 42 rfl)
  · refine qr_aload_n o (q_dm dm_X5_findBestRow 26 rfl) rfl ?_
    refine qr_iload_n o (q_dm dm_X5_findBestRow 27 rfl) rfl ?_
    refine qr_callv_i (As := [.inl a2]) (S := []) o (a_X5_longestOf g k.2.1 n j r hj hr a2 M) (Nat.le_of_ble_eq_true rfl) zv_X5_longestOf rfl cf_X5 (sh64 j r) ml_X5_139 (Nat.le_of_ble_eq_true rfl) (q_dm dm_X5_findBestRow 28 rfl) (fun r1 m2 => ?_)
    refine qs_istore_n (L' := [some (.inr (some 64)), some (.inl a1), some (.inl a2), some (.inl r1)]) o (q_dm dm_X5_findBestRow 29 rfl) (Nat.le_of_ble_eq_true rfl) rfl ?_
    refine qr_iload_n o (q_dm dm_X5_findBestRow 30 rfl) rfl ?_
    refine qr_aload_n o (q_dm dm_X5_findBestRow 31 rfl) rfl ?_
    refine qr_getf (kf := 11) o cf_X5 (sh64 j r) rfl (Nat.le_of_ble_eq_true rfl) fl_X5_136 (q_dm dm_X5_findBestRow 32 rfl) ?_
    refine qr_icmp_ge (tgt := 67) o (q_dm dm_X5_findBestRow 33 rfl) (by decide) ?_ ?_
    · refine qs_iincl2 (L' := fun x3 => [some (.inr (some 64)), some (.inl a1), some (.inl x3), some (.inl r1)]) o (q_dm dm_X5_findBestRow 40 rfl) rfl ic_1 (Nat.le_of_ble_eq_true rfl) (fun _ => rfl) (fun x3 => ?_)
      refine qr_goto (tgt := 38) o (q_dm dm_X5_findBestRow 41 rfl) (by decide) ?_
      exact qr_loc (q_leS (q_leS (q_leS (q_leN q_le0)))) (hK38 a1 x3 m2)
    · refine qr_aload_n o (q_dm dm_X5_findBestRow 34 rfl) rfl ?_
      refine qr_iload_n o (q_dm dm_X5_findBestRow 35 rfl) rfl ?_
      refine qr_putf (kf := 11) o cf_X5 (sh64 j r) rfl (Nat.le_of_ble_eq_true rfl) fl_X5_136 rfl (by decide +kernel) (q_dm dm_X5_findBestRow 36 rfl) ?_
      refine qr_letm (fun m4 => ?_)
      refine qr_aload_n o (q_dm dm_X5_findBestRow 37 rfl) rfl ?_
      refine qr_iload_n o (q_dm dm_X5_findBestRow 38 rfl) rfl ?_
      refine qr_putf (kf := 12) o cf_X5 (sh64 j r) rfl (Nat.le_of_ble_eq_true rfl) fl_X5_93 rfl (by decide +kernel) (q_dm dm_X5_findBestRow 39 rfl) ?_
      refine qr_letm (fun m5 => ?_)
      refine qs_iincl2 (L' := fun x6 => [some (.inr (some 64)), some (.inl a1), some (.inl x6), some (.inl r1)]) o (q_dm dm_X5_findBestRow 40 rfl) rfl ic_1 (Nat.le_of_ble_eq_true rfl) (fun _ => rfl) (fun x6 => ?_)
      refine qr_goto (tgt := 38) o (q_dm dm_X5_findBestRow 41 rfl) (by decide) ?_
      exact qr_loc (q_leS (q_leS (q_leS (q_leN q_le0)))) (hK38 a1 x6 m5)

def f_X5_findBestRow_38 (n : Nat) : Nat → Int32 → Int32 → qM → qR
  | 0, _, _, _ => none
  | m + 1, a1, a2, M => b_X5_findBestRow_38 n (f_X5_findBestRow_38 n m) a1 a2 M
theorem w_X5_findBestRow_38 {g : qG} {k : qK} (n : Nat) (j r : Nat) (hj : q_isLaw j) (hr : q_isLaw r) (o : qOk g 2 zX5_findBestRow k) : ∀ (m : Nat) (a1 a2 : Int32) (M : qM), qAE g k zX5_findBestRow (qL j r) 38 [some (.inr (some 64)), some (.inl a1), some (.inl a2), none] [] (qL j r, M) (f_X5_findBestRow_38 n m a1 a2 M) := by
  intro m
  induction m with
  | zero =>
    intro a1 a2 M
    exact qr_none
  | succ m ih =>
    intro a1 a2 M
    exact wb_X5_findBestRow_38 n j r hj hr o (f_X5_findBestRow_38 n m) ih a1 a2 M
def b_X5_findBestRow_4 (n : Nat) (K4 : Int32 → Int32 → qM → qR) (a1 a2 : Int32) (M : qM) : qR :=
  (if (M 64 9) ≤ a2 then qlm (mu M 64 11 (1048576 : Int32)) (fun m1 => qlm (mu m1 64 12 (0 : Int32)) (fun m2 => f_X5_findBestRow_38 n n a1 (0 : Int32) m2)) else ql (a1 * (M 64 10)) (fun x3 => ql (a2 + (1 : Int32)) (fun x4 => K4 x3 x4 M)))
set_option maxRecDepth 4000 in
theorem wb_X5_findBestRow_4 {g : qG} {k : qK} (n : Nat) (j r : Nat) (hj : q_isLaw j) (hr : q_isLaw r) (o : qOk g 2 zX5_findBestRow k) (K4 : Int32 → Int32 → qM → qR) (hK4 : ∀ (a1 a2 : Int32) (M : qM), qAE g k zX5_findBestRow (qL j r) 4 [some (.inr (some 64)), some (.inl a1), some (.inl a2), none] [] (qL j r, M) (K4 a1 a2 M)) (a1 a2 : Int32) (M : qM) : qAE g k zX5_findBestRow (qL j r) 4 [some (.inr (some 64)), some (.inl a1), some (.inl a2), none] [] (qL j r, M) (b_X5_findBestRow_4 n K4 a1 a2 M) := by
  unfold b_X5_findBestRow_4
  refine qr_iload_n o (q_dm dm_X5_findBestRow 4 rfl) rfl ?_
  refine qr_aload_n o (q_dm dm_X5_findBestRow 5 rfl) rfl ?_
  refine qr_getf (kf := 9) o cf_X5 (sh64 j r) rfl (Nat.le_of_ble_eq_true rfl) fl_X5_49 (q_dm dm_X5_findBestRow 6 rfl) ?_
  refine qr_icmp_ge (tgt := 25) o (q_dm dm_X5_findBestRow 7 rfl) (by decide) ?_ ?_
  · refine qr_aload_n o (q_dm dm_X5_findBestRow 15 rfl) rfl ?_
    refine qr_ldc o (q_dm dm_X5_findBestRow 16 rfl) kc_X5_102 ?_
    refine qr_putf (kf := 11) o cf_X5 (sh64 j r) rfl (Nat.le_of_ble_eq_true rfl) fl_X5_136 rfl (by decide +kernel) (q_dm dm_X5_findBestRow 17 rfl) ?_
    refine qr_letm (fun m1 => ?_)
    refine qr_aload_n o (q_dm dm_X5_findBestRow 18 rfl) rfl ?_
    refine qr_iconst o (q_dm dm_X5_findBestRow 19 rfl) ic_0 ?_
    refine qr_putf (kf := 12) o cf_X5 (sh64 j r) rfl (Nat.le_of_ble_eq_true rfl) fl_X5_93 rfl (by decide +kernel) (q_dm dm_X5_findBestRow 20 rfl) ?_
    refine qr_letm (fun m2 => ?_)
    refine qr_iconst o (q_dm dm_X5_findBestRow 21 rfl) ic_0 ?_
    refine qs_istore_n (L' := [some (.inr (some 64)), some (.inl a1), some (.inl (0 : Int32)), none]) o (q_dm dm_X5_findBestRow 22 rfl) (Nat.le_of_ble_eq_true rfl) rfl ?_
    exact qr_loc (q_leS (q_leS (q_leS (q_leN q_le0)))) (w_X5_findBestRow_38 n j r hj hr o n a1 (0 : Int32) m2)
  · refine qr_iload_n o (q_dm dm_X5_findBestRow 8 rfl) rfl ?_
    refine qr_aload_n o (q_dm dm_X5_findBestRow 9 rfl) rfl ?_
    refine qr_getf (kf := 10) o cf_X5 (sh64 j r) rfl (Nat.le_of_ble_eq_true rfl) fl_X5_65 (q_dm dm_X5_findBestRow 10 rfl) ?_
    refine qr_imul o (q_dm dm_X5_findBestRow 11 rfl) ?_
    refine qr_lt (fun x3 => ?_)
    refine qs_istore_n (L' := [some (.inr (some 64)), some (.inl x3), some (.inl a2), none]) o (q_dm dm_X5_findBestRow 12 rfl) (Nat.le_of_ble_eq_true rfl) rfl ?_
    refine qs_iincl2 (L' := fun x4 => [some (.inr (some 64)), some (.inl x3), some (.inl x4), none]) o (q_dm dm_X5_findBestRow 13 rfl) rfl ic_1 (Nat.le_of_ble_eq_true rfl) (fun _ => rfl) (fun x4 => ?_)
    refine qr_goto (tgt := 4) o (q_dm dm_X5_findBestRow 14 rfl) (by decide) ?_
    exact qr_loc (q_leS (q_leS (q_leS (q_leN q_le0)))) (hK4 x3 x4 M)

def f_X5_findBestRow_4 (n : Nat) : Nat → Int32 → Int32 → qM → qR
  | 0, _, _, _ => none
  | m + 1, a1, a2, M => b_X5_findBestRow_4 n (f_X5_findBestRow_4 n m) a1 a2 M
theorem w_X5_findBestRow_4 {g : qG} {k : qK} (n : Nat) (j r : Nat) (hj : q_isLaw j) (hr : q_isLaw r) (o : qOk g 2 zX5_findBestRow k) : ∀ (m : Nat) (a1 a2 : Int32) (M : qM), qAE g k zX5_findBestRow (qL j r) 4 [some (.inr (some 64)), some (.inl a1), some (.inl a2), none] [] (qL j r, M) (f_X5_findBestRow_4 n m a1 a2 M) := by
  intro m
  induction m with
  | zero =>
    intro a1 a2 M
    exact qr_none
  | succ m ih =>
    intro a1 a2 M
    exact wb_X5_findBestRow_4 n j r hj hr o (f_X5_findBestRow_4 n m) ih a1 a2 M
def f_X5_findBestRow (n : Nat) (M : qM) : qR :=
  f_X5_findBestRow_4 n n (1 : Int32) (0 : Int32) M
set_option maxRecDepth 4000 in
theorem w_X5_findBestRow {g : qG} {k : qK} (n : Nat) (j r : Nat) (hj : q_isLaw j) (hr : q_isLaw r) (o : qOk g 2 zX5_findBestRow k) (M : qM) : qAE g k zX5_findBestRow (qL j r) 0 [some (.inr (some 64)), none, none, none] [] (qL j r, M) (f_X5_findBestRow n  M) := by
  unfold f_X5_findBestRow
  refine qr_iconst o (q_dm dm_X5_findBestRow 0 rfl) ic_1 ?_
  refine qs_istore_n (L' := [some (.inr (some 64)), some (.inl (1 : Int32)), none, none]) o (q_dm dm_X5_findBestRow 1 rfl) (Nat.le_of_ble_eq_true rfl) rfl ?_
  refine qr_iconst o (q_dm dm_X5_findBestRow 2 rfl) ic_0 ?_
  refine qs_istore_n (L' := [some (.inr (some 64)), some (.inl (1 : Int32)), some (.inl (0 : Int32)), none]) o (q_dm dm_X5_findBestRow 3 rfl) (Nat.le_of_ble_eq_true rfl) rfl ?_
  exact qr_loc (q_leS (q_leS (q_leS (q_leN q_le0)))) (w_X5_findBestRow_4 n j r hj hr o n (1 : Int32) (0 : Int32) M)

theorem a_X5_findBestRow (g : qG) (l : Launch) (n : Nat) (j r : Nat) (hj : q_isLaw j) (hr : q_isLaw r) (M : qM) : qAM g l 2 zX5_findBestRow (qL j r) [.inr (some 64)] (qL j r, M) (f_X5_findBestRow n  M) :=
  qAM.of zv_X5_findBestRow.1 (by show 1 ≤ 4; decide) (fun k hk o => w_X5_findBestRow n j r hj hr o  M)
def tb_X5_hoursFor : List (Nat × Instr × Nat) := [(0, (.aload_n 0, 1)), (1, (.getfield 39, 3)), (4, (.iload_n 1, 1)), (5, (.aload_n 0, 1)), (6, (.getfield 27, 3)), (9, (.getfield 106, 3)), (12, (.iload_n 2, 1)), (13, (.iaload, 1)), (14, (.invokevirtual 109, 3)), (17, (.ifCond .ne 6, 3)), (20, (.ldc 102, 2)), (22, (.ireturn, 1)), (23, (.iconst 1, 1)), (24, (.istore_n 3, 1)), (25, (.iload_n 3, 1)), (26, (.bipush 20, 2)), (28, (.if_icmp .gt 94, 3)), (31, (.aload_n 0, 1)), (32, (.getfield 39, 3)), (35, (.iload_n 1, 1)), (36, (.aload_n 0, 1)), (37, (.getfield 21, 3)), (40, (.iload_n 2, 1)), (41, (.iaload, 1)), (42, (.invokevirtual 113, 3)), (45, (.istore 4, 2)), (47, (.aload_n 0, 1)), (48, (.getfield 35, 3)), (51, (.aload_n 0, 1)), (52, (.getfield 39, 3)), (55, (.iload_n 1, 1)), (56, (.iload_n 2, 1)), (57, (.bipush 8, 2)), (59, (.invokevirtual 116, 3)), (62, (.iload 4, 2)), (64, (.aload_n 0, 1)), (65, (.getfield 31, 3)), (68, (.invokevirtual 122, 3)), (71, (.if_icmp .lt 7, 3)), (74, (.iconst 1, 1)), (75, (.goto 4, 3)), (78, (.iconst 0, 1)), (79, (.istore 5, 2)), (81, (.aload_n 0, 1)), (82, (.getfield 39, 3)), (85, (.iload_n 1, 1)), (86, (.iload_n 2, 1)), (87, (.invokevirtual 126, 3)), (90, (.iload 5, 2)), (92, (.ifCond .eq 24, 3)), (95, (.aload_n 0, 1)), (96, (.getfield 39, 3)), (99, (.iload_n 1, 1)), (100, (.iload_n 2, 1)), (101, (.invokevirtual 130, 3)), (104, (.iload_n 3, 1)), (105, (.aload_n 0, 1)), (106, (.getfield 27, 3)), (109, (.getfield 133, 3)), (112, (.iload_n 2, 1)), (113, (.iaload, 1)), (114, (.imul, 1)), (115, (.ireturn, 1)), (116, (.iinc 3 1, 3)), (119, (.goto (-94), 3)), (122, (.ldc 102, 2)), (124, (.ireturn, 1))]
theorem dm_X5_hoursFor : ∀ q ∈ tb_X5_hoursFor, decode zX5_hoursFor.2.1 q.1 = .ok q.2 := by decide +kernel
def f_X5_hoursFor_79 (n : Nat) (j : Nat) (K25 : Int32 → Int32 → Int32 → qM → qR) (a1 a2 a3 s0 : Int32) (M : qM) : qR :=
  qc (f_X10_addTry n 25 a1 a2 M) (fun _ m1 => (if s0 = (0 : Int32) then ql (a3 + (1 : Int32)) (fun x2 => K25 a1 a2 x2 m1) else qc (f_X10_addCounted n 25 a1 a2 m1) (fun _ m3 => qg a2 12 (some ((a3 * (m3 4 a2.toNatClampNeg)), m3)))))
set_option maxRecDepth 4000 in
theorem w_X5_hoursFor_79 {g : qG} {k : qK} (n : Nat) (j r : Nat) (hj : q_isLaw j) (hr : q_isLaw r) (o : qOk g 4 zX5_hoursFor k) (K25 : Int32 → Int32 → Int32 → qM → qR) (hK25 : ∀ (a1 a2 a3 : Int32) (M : qM), qAE g k zX5_hoursFor (qL j r) 25 [some (.inr (some 64)), some (.inl a1), some (.inl a2), some (.inl a3), none, none] [] (qL j r, M) (K25 a1 a2 a3 M)) (a1 a2 a3 s0 : Int32) (M : qM) : qAE g k zX5_hoursFor (qL j r) 79 [some (.inr (some 64)), some (.inl a1), some (.inl a2), some (.inl a3), none, none] [.inl s0] (qL j r, M) (f_X5_hoursFor_79 n j K25 a1 a2 a3 s0 M) := by
  unfold f_X5_hoursFor_79
  refine qs_istore (L' := [some (.inr (some 64)), some (.inl a1), some (.inl a2), some (.inl a3), none, some (.inl s0)]) o (q_dm dm_X5_hoursFor 42 rfl) (Nat.le_of_ble_eq_true rfl) rfl ?_
  refine qr_aload_n o (q_dm dm_X5_hoursFor 43 rfl) rfl ?_
  refine qr_getr (kf := 8) o cf_X5 (sh64 j r) rfl (Nat.le_of_ble_eq_true rfl) fl_X5_39 (q_dm dm_X5_hoursFor 44 rfl) ?_
  refine qr_iload_n o (q_dm dm_X5_hoursFor 45 rfl) rfl ?_
  refine qr_iload_n o (q_dm dm_X5_hoursFor 46 rfl) rfl ?_
  refine qr_callv_v (As := [.inl a1, .inl a2]) (S := []) o (a_X10_addTry g k.2.1 n j r hj hr (Or.inr (Or.inr rfl)) a1 a2 M) (Nat.le_of_ble_eq_true rfl) zv_X10_addTry rfl cf_X10 (sh25 j r) ml_X5_126 (Nat.le_of_ble_eq_true rfl) (q_dm dm_X5_hoursFor 47 rfl) (fun _ m1 => ?_)
  refine qr_iload o (q_dm dm_X5_hoursFor 48 rfl) rfl ?_
  refine qr_if_eq (tgt := 116) o (q_dm dm_X5_hoursFor 49 rfl) (by decide) ?_ ?_
  · refine qs_iincl2 (L' := fun x2 => [some (.inr (some 64)), some (.inl a1), some (.inl a2), some (.inl x2), none, some (.inl s0)]) o (q_dm dm_X5_hoursFor 63 rfl) rfl ic_1 (Nat.le_of_ble_eq_true rfl) (fun _ => rfl) (fun x2 => ?_)
    refine qr_goto (tgt := 25) o (q_dm dm_X5_hoursFor 64 rfl) (by decide) ?_
    exact qr_loc (q_leS (q_leS (q_leS (q_leS (q_leN (q_leN q_le0)))))) (hK25 a1 a2 x2 m1)
  · refine qr_aload_n o (q_dm dm_X5_hoursFor 50 rfl) rfl ?_
    refine qr_getr (kf := 8) o cf_X5 (sh64 j r) rfl (Nat.le_of_ble_eq_true rfl) fl_X5_39 (q_dm dm_X5_hoursFor 51 rfl) ?_
    refine qr_iload_n o (q_dm dm_X5_hoursFor 52 rfl) rfl ?_
    refine qr_iload_n o (q_dm dm_X5_hoursFor 53 rfl) rfl ?_
    refine qr_callv_v (As := [.inl a1, .inl a2]) (S := []) o (a_X10_addCounted g k.2.1 n j r hj hr (Or.inr (Or.inr rfl)) a1 a2 m1) (Nat.le_of_ble_eq_true rfl) zv_X10_addCounted rfl cf_X10 (sh25 j r) ml_X5_130 (Nat.le_of_ble_eq_true rfl) (q_dm dm_X5_hoursFor 54 rfl) (fun _ m3 => ?_)
    refine qr_iload_n o (q_dm dm_X5_hoursFor 55 rfl) rfl ?_
    refine qr_aload_n o (q_dm dm_X5_hoursFor 56 rfl) rfl ?_
    refine qr_getr (kf := 0) o cf_X5 (sh64 j r) rfl (Nat.le_of_ble_eq_true rfl) fl_X5_27 (q_dm dm_X5_hoursFor 57 rfl) ?_
    refine qr_getr (kf := 0) o cf_X2 (sh3 j r) rfl (Nat.le_of_ble_eq_true rfl) fl_X5_133 (q_dm dm_X5_hoursFor 58 rfl) ?_
    refine qr_iload_n o (q_dm dm_X5_hoursFor 59 rfl) rfl ?_
    refine qr_iald o (sh4 j r) (q_dm dm_X5_hoursFor 60 rfl) ?_
    refine qr_imul o (q_dm dm_X5_hoursFor 61 rfl) ?_
    exact qr_iret o rfl rfl (q_dm dm_X5_hoursFor 62 rfl)

def b_X5_hoursFor_25 (n : Nat) (j : Nat) (K25 : Int32 → Int32 → Int32 → qM → qR) (a1 a2 a3 : Int32) (M : qM) : qR :=
  (if (20 : Int32) < a3 then some ((1048576 : Int32), M) else qg a2 12 (qc (f_X10_triesAmong n 25 a1 (M 68 a2.toNatClampNeg) M) (fun r1 m2 => qc (f_X0_tellAll n 25 a1 a2 (8 : Int32) m2) (fun _ m3 => qc (f_X1_voidTries n j m3) (fun r4 m5 => (if r1 < r4 then f_X5_hoursFor_79 n j K25 a1 a2 a3 (0 : Int32) m5 else f_X5_hoursFor_79 n j K25 a1 a2 a3 (1 : Int32) m5))))))
set_option maxRecDepth 4000 in
theorem wb_X5_hoursFor_25 {g : qG} {k : qK} (n : Nat) (j r : Nat) (hj : q_isLaw j) (hr : q_isLaw r) (o : qOk g 4 zX5_hoursFor k) (K25 : Int32 → Int32 → Int32 → qM → qR) (hK25 : ∀ (a1 a2 a3 : Int32) (M : qM), qAE g k zX5_hoursFor (qL j r) 25 [some (.inr (some 64)), some (.inl a1), some (.inl a2), some (.inl a3), none, none] [] (qL j r, M) (K25 a1 a2 a3 M)) (a1 a2 a3 : Int32) (M : qM) : qAE g k zX5_hoursFor (qL j r) 25 [some (.inr (some 64)), some (.inl a1), some (.inl a2), some (.inl a3), none, none] [] (qL j r, M) (b_X5_hoursFor_25 n j K25 a1 a2 a3 M) := by
  unfold b_X5_hoursFor_25
  refine qr_iload_n o (q_dm dm_X5_hoursFor 14 rfl) rfl ?_
  refine qr_bipush o (q_dm dm_X5_hoursFor 15 rfl) bi_20 ?_
  refine qr_icmp_gt (tgt := 122) o (q_dm dm_X5_hoursFor 16 rfl) (by decide) ?_ ?_
  · refine qr_ldc o (q_dm dm_X5_hoursFor 65 rfl) kc_X5_102 ?_
    exact qr_iret o rfl rfl (q_dm dm_X5_hoursFor 66 rfl)
  · refine qr_aload_n o (q_dm dm_X5_hoursFor 17 rfl) rfl ?_
    refine qr_getr (kf := 8) o cf_X5 (sh64 j r) rfl (Nat.le_of_ble_eq_true rfl) fl_X5_39 (q_dm dm_X5_hoursFor 18 rfl) ?_
    refine qr_iload_n o (q_dm dm_X5_hoursFor 19 rfl) rfl ?_
    refine qr_aload_n o (q_dm dm_X5_hoursFor 20 rfl) rfl ?_
    refine qr_getr (kf := 6) o cf_X5 (sh64 j r) rfl (Nat.le_of_ble_eq_true rfl) fl_X5_21 (q_dm dm_X5_hoursFor 21 rfl) ?_
    refine qr_iload_n o (q_dm dm_X5_hoursFor 22 rfl) rfl ?_
    refine qr_iald o (sh68 j r) (q_dm dm_X5_hoursFor 23 rfl) ?_
    refine qr_callv_i (As := [.inl a1, .inl (M 68 a2.toNatClampNeg)]) (S := []) o (a_X10_triesAmong g k.2.1 n j r hj hr (Or.inr (Or.inr rfl)) a1 (M 68 a2.toNatClampNeg) M) (Nat.le_of_ble_eq_true rfl) zv_X10_triesAmong rfl cf_X10 (sh25 j r) ml_X5_113 (Nat.le_of_ble_eq_true rfl) (q_dm dm_X5_hoursFor 24 rfl) (fun r1 m2 => ?_)
    refine qs_istore (L' := [some (.inr (some 64)), some (.inl a1), some (.inl a2), some (.inl a3), some (.inl r1), none]) o (q_dm dm_X5_hoursFor 25 rfl) (Nat.le_of_ble_eq_true rfl) rfl ?_
    refine qr_aload_n o (q_dm dm_X5_hoursFor 26 rfl) rfl ?_
    refine qr_getr (kf := 2) o cf_X5 (sh64 j r) rfl (Nat.le_of_ble_eq_true rfl) fl_X5_35 (q_dm dm_X5_hoursFor 27 rfl) ?_
    refine qr_aload_n o (q_dm dm_X5_hoursFor 28 rfl) rfl ?_
    refine qr_getr (kf := 8) o cf_X5 (sh64 j r) rfl (Nat.le_of_ble_eq_true rfl) fl_X5_39 (q_dm dm_X5_hoursFor 29 rfl) ?_
    refine qr_iload_n o (q_dm dm_X5_hoursFor 30 rfl) rfl ?_
    refine qr_iload_n o (q_dm dm_X5_hoursFor 31 rfl) rfl ?_
    refine qr_bipush o (q_dm dm_X5_hoursFor 32 rfl) bi_8 ?_
    refine qr_callv_v (As := [.inr (some 25), .inl a1, .inl a2, .inl (8 : Int32)]) (S := []) o (a_X0_tellAll g k.2.1 n j r hj hr (Or.inr (Or.inr rfl)) a1 a2 (8 : Int32) m2) (Nat.le_of_ble_eq_true rfl) zv_X0_tellAll rfl cf_X0 (sh44 j r) ml_X5_116 (Nat.le_of_ble_eq_true rfl) (q_dm dm_X5_hoursFor 33 rfl) (fun _ m3 => ?_)
    refine qr_iload o (q_dm dm_X5_hoursFor 34 rfl) rfl ?_
    refine qr_aload_n o (q_dm dm_X5_hoursFor 35 rfl) rfl ?_
    refine qr_getr (kf := 1) o cf_X5 (sh64 j r) rfl (Nat.le_of_ble_eq_true rfl) fl_X5_31 (q_dm dm_X5_hoursFor 36 rfl) ?_
    refine qr_callv_i (As := []) (S := [.inl r1]) o (a_X1_voidTries g k.2.1 n j r hj hr  m3) (Nat.le_of_ble_eq_true rfl) zv_X1_voidTries rfl cf_X1 (sh34 j r) ml_X5_122 (Nat.le_of_ble_eq_true rfl) (q_dm dm_X5_hoursFor 37 rfl) (fun r4 m5 => ?_)
    refine qr_icmp_lt (tgt := 78) o (q_dm dm_X5_hoursFor 38 rfl) (by decide) ?_ ?_
    · refine qr_iconst o (q_dm dm_X5_hoursFor 41 rfl) ic_0 ?_
      exact qr_loc (q_leS (q_leS (q_leS (q_leS (q_leN (q_leN q_le0)))))) (w_X5_hoursFor_79 n j r hj hr o K25 hK25 a1 a2 a3 (0 : Int32) m5)
    · refine qr_iconst o (q_dm dm_X5_hoursFor 39 rfl) ic_1 ?_
      refine qr_goto (tgt := 79) o (q_dm dm_X5_hoursFor 40 rfl) (by decide) ?_
      exact qr_loc (q_leS (q_leS (q_leS (q_leS (q_leN (q_leN q_le0)))))) (w_X5_hoursFor_79 n j r hj hr o K25 hK25 a1 a2 a3 (1 : Int32) m5)

def f_X5_hoursFor_25 (n : Nat) (j : Nat) : Nat → Int32 → Int32 → Int32 → qM → qR
  | 0, _, _, _, _ => none
  | m + 1, a1, a2, a3, M => b_X5_hoursFor_25 n j (f_X5_hoursFor_25 n j m) a1 a2 a3 M
theorem w_X5_hoursFor_25 {g : qG} {k : qK} (n : Nat) (j r : Nat) (hj : q_isLaw j) (hr : q_isLaw r) (o : qOk g 4 zX5_hoursFor k) : ∀ (m : Nat) (a1 a2 a3 : Int32) (M : qM), qAE g k zX5_hoursFor (qL j r) 25 [some (.inr (some 64)), some (.inl a1), some (.inl a2), some (.inl a3), none, none] [] (qL j r, M) (f_X5_hoursFor_25 n j m a1 a2 a3 M) := by
  intro m
  induction m with
  | zero =>
    intro a1 a2 a3 M
    exact qr_none
  | succ m ih =>
    intro a1 a2 a3 M
    exact wb_X5_hoursFor_25 n j r hj hr o (f_X5_hoursFor_25 n j m) ih a1 a2 a3 M
def f_X5_hoursFor (n : Nat) (j : Nat) (a1 a2 : Int32) (M : qM) : qR :=
  qg a2 12 (qc (f_X10_hasCounted n 25 a1 (M 6 a2.toNatClampNeg) M) (fun r1 m2 => (if r1 = (0 : Int32) then some ((1048576 : Int32), m2) else f_X5_hoursFor_25 n j n a1 a2 (1 : Int32) m2)))
set_option maxRecDepth 4000 in
theorem w_X5_hoursFor {g : qG} {k : qK} (n : Nat) (j r : Nat) (hj : q_isLaw j) (hr : q_isLaw r) (o : qOk g 4 zX5_hoursFor k) (a1 a2 : Int32) (M : qM) : qAE g k zX5_hoursFor (qL j r) 0 [some (.inr (some 64)), some (.inl a1), some (.inl a2), none, none, none] [] (qL j r, M) (f_X5_hoursFor n j a1 a2 M) := by
  unfold f_X5_hoursFor
  refine qr_aload_n o (q_dm dm_X5_hoursFor 0 rfl) rfl ?_
  refine qr_getr (kf := 8) o cf_X5 (sh64 j r) rfl (Nat.le_of_ble_eq_true rfl) fl_X5_39 (q_dm dm_X5_hoursFor 1 rfl) ?_
  refine qr_iload_n o (q_dm dm_X5_hoursFor 2 rfl) rfl ?_
  refine qr_aload_n o (q_dm dm_X5_hoursFor 3 rfl) rfl ?_
  refine qr_getr (kf := 0) o cf_X5 (sh64 j r) rfl (Nat.le_of_ble_eq_true rfl) fl_X5_27 (q_dm dm_X5_hoursFor 4 rfl) ?_
  refine qr_getr (kf := 2) o cf_X2 (sh3 j r) rfl (Nat.le_of_ble_eq_true rfl) fl_X5_106 (q_dm dm_X5_hoursFor 5 rfl) ?_
  refine qr_iload_n o (q_dm dm_X5_hoursFor 6 rfl) rfl ?_
  refine qr_iald o (sh6 j r) (q_dm dm_X5_hoursFor 7 rfl) ?_
  refine qr_callv_i (As := [.inl a1, .inl (M 6 a2.toNatClampNeg)]) (S := []) o (a_X10_hasCounted g k.2.1 n j r hj hr (Or.inr (Or.inr rfl)) a1 (M 6 a2.toNatClampNeg) M) (Nat.le_of_ble_eq_true rfl) zv_X10_hasCounted rfl cf_X10 (sh25 j r) ml_X5_109 (Nat.le_of_ble_eq_true rfl) (q_dm dm_X5_hoursFor 8 rfl) (fun r1 m2 => ?_)
  refine qr_if_ne (tgt := 23) o (q_dm dm_X5_hoursFor 9 rfl) (by decide) ?_ ?_
  · refine qr_iconst o (q_dm dm_X5_hoursFor 12 rfl) ic_1 ?_
    refine qs_istore_n (L' := [some (.inr (some 64)), some (.inl a1), some (.inl a2), some (.inl (1 : Int32)), none, none]) o (q_dm dm_X5_hoursFor 13 rfl) (Nat.le_of_ble_eq_true rfl) rfl ?_
    exact qr_loc (q_leS (q_leS (q_leS (q_leS (q_leN (q_leN q_le0)))))) (w_X5_hoursFor_25 n j r hj hr o n a1 a2 (1 : Int32) m2)
  · refine qr_ldc o (q_dm dm_X5_hoursFor 10 rfl) kc_X5_102 ?_
    exact qr_iret o rfl rfl (q_dm dm_X5_hoursFor 11 rfl)

theorem a_X5_hoursFor (g : qG) (l : Launch) (n : Nat) (j r : Nat) (hj : q_isLaw j) (hr : q_isLaw r) (a1 a2 : Int32) (M : qM) : qAM g l 4 zX5_hoursFor (qL j r) [.inr (some 64), .inl a1, .inl a2] (qL j r, M) (f_X5_hoursFor n j a1 a2 M) :=
  qAM.of zv_X5_hoursFor.1 (by show 3 ≤ 6; decide) (fun k hk o => w_X5_hoursFor n j r hj hr o a1 a2 M)
def tb_X5_goThroughSets : List (Nat × Instr × Nat) := [(0, (.iload_n 2, 1)), (1, (.aload_n 0, 1)), (2, (.getfield 49, 3)), (5, (.if_icmp .lt 18, 3)), (8, (.aload_n 0, 1)), (9, (.getfield 18, 3)), (12, (.iload_n 1, 1)), (13, (.sipush 256, 3)), (16, (.imul, 1)), (17, (.iload_n 3, 1)), (18, (.iadd, 1)), (19, (.iload 4, 2)), (21, (.iastore, 1)), (22, (.return_, 1)), (23, (.aload_n 0, 1)), (24, (.iload_n 1, 1)), (25, (.iload_n 2, 1)), (26, (.iconst 1, 1)), (27, (.iadd, 1)), (28, (.iload_n 3, 1)), (29, (.iload 4, 2)), (31, (.invokevirtual 86, 3)), (34, (.aload_n 0, 1)), (35, (.getfield 15, 3)), (38, (.iload_n 1, 1)), (39, (.iaload, 1)), (40, (.bipush 12, 2)), (42, (.imul, 1)), (43, (.aload_n 0, 1)), (44, (.getfield 9, 3)), (47, (.iload_n 2, 1)), (48, (.iaload, 1)), (49, (.iadd, 1)), (50, (.istore 5, 2)), (52, (.aload_n 0, 1)), (53, (.getfield 39, 3)), (56, (.getfield 96, 3)), (59, (.iload 5, 2)), (61, (.iaload, 1)), (62, (.istore 6, 2)), (64, (.aload_n 0, 1)), (65, (.getfield 39, 3)), (68, (.getfield 99, 3)), (71, (.iload 5, 2)), (73, (.iaload, 1)), (74, (.istore 7, 2)), (76, (.iload 4, 2)), (78, (.ldc 102, 2)), (80, (.if_icmp .ge 22, 3)), (83, (.aload_n 0, 1)), (84, (.aload_n 0, 1)), (85, (.getfield 15, 3)), (88, (.iload_n 1, 1)), (89, (.iaload, 1)), (90, (.aload_n 0, 1)), (91, (.getfield 9, 3)), (94, (.iload_n 2, 1)), (95, (.iaload, 1)), (96, (.invokevirtual 103, 3)), (99, (.goto 5, 3)), (102, (.ldc 102, 2)), (104, (.istore 8, 2)), (106, (.aload_n 0, 1)), (107, (.iload_n 1, 1)), (108, (.iload_n 2, 1)), (109, (.iconst 1, 1)), (110, (.iadd, 1)), (111, (.iload_n 3, 1)), (112, (.iconst 1, 1)), (113, (.iload_n 2, 1)), (114, (.ishl, 1)), (115, (.ior, 1)), (116, (.ldc 102, 2)), (118, (.iload 4, 2)), (120, (.iload 8, 2)), (122, (.iadd, 1)), (123, (.invokestatic 43, 3)), (126, (.invokevirtual 86, 3)), (129, (.aload_n 0, 1)), (130, (.getfield 39, 3)), (133, (.getfield 96, 3)), (136, (.iload 5, 2)), (138, (.iload 6, 2)), (140, (.iastore, 1)), (141, (.aload_n 0, 1)), (142, (.getfield 39, 3)), (145, (.getfield 99, 3)), (148, (.iload 5, 2)), (150, (.iload 7, 2)), (152, (.iastore, 1)), (153, (.return_, 1))]
theorem dm_X5_goThroughSets : ∀ q ∈ tb_X5_goThroughSets, decode zX5_goThroughSets.2.1 q.1 = .ok q.2 := by decide +kernel
def f_X5_goThroughSets_104 (n : Nat) (j : Nat) (F_X5_goThroughSets : Int32 → Int32 → Int32 → Int32 → qM → qR) (a1 a2 a3 a4 a5 a6 a7 s0 : Int32) (M : qM) : qR :=
  qc (F_X5_goThroughSets a1 (a2 + (1 : Int32)) (a3 ||| ((1 : Int32) <<< (a2 &&& 31))) (qmin (1048576 : Int32) (a4 + s0)) M) (fun _ m1 => qg a5 96 (qlm (mu m1 27 a5.toNatClampNeg a6) (fun m2 => qg a5 96 (qlm (mu m2 29 a5.toNatClampNeg a7) (fun m3 => some (0, m3))))))
set_option maxRecDepth 4000 in
theorem w_X5_goThroughSets_104 {g : qG} {k : qK} (n : Nat) (j r : Nat) (hj : q_isLaw j) (hr : q_isLaw r) {d1 d : Nat} (hd1 : d1 + 1 ≤ d) (hdn : 5 ≤ d) (F_X5_goThroughSets : Int32 → Int32 → Int32 → Int32 → qM → qR) (hF_X5_goThroughSets : ∀ (b1 b2 b3 b4 : Int32) (M : qM), qAM g k.2.1 d1 zX5_goThroughSets (qL j r) [.inr (some 64), .inl b1, .inl b2, .inl b3, .inl b4] (qL j r, M) (F_X5_goThroughSets b1 b2 b3 b4 M)) (o : qOk g d zX5_goThroughSets k) (a1 a2 a3 a4 a5 a6 a7 s0 : Int32) (M : qM) : qAE g k zX5_goThroughSets (qL j r) 104 [some (.inr (some 64)), some (.inl a1), some (.inl a2), some (.inl a3), some (.inl a4), some (.inl a5), some (.inl a6), some (.inl a7), none] [.inl s0] (qL j r, M) (f_X5_goThroughSets_104 n j F_X5_goThroughSets a1 a2 a3 a4 a5 a6 a7 s0 M) := by
  unfold f_X5_goThroughSets_104
  refine qs_istore (L' := [some (.inr (some 64)), some (.inl a1), some (.inl a2), some (.inl a3), some (.inl a4), some (.inl a5), some (.inl a6), some (.inl a7), some (.inl s0)]) o (q_dm dm_X5_goThroughSets 61 rfl) (Nat.le_of_ble_eq_true rfl) rfl ?_
  refine qr_aload_n o (q_dm dm_X5_goThroughSets 62 rfl) rfl ?_
  refine qr_iload_n o (q_dm dm_X5_goThroughSets 63 rfl) rfl ?_
  refine qr_iload_n o (q_dm dm_X5_goThroughSets 64 rfl) rfl ?_
  refine qr_iconst o (q_dm dm_X5_goThroughSets 65 rfl) ic_1 ?_
  refine qr_iadd o (q_dm dm_X5_goThroughSets 66 rfl) ?_
  refine qr_iload_n o (q_dm dm_X5_goThroughSets 67 rfl) rfl ?_
  refine qr_iconst o (q_dm dm_X5_goThroughSets 68 rfl) ic_1 ?_
  refine qr_iload_n o (q_dm dm_X5_goThroughSets 69 rfl) rfl ?_
  refine qr_ishl o (q_dm dm_X5_goThroughSets 70 rfl) ?_
  refine qr_ior o (q_dm dm_X5_goThroughSets 71 rfl) ?_
  refine qr_ldc o (q_dm dm_X5_goThroughSets 72 rfl) kc_X5_102 ?_
  refine qr_iload o (q_dm dm_X5_goThroughSets 73 rfl) rfl ?_
  refine qr_iload o (q_dm dm_X5_goThroughSets 74 rfl) rfl ?_
  refine qr_iadd o (q_dm dm_X5_goThroughSets 75 rfl) ?_
  refine qr_min o ml_X5_43 (by omega) (Nat.le_of_ble_eq_true rfl) (q_dm dm_X5_goThroughSets 76 rfl) ?_
  refine qr_callv_v (As := [.inl a1, .inl (a2 + (1 : Int32)), .inl (a3 ||| ((1 : Int32) <<< (a2 &&& 31))), .inl (qmin (1048576 : Int32) (a4 + s0))]) (S := []) o (hF_X5_goThroughSets a1 (a2 + (1 : Int32)) (a3 ||| ((1 : Int32) <<< (a2 &&& 31))) (qmin (1048576 : Int32) (a4 + s0)) M) (by omega) zv_X5_goThroughSets rfl cf_X5 (sh64 j r) ml_X5_86 (Nat.le_of_ble_eq_true rfl) (q_dm dm_X5_goThroughSets 77 rfl) (fun _ m1 => ?_)
  refine qr_aload_n o (q_dm dm_X5_goThroughSets 78 rfl) rfl ?_
  refine qr_getr (kf := 8) o cf_X5 (sh64 j r) rfl (Nat.le_of_ble_eq_true rfl) fl_X5_39 (q_dm dm_X5_goThroughSets 79 rfl) ?_
  refine qr_getr (kf := 1) o cf_X10 (sh25 j r) rfl (Nat.le_of_ble_eq_true rfl) fl_X5_96 (q_dm dm_X5_goThroughSets 80 rfl) ?_
  refine qr_iload o (q_dm dm_X5_goThroughSets 81 rfl) rfl ?_
  refine qr_iload o (q_dm dm_X5_goThroughSets 82 rfl) rfl ?_
  refine qr_iast o (sh27 j r) (q_dm dm_X5_goThroughSets 83 rfl) ?_
  refine qr_letm (fun m2 => ?_)
  refine qr_aload_n o (q_dm dm_X5_goThroughSets 84 rfl) rfl ?_
  refine qr_getr (kf := 8) o cf_X5 (sh64 j r) rfl (Nat.le_of_ble_eq_true rfl) fl_X5_39 (q_dm dm_X5_goThroughSets 85 rfl) ?_
  refine qr_getr (kf := 3) o cf_X10 (sh25 j r) rfl (Nat.le_of_ble_eq_true rfl) fl_X5_99 (q_dm dm_X5_goThroughSets 86 rfl) ?_
  refine qr_iload o (q_dm dm_X5_goThroughSets 87 rfl) rfl ?_
  refine qr_iload o (q_dm dm_X5_goThroughSets 88 rfl) rfl ?_
  refine qr_iast o (sh29 j r) (q_dm dm_X5_goThroughSets 89 rfl) ?_
  refine qr_letm (fun m3 => ?_)
  exact qr_vret o rfl (q_dm dm_X5_goThroughSets 90 rfl)

def fo_X5_goThroughSets (n : Nat) (j : Nat) (F_X5_goThroughSets : Int32 → Int32 → Int32 → Int32 → qM → qR) (a1 a2 a3 a4 : Int32) (M : qM) : qR :=
  (if a2 < (M 64 9) then qc (F_X5_goThroughSets a1 (a2 + (1 : Int32)) a3 a4 M) (fun _ m1 => qg a1 3 (qg a2 8 (ql (((m1 66 a1.toNatClampNeg) * (12 : Int32)) + (m1 65 a2.toNatClampNeg)) (fun x2 => qg x2 96 (ql (m1 27 x2.toNatClampNeg) (fun x3 => qg x2 96 (ql (m1 29 x2.toNatClampNeg) (fun x4 => (if (1048576 : Int32) ≤ a4 then f_X5_goThroughSets_104 n j F_X5_goThroughSets a1 a2 a3 a4 x2 x3 x4 (1048576 : Int32) m1 else qg a1 3 (qg a2 8 (qc (f_X5_hoursFor n j (m1 66 a1.toNatClampNeg) (m1 65 a2.toNatClampNeg) m1) (fun r5 m6 => f_X5_goThroughSets_104 n j F_X5_goThroughSets a1 a2 a3 a4 x2 x3 x4 r5 m6)))))))))))) else qg ((a1 * (256 : Int32)) + a3) 768 (qlm (mu M 67 ((a1 * (256 : Int32)) + a3).toNatClampNeg a4) (fun m7 => some (0, m7))))
set_option maxRecDepth 4000 in
theorem w_X5_goThroughSets {g : qG} {k : qK} (n : Nat) (j r : Nat) (hj : q_isLaw j) (hr : q_isLaw r) {d1 d : Nat} (hd1 : d1 + 1 ≤ d) (hdn : 5 ≤ d) (F_X5_goThroughSets : Int32 → Int32 → Int32 → Int32 → qM → qR) (hF_X5_goThroughSets : ∀ (b1 b2 b3 b4 : Int32) (M : qM), qAM g k.2.1 d1 zX5_goThroughSets (qL j r) [.inr (some 64), .inl b1, .inl b2, .inl b3, .inl b4] (qL j r, M) (F_X5_goThroughSets b1 b2 b3 b4 M)) (o : qOk g d zX5_goThroughSets k) (a1 a2 a3 a4 : Int32) (M : qM) : qAE g k zX5_goThroughSets (qL j r) 0 [some (.inr (some 64)), some (.inl a1), some (.inl a2), some (.inl a3), some (.inl a4), none, none, none, none] [] (qL j r, M) (fo_X5_goThroughSets n j F_X5_goThroughSets a1 a2 a3 a4 M) := by
  unfold fo_X5_goThroughSets
  refine qr_iload_n o (q_dm dm_X5_goThroughSets 0 rfl) rfl ?_
  refine qr_aload_n o (q_dm dm_X5_goThroughSets 1 rfl) rfl ?_
  refine qr_getf (kf := 9) o cf_X5 (sh64 j r) rfl (Nat.le_of_ble_eq_true rfl) fl_X5_49 (q_dm dm_X5_goThroughSets 2 rfl) ?_
  refine qr_icmp_lt (tgt := 23) o (q_dm dm_X5_goThroughSets 3 rfl) (by decide) ?_ ?_
  · refine qr_aload_n o (q_dm dm_X5_goThroughSets 14 rfl) rfl ?_
    refine qr_iload_n o (q_dm dm_X5_goThroughSets 15 rfl) rfl ?_
    refine qr_iload_n o (q_dm dm_X5_goThroughSets 16 rfl) rfl ?_
    refine qr_iconst o (q_dm dm_X5_goThroughSets 17 rfl) ic_1 ?_
    refine qr_iadd o (q_dm dm_X5_goThroughSets 18 rfl) ?_
    refine qr_iload_n o (q_dm dm_X5_goThroughSets 19 rfl) rfl ?_
    refine qr_iload o (q_dm dm_X5_goThroughSets 20 rfl) rfl ?_
    refine qr_callv_v (As := [.inl a1, .inl (a2 + (1 : Int32)), .inl a3, .inl a4]) (S := []) o (hF_X5_goThroughSets a1 (a2 + (1 : Int32)) a3 a4 M) (by omega) zv_X5_goThroughSets rfl cf_X5 (sh64 j r) ml_X5_86 (Nat.le_of_ble_eq_true rfl) (q_dm dm_X5_goThroughSets 21 rfl) (fun _ m1 => ?_)
    refine qr_aload_n o (q_dm dm_X5_goThroughSets 22 rfl) rfl ?_
    refine qr_getr (kf := 4) o cf_X5 (sh64 j r) rfl (Nat.le_of_ble_eq_true rfl) fl_X5_15 (q_dm dm_X5_goThroughSets 23 rfl) ?_
    refine qr_iload_n o (q_dm dm_X5_goThroughSets 24 rfl) rfl ?_
    refine qr_iald o (sh66 j r) (q_dm dm_X5_goThroughSets 25 rfl) ?_
    refine qr_bipush o (q_dm dm_X5_goThroughSets 26 rfl) bi_12 ?_
    refine qr_imul o (q_dm dm_X5_goThroughSets 27 rfl) ?_
    refine qr_aload_n o (q_dm dm_X5_goThroughSets 28 rfl) rfl ?_
    refine qr_getr (kf := 3) o cf_X5 (sh64 j r) rfl (Nat.le_of_ble_eq_true rfl) fl_X5_9 (q_dm dm_X5_goThroughSets 29 rfl) ?_
    refine qr_iload_n o (q_dm dm_X5_goThroughSets 30 rfl) rfl ?_
    refine qr_iald o (sh65 j r) (q_dm dm_X5_goThroughSets 31 rfl) ?_
    refine qr_iadd o (q_dm dm_X5_goThroughSets 32 rfl) ?_
    refine qr_lt (fun x2 => ?_)
    refine qs_istore (L' := [some (.inr (some 64)), some (.inl a1), some (.inl a2), some (.inl a3), some (.inl a4), some (.inl x2), none, none, none]) o (q_dm dm_X5_goThroughSets 33 rfl) (Nat.le_of_ble_eq_true rfl) rfl ?_
    refine qr_aload_n o (q_dm dm_X5_goThroughSets 34 rfl) rfl ?_
    refine qr_getr (kf := 8) o cf_X5 (sh64 j r) rfl (Nat.le_of_ble_eq_true rfl) fl_X5_39 (q_dm dm_X5_goThroughSets 35 rfl) ?_
    refine qr_getr (kf := 1) o cf_X10 (sh25 j r) rfl (Nat.le_of_ble_eq_true rfl) fl_X5_96 (q_dm dm_X5_goThroughSets 36 rfl) ?_
    refine qr_iload o (q_dm dm_X5_goThroughSets 37 rfl) rfl ?_
    refine qr_iald o (sh27 j r) (q_dm dm_X5_goThroughSets 38 rfl) ?_
    refine qr_lt (fun x3 => ?_)
    refine qs_istore (L' := [some (.inr (some 64)), some (.inl a1), some (.inl a2), some (.inl a3), some (.inl a4), some (.inl x2), some (.inl x3), none, none]) o (q_dm dm_X5_goThroughSets 39 rfl) (Nat.le_of_ble_eq_true rfl) rfl ?_
    refine qr_aload_n o (q_dm dm_X5_goThroughSets 40 rfl) rfl ?_
    refine qr_getr (kf := 8) o cf_X5 (sh64 j r) rfl (Nat.le_of_ble_eq_true rfl) fl_X5_39 (q_dm dm_X5_goThroughSets 41 rfl) ?_
    refine qr_getr (kf := 3) o cf_X10 (sh25 j r) rfl (Nat.le_of_ble_eq_true rfl) fl_X5_99 (q_dm dm_X5_goThroughSets 42 rfl) ?_
    refine qr_iload o (q_dm dm_X5_goThroughSets 43 rfl) rfl ?_
    refine qr_iald o (sh29 j r) (q_dm dm_X5_goThroughSets 44 rfl) ?_
    refine qr_lt (fun x4 => ?_)
    refine qs_istore (L' := [some (.inr (some 64)), some (.inl a1), some (.inl a2), some (.inl a3), some (.inl a4), some (.inl x2), some (.inl x3), some (.inl x4), none]) o (q_dm dm_X5_goThroughSets 45 rfl) (Nat.le_of_ble_eq_true rfl) rfl ?_
    refine qr_iload o (q_dm dm_X5_goThroughSets 46 rfl) rfl ?_
    refine qr_ldc o (q_dm dm_X5_goThroughSets 47 rfl) kc_X5_102 ?_
    refine qr_icmp_ge (tgt := 102) o (q_dm dm_X5_goThroughSets 48 rfl) (by decide) ?_ ?_
    · refine qr_ldc o (q_dm dm_X5_goThroughSets 60 rfl) kc_X5_102 ?_
      exact qr_loc (q_leS (q_leS (q_leS (q_leS (q_leS (q_leS (q_leS (q_leS (q_leN q_le0))))))))) (w_X5_goThroughSets_104 n j r hj hr hd1 hdn F_X5_goThroughSets hF_X5_goThroughSets o a1 a2 a3 a4 x2 x3 x4 (1048576 : Int32) m1)
    · refine qr_aload_n o (q_dm dm_X5_goThroughSets 49 rfl) rfl ?_
      refine qr_aload_n o (q_dm dm_X5_goThroughSets 50 rfl) rfl ?_
      refine qr_getr (kf := 4) o cf_X5 (sh64 j r) rfl (Nat.le_of_ble_eq_true rfl) fl_X5_15 (q_dm dm_X5_goThroughSets 51 rfl) ?_
      refine qr_iload_n o (q_dm dm_X5_goThroughSets 52 rfl) rfl ?_
      refine qr_iald o (sh66 j r) (q_dm dm_X5_goThroughSets 53 rfl) ?_
      refine qr_aload_n o (q_dm dm_X5_goThroughSets 54 rfl) rfl ?_
      refine qr_getr (kf := 3) o cf_X5 (sh64 j r) rfl (Nat.le_of_ble_eq_true rfl) fl_X5_9 (q_dm dm_X5_goThroughSets 55 rfl) ?_
      refine qr_iload_n o (q_dm dm_X5_goThroughSets 56 rfl) rfl ?_
      refine qr_iald o (sh65 j r) (q_dm dm_X5_goThroughSets 57 rfl) ?_
      refine qr_callv_i (As := [.inl (m1 66 a1.toNatClampNeg), .inl (m1 65 a2.toNatClampNeg)]) (S := []) o (a_X5_hoursFor g k.2.1 n j r hj hr (m1 66 a1.toNatClampNeg) (m1 65 a2.toNatClampNeg) m1) (by omega) zv_X5_hoursFor rfl cf_X5 (sh64 j r) ml_X5_103 (Nat.le_of_ble_eq_true rfl) (q_dm dm_X5_goThroughSets 58 rfl) (fun r5 m6 => ?_)
      refine qr_goto (tgt := 104) o (q_dm dm_X5_goThroughSets 59 rfl) (by decide) ?_
      exact qr_loc (q_leS (q_leS (q_leS (q_leS (q_leS (q_leS (q_leS (q_leS (q_leN q_le0))))))))) (w_X5_goThroughSets_104 n j r hj hr hd1 hdn F_X5_goThroughSets hF_X5_goThroughSets o a1 a2 a3 a4 x2 x3 x4 r5 m6)
  · refine qr_aload_n o (q_dm dm_X5_goThroughSets 4 rfl) rfl ?_
    refine qr_getr (kf := 5) o cf_X5 (sh64 j r) rfl (Nat.le_of_ble_eq_true rfl) fl_X5_18 (q_dm dm_X5_goThroughSets 5 rfl) ?_
    refine qr_iload_n o (q_dm dm_X5_goThroughSets 6 rfl) rfl ?_
    refine qr_sipush o (q_dm dm_X5_goThroughSets 7 rfl) si_256 ?_
    refine qr_imul o (q_dm dm_X5_goThroughSets 8 rfl) ?_
    refine qr_iload_n o (q_dm dm_X5_goThroughSets 9 rfl) rfl ?_
    refine qr_iadd o (q_dm dm_X5_goThroughSets 10 rfl) ?_
    refine qr_iload o (q_dm dm_X5_goThroughSets 11 rfl) rfl ?_
    refine qr_iast o (sh67 j r) (q_dm dm_X5_goThroughSets 12 rfl) ?_
    refine qr_letm (fun m7 => ?_)
    exact qr_vret o rfl (q_dm dm_X5_goThroughSets 13 rfl)

theorem ao_X5_goThroughSets (g : qG) (l : Launch) (n : Nat) (j r : Nat) (hj : q_isLaw j) (hr : q_isLaw r) {d1 d : Nat} (hd1 : d1 + 1 ≤ d) (hdn : 5 ≤ d) (F_X5_goThroughSets : Int32 → Int32 → Int32 → Int32 → qM → qR) (hF_X5_goThroughSets : ∀ (b1 b2 b3 b4 : Int32) (M : qM), qAM g l d1 zX5_goThroughSets (qL j r) [.inr (some 64), .inl b1, .inl b2, .inl b3, .inl b4] (qL j r, M) (F_X5_goThroughSets b1 b2 b3 b4 M)) (a1 a2 a3 a4 : Int32) (M : qM) : qAM g l d zX5_goThroughSets (qL j r) [.inr (some 64), .inl a1, .inl a2, .inl a3, .inl a4] (qL j r, M) (fo_X5_goThroughSets n j F_X5_goThroughSets a1 a2 a3 a4 M) :=
  qAM.of zv_X5_goThroughSets.1 (by show 5 ≤ 9; decide) (fun k hk o => by subst hk; exact w_X5_goThroughSets n j r hj hr hd1 hdn F_X5_goThroughSets hF_X5_goThroughSets o a1 a2 a3 a4 M)
def rc_X5_goThroughSets (n : Nat) (j : Nat) : Nat → Int32 → Int32 → Int32 → Int32 → qM → qR
  | 0, _, _, _, _, _ => none
  | m + 1, a1, a2, a3, a4, M => fo_X5_goThroughSets n j (rc_X5_goThroughSets n j m) a1 a2 a3 a4 M

theorem rc_X5_goThroughSets_ok (g : qG) (l : Launch) (n : Nat) (j r : Nat) (hj : q_isLaw j) (hr : q_isLaw r) : ∀ m : Nat, (∀ (a1 a2 a3 a4 : Int32) (M : qM), qAM g l (5 + m) zX5_goThroughSets (qL j r) [.inr (some 64), .inl a1, .inl a2, .inl a3, .inl a4] (qL j r, M) (rc_X5_goThroughSets n j m a1 a2 a3 a4 M)) := by
  intro m
  induction m with
  | zero => exact fun _ _ _ _ _ _ _ h => by cases h
  | succ m ih =>
    exact (fun a1 a2 a3 a4 M => ao_X5_goThroughSets g l n j r hj hr (d1 := 5 + m) (d := 5 + (m + 1)) (Nat.le_refl _) (Nat.le_add_right _ _) (rc_X5_goThroughSets n j m) ih a1 a2 a3 a4 M)

def f_X5_goThroughSets (n : Nat) (j : Nat) (a1 a2 a3 a4 : Int32) (M : qM) : qR := rc_X5_goThroughSets n j 12 a1 a2 a3 a4 M
theorem a_X5_goThroughSets (g : qG) (l : Launch) (n : Nat) (j r : Nat) (hj : q_isLaw j) (hr : q_isLaw r) (a1 a2 a3 a4 : Int32) (M : qM) : qAM g l 17 zX5_goThroughSets (qL j r) [.inr (some 64), .inl a1, .inl a2, .inl a3, .inl a4] (qL j r, M) (f_X5_goThroughSets n j a1 a2 a3 a4 M) := (rc_X5_goThroughSets_ok g l n j r hj hr 12) a1 a2 a3 a4 M
def tb_X5_solve : List (Nat × Instr × Nat) := [(0, (.aload_n 0, 1)), (1, (.getfield 39, 3)), (4, (.aload_n 1, 1)), (5, (.invokevirtual 73, 3)), (8, (.iconst 0, 1)), (9, (.istore_n 2, 1)), (10, (.iload_n 2, 1)), (11, (.aload_n 0, 1)), (12, (.getfield 49, 3)), (15, (.if_icmp .ge 37, 3)), (18, (.aload_n 0, 1)), (19, (.getfield 21, 3)), (22, (.aload_n 0, 1)), (23, (.getfield 9, 3)), (26, (.iload_n 2, 1)), (27, (.iaload, 1)), (28, (.aload_n 0, 1)), (29, (.getfield 31, 3)), (32, (.aload_n 0, 1)), (33, (.getfield 9, 3)), (36, (.iload_n 2, 1)), (37, (.iaload, 1)), (38, (.aload_n 1, 1)), (39, (.getfield 79, 3)), (42, (.invokevirtual 82, 3)), (45, (.iastore, 1)), (46, (.iinc 2 1, 3)), (49, (.goto (-39), 3)), (52, (.iconst 0, 1)), (53, (.istore_n 2, 1)), (54, (.iload_n 2, 1)), (55, (.aload_n 0, 1)), (56, (.getfield 65, 3)), (59, (.if_icmp .ge 17, 3)), (62, (.aload_n 0, 1)), (63, (.iload_n 2, 1)), (64, (.iconst 0, 1)), (65, (.iconst 0, 1)), (66, (.iconst 0, 1)), (67, (.invokevirtual 86, 3)), (70, (.iinc 2 1, 3)), (73, (.goto (-19), 3)), (76, (.aload_n 0, 1)), (77, (.invokevirtual 90, 3)), (80, (.return_, 1))]
theorem dm_X5_solve : ∀ q ∈ tb_X5_solve, decode zX5_solve.2.1 q.1 = .ok q.2 := by decide +kernel
def b_X5_solve_54 (n : Nat) (t j : Nat) (K54 : Int32 → qM → qR) (a2 : Int32) (M : qM) : qR :=
  (if (M 64 10) ≤ a2 then qc (f_X5_findBestRow n  M) (fun _ m1 => some (0, m1)) else qc (f_X5_goThroughSets n j a2 (0 : Int32) (0 : Int32) (0 : Int32) M) (fun _ m2 => ql (a2 + (1 : Int32)) (fun x3 => K54 x3 m2)))
set_option maxRecDepth 4000 in
theorem wb_X5_solve_54 {g : qG} {k : qK} (n : Nat) (j r : Nat) (hj : q_isLaw j) (hr : q_isLaw r) {t : Nat} (ht : q_isTown t) (o : qOk g 18 zX5_solve k) (K54 : Int32 → qM → qR) (hK54 : ∀ (a2 : Int32) (M : qM), qAE g k zX5_solve (qL j r) 54 [some (.inr (some 64)), none, some (.inl a2)] [] (qL j r, M) (K54 a2 M)) (a2 : Int32) (M : qM) : qAE g k zX5_solve (qL j r) 54 [some (.inr (some 64)), none, some (.inl a2)] [] (qL j r, M) (b_X5_solve_54 n t j K54 a2 M) := by
  unfold b_X5_solve_54
  refine qr_iload_n o (q_dm dm_X5_solve 30 rfl) rfl ?_
  refine qr_aload_n o (q_dm dm_X5_solve 31 rfl) rfl ?_
  refine qr_getf (kf := 10) o cf_X5 (sh64 j r) rfl (Nat.le_of_ble_eq_true rfl) fl_X5_65 (q_dm dm_X5_solve 32 rfl) ?_
  refine qr_icmp_ge (tgt := 76) o (q_dm dm_X5_solve 33 rfl) (by decide) ?_ ?_
  · refine qr_aload_n o (q_dm dm_X5_solve 42 rfl) rfl ?_
    refine qr_callv_v (As := []) (S := []) o (a_X5_findBestRow g k.2.1 n j r hj hr  M) (Nat.le_of_ble_eq_true rfl) zv_X5_findBestRow rfl cf_X5 (sh64 j r) ml_X5_90 (Nat.le_of_ble_eq_true rfl) (q_dm dm_X5_solve 43 rfl) (fun _ m1 => ?_)
    exact qr_vret o rfl (q_dm dm_X5_solve 44 rfl)
  · refine qr_aload_n o (q_dm dm_X5_solve 34 rfl) rfl ?_
    refine qr_iload_n o (q_dm dm_X5_solve 35 rfl) rfl ?_
    refine qr_iconst o (q_dm dm_X5_solve 36 rfl) ic_0 ?_
    refine qr_iconst o (q_dm dm_X5_solve 37 rfl) ic_0 ?_
    refine qr_iconst o (q_dm dm_X5_solve 38 rfl) ic_0 ?_
    refine qr_callv_v (As := [.inl a2, .inl (0 : Int32), .inl (0 : Int32), .inl (0 : Int32)]) (S := []) o (a_X5_goThroughSets g k.2.1 n j r hj hr a2 (0 : Int32) (0 : Int32) (0 : Int32) M) (Nat.le_of_ble_eq_true rfl) zv_X5_goThroughSets rfl cf_X5 (sh64 j r) ml_X5_86 (Nat.le_of_ble_eq_true rfl) (q_dm dm_X5_solve 39 rfl) (fun _ m2 => ?_)
    refine qs_iincl2 (L' := fun x3 => [some (.inr (some 64)), none, some (.inl x3)]) o (q_dm dm_X5_solve 40 rfl) rfl ic_1 (Nat.le_of_ble_eq_true rfl) (fun _ => rfl) (fun x3 => ?_)
    refine qr_goto (tgt := 54) o (q_dm dm_X5_solve 41 rfl) (by decide) ?_
    exact qr_loc (q_leS (q_leN (q_leS q_le0))) (hK54 x3 m2)

def f_X5_solve_54 (n : Nat) (t j : Nat) : Nat → Int32 → qM → qR
  | 0, _, _ => none
  | m + 1, a2, M => b_X5_solve_54 n t j (f_X5_solve_54 n t j m) a2 M
theorem w_X5_solve_54 {g : qG} {k : qK} (n : Nat) (j r : Nat) (hj : q_isLaw j) (hr : q_isLaw r) {t : Nat} (ht : q_isTown t) (o : qOk g 18 zX5_solve k) : ∀ (m : Nat) (a2 : Int32) (M : qM), qAE g k zX5_solve (qL j r) 54 [some (.inr (some 64)), none, some (.inl a2)] [] (qL j r, M) (f_X5_solve_54 n t j m a2 M) := by
  intro m
  induction m with
  | zero =>
    intro a2 M
    exact qr_none
  | succ m ih =>
    intro a2 M
    exact wb_X5_solve_54 n j r hj hr ht o (f_X5_solve_54 n t j m) ih a2 M
def b_X5_solve_10 (n : Nat) (t j : Nat) (K10 : Int32 → qM → qR) (a2 : Int32) (M : qM) : qR :=
  (if (M 64 9) ≤ a2 then f_X5_solve_54 n t j n (0 : Int32) M else qg a2 8 (qg a2 8 (qc (f_X1_alikes n j (M 65 a2.toNatClampNeg) (M t 9) M) (fun r1 m2 => qg (M 65 a2.toNatClampNeg) 12 (qlm (mu m2 68 (M 65 a2.toNatClampNeg).toNatClampNeg r1) (fun m3 => ql (a2 + (1 : Int32)) (fun x4 => K10 x4 m3)))))))
set_option maxRecDepth 4000 in
theorem wb_X5_solve_10 {g : qG} {k : qK} (n : Nat) (j r : Nat) (hj : q_isLaw j) (hr : q_isLaw r) {t : Nat} (ht : q_isTown t) (o : qOk g 18 zX5_solve k) (K10 : Int32 → qM → qR) (hK10 : ∀ (a2 : Int32) (M : qM), qAE g k zX5_solve (qL j r) 10 [some (.inr (some 64)), some (.inr (some t)), some (.inl a2)] [] (qL j r, M) (K10 a2 M)) (a2 : Int32) (M : qM) : qAE g k zX5_solve (qL j r) 10 [some (.inr (some 64)), some (.inr (some t)), some (.inl a2)] [] (qL j r, M) (b_X5_solve_10 n t j K10 a2 M) := by
  unfold b_X5_solve_10
  refine qr_iload_n o (q_dm dm_X5_solve 6 rfl) rfl ?_
  refine qr_aload_n o (q_dm dm_X5_solve 7 rfl) rfl ?_
  refine qr_getf (kf := 9) o cf_X5 (sh64 j r) rfl (Nat.le_of_ble_eq_true rfl) fl_X5_49 (q_dm dm_X5_solve 8 rfl) ?_
  refine qr_icmp_ge (tgt := 52) o (q_dm dm_X5_solve 9 rfl) (by decide) ?_ ?_
  · refine qr_iconst o (q_dm dm_X5_solve 28 rfl) ic_0 ?_
    refine qs_istore_n (L' := [some (.inr (some 64)), some (.inr (some t)), some (.inl (0 : Int32))]) o (q_dm dm_X5_solve 29 rfl) (Nat.le_of_ble_eq_true rfl) rfl ?_
    exact qr_loc (q_leS (q_leN (q_leS q_le0))) (w_X5_solve_54 n j r hj hr ht o n (0 : Int32) M)
  · refine qr_aload_n o (q_dm dm_X5_solve 10 rfl) rfl ?_
    refine qr_getr (kf := 6) o cf_X5 (sh64 j r) rfl (Nat.le_of_ble_eq_true rfl) fl_X5_21 (q_dm dm_X5_solve 11 rfl) ?_
    refine qr_aload_n o (q_dm dm_X5_solve 12 rfl) rfl ?_
    refine qr_getr (kf := 3) o cf_X5 (sh64 j r) rfl (Nat.le_of_ble_eq_true rfl) fl_X5_9 (q_dm dm_X5_solve 13 rfl) ?_
    refine qr_iload_n o (q_dm dm_X5_solve 14 rfl) rfl ?_
    refine qr_iald o (sh65 j r) (q_dm dm_X5_solve 15 rfl) ?_
    refine qr_aload_n o (q_dm dm_X5_solve 16 rfl) rfl ?_
    refine qr_getr (kf := 1) o cf_X5 (sh64 j r) rfl (Nat.le_of_ble_eq_true rfl) fl_X5_31 (q_dm dm_X5_solve 17 rfl) ?_
    refine qr_aload_n o (q_dm dm_X5_solve 18 rfl) rfl ?_
    refine qr_getr (kf := 3) o cf_X5 (sh64 j r) rfl (Nat.le_of_ble_eq_true rfl) fl_X5_9 (q_dm dm_X5_solve 19 rfl) ?_
    refine qr_iload_n o (q_dm dm_X5_solve 20 rfl) rfl ?_
    refine qr_iald o (sh65 j r) (q_dm dm_X5_solve 21 rfl) ?_
    refine qr_aload_n o (q_dm dm_X5_solve 22 rfl) rfl ?_
    refine qr_getf (kf := 9) o cf_X10 (shT0 j r ht) rfl (Nat.le_of_ble_eq_true rfl) fl_X5_79 (q_dm dm_X5_solve 23 rfl) ?_
    refine qr_callv_i (As := [.inl (M 65 a2.toNatClampNeg), .inl (M t 9)]) (S := [.inl (M 65 a2.toNatClampNeg), .inr (some 68)]) o (a_X1_alikes g k.2.1 n j r hj hr (M 65 a2.toNatClampNeg) (M t 9) M) (Nat.le_of_ble_eq_true rfl) zv_X1_alikes rfl cf_X1 (sh34 j r) ml_X5_82 (Nat.le_of_ble_eq_true rfl) (q_dm dm_X5_solve 24 rfl) (fun r1 m2 => ?_)
    refine qr_iast o (sh68 j r) (q_dm dm_X5_solve 25 rfl) ?_
    refine qr_letm (fun m3 => ?_)
    refine qs_iincl2 (L' := fun x4 => [some (.inr (some 64)), some (.inr (some t)), some (.inl x4)]) o (q_dm dm_X5_solve 26 rfl) rfl ic_1 (Nat.le_of_ble_eq_true rfl) (fun _ => rfl) (fun x4 => ?_)
    refine qr_goto (tgt := 10) o (q_dm dm_X5_solve 27 rfl) (by decide) ?_
    exact qr_loc (q_leS (q_leS (q_leS q_le0))) (hK10 x4 m3)

def f_X5_solve_10 (n : Nat) (t j : Nat) : Nat → Int32 → qM → qR
  | 0, _, _ => none
  | m + 1, a2, M => b_X5_solve_10 n t j (f_X5_solve_10 n t j m) a2 M
theorem w_X5_solve_10 {g : qG} {k : qK} (n : Nat) (j r : Nat) (hj : q_isLaw j) (hr : q_isLaw r) {t : Nat} (ht : q_isTown t) (o : qOk g 18 zX5_solve k) : ∀ (m : Nat) (a2 : Int32) (M : qM), qAE g k zX5_solve (qL j r) 10 [some (.inr (some 64)), some (.inr (some t)), some (.inl a2)] [] (qL j r, M) (f_X5_solve_10 n t j m a2 M) := by
  intro m
  induction m with
  | zero =>
    intro a2 M
    exact qr_none
  | succ m ih =>
    intro a2 M
    exact wb_X5_solve_10 n j r hj hr ht o (f_X5_solve_10 n t j m) ih a2 M
def f_X5_solve (n : Nat) (t j : Nat) (M : qM) : qR :=
  qc (f_X10_copy n 25 t M) (fun _ m1 => f_X5_solve_10 n t j n (0 : Int32) m1)
set_option maxRecDepth 4000 in
theorem w_X5_solve {g : qG} {k : qK} (n : Nat) (j r : Nat) (hj : q_isLaw j) (hr : q_isLaw r) {t : Nat} (ht : q_isTown t) (o : qOk g 18 zX5_solve k) (M : qM) : qAE g k zX5_solve (qL j r) 0 [some (.inr (some 64)), some (.inr (some t)), none] [] (qL j r, M) (f_X5_solve n t j  M) := by
  unfold f_X5_solve
  refine qr_aload_n o (q_dm dm_X5_solve 0 rfl) rfl ?_
  refine qr_getr (kf := 8) o cf_X5 (sh64 j r) rfl (Nat.le_of_ble_eq_true rfl) fl_X5_39 (q_dm dm_X5_solve 1 rfl) ?_
  refine qr_aload_n o (q_dm dm_X5_solve 2 rfl) rfl ?_
  refine qr_callv_v (As := [.inr (some t)]) (S := []) o (a_X10_copy g k.2.1 n j r hj hr (Or.inr (Or.inr rfl)) ht M) (Nat.le_of_ble_eq_true rfl) zv_X10_copy rfl cf_X10 (sh25 j r) ml_X5_73 (Nat.le_of_ble_eq_true rfl) (q_dm dm_X5_solve 3 rfl) (fun _ m1 => ?_)
  refine qr_iconst o (q_dm dm_X5_solve 4 rfl) ic_0 ?_
  refine qs_istore_n (L' := [some (.inr (some 64)), some (.inr (some t)), some (.inl (0 : Int32))]) o (q_dm dm_X5_solve 5 rfl) (Nat.le_of_ble_eq_true rfl) rfl ?_
  exact qr_loc (q_leS (q_leS (q_leS q_le0))) (w_X5_solve_10 n j r hj hr ht o n (0 : Int32) m1)

theorem a_X5_solve (g : qG) (l : Launch) (n : Nat) (j r : Nat) (hj : q_isLaw j) (hr : q_isLaw r) {t : Nat} (ht : q_isTown t) (M : qM) : qAM g l 18 zX5_solve (qL j r) [.inr (some 64), .inr (some t)] (qL j r, M) (f_X5_solve n t j  M) :=
  qAM.of zv_X5_solve.1 (by show 2 ≤ 3; decide) (fun k hk o => w_X5_solve n j r hj hr ht o  M)
def tb_X5_takeWorkers : List (Nat × Instr × Nat) := [(0, (.aload_n 0, 1)), (1, (.iconst 0, 1)), (2, (.putfield 65, 3)), (5, (.iload_n 1, 1)), (6, (.ifCond .eq 11, 3)), (9, (.iload_n 1, 1)), (10, (.invokestatic 68, 3)), (13, (.iconst 3, 1)), (14, (.if_icmp .le 5, 3)), (17, (.iconst 0, 1)), (18, (.ireturn, 1)), (19, (.iconst 0, 1)), (20, (.istore_n 2, 1)), (21, (.iload_n 2, 1)), (22, (.bipush 8, 2)), (24, (.if_icmp .ge 46, 3)), (27, (.aload_n 0, 1)), (28, (.getfield 65, 3)), (31, (.iconst 3, 1)), (32, (.if_icmp .ge 38, 3)), (35, (.iload_n 1, 1)), (36, (.iload_n 2, 1)), (37, (.ishr, 1)), (38, (.iconst 1, 1)), (39, (.iand, 1)), (40, (.iconst 1, 1)), (41, (.if_icmp .ne 23, 3)), (44, (.aload_n 0, 1)), (45, (.getfield 15, 3)), (48, (.aload_n 0, 1)), (49, (.getfield 65, 3)), (52, (.iload_n 2, 1)), (53, (.iastore, 1)), (54, (.aload_n 0, 1)), (55, (.dup, 1)), (56, (.getfield 65, 3)), (59, (.iconst 1, 1)), (60, (.iadd, 1)), (61, (.putfield 65, 3)), (64, (.iinc 2 1, 3)), (67, (.goto (-46), 3)), (70, (.aload_n 0, 1)), (71, (.getfield 65, 3)), (74, (.ifCond .le 7, 3)), (77, (.iconst 1, 1)), (78, (.goto 4, 3)), (81, (.iconst 0, 1)), (82, (.ireturn, 1))]
theorem dm_X5_takeWorkers : ∀ q ∈ tb_X5_takeWorkers, decode zX5_takeWorkers.2.1 q.1 = .ok q.2 := by decide +kernel
def f_X5_takeWorkers_70 (n : Nat) (M : qM) : qR :=
  (if (M 64 10) ≤ (0 : Int32) then some ((0 : Int32), M) else some ((1 : Int32), M))
set_option maxRecDepth 4000 in
theorem w_X5_takeWorkers_70 {g : qG} {k : qK} (n : Nat) (j r : Nat) (hj : q_isLaw j) (hr : q_isLaw r) (o : qOk g 1 zX5_takeWorkers k) (M : qM) : qAE g k zX5_takeWorkers (qL j r) 70 [some (.inr (some 64)), none, none] [] (qL j r, M) (f_X5_takeWorkers_70 n  M) := by
  unfold f_X5_takeWorkers_70
  refine qr_aload_n o (q_dm dm_X5_takeWorkers 41 rfl) rfl ?_
  refine qr_getf (kf := 10) o cf_X5 (sh64 j r) rfl (Nat.le_of_ble_eq_true rfl) fl_X5_65 (q_dm dm_X5_takeWorkers 42 rfl) ?_
  refine qr_if_le (tgt := 81) o (q_dm dm_X5_takeWorkers 43 rfl) (by decide) ?_ ?_
  · refine qr_iconst o (q_dm dm_X5_takeWorkers 46 rfl) ic_0 ?_
    exact qr_iret o rfl (by decide) (q_dm dm_X5_takeWorkers 47 rfl)
  · refine qr_iconst o (q_dm dm_X5_takeWorkers 44 rfl) ic_1 ?_
    refine qr_goto (tgt := 82) o (q_dm dm_X5_takeWorkers 45 rfl) (by decide) ?_
    exact qr_iret o rfl (by decide) (q_dm dm_X5_takeWorkers 47 rfl)

def b_X5_takeWorkers_21 (n : Nat) (K21 : Int32 → Int32 → qM → qR) (a1 a2 : Int32) (M : qM) : qR :=
  (if (8 : Int32) ≤ a2 then f_X5_takeWorkers_70 n  M else (if (3 : Int32) ≤ (M 64 10) then f_X5_takeWorkers_70 n  M else (if ((a1 >>> (a2 &&& 31)) &&& (1 : Int32)) = (1 : Int32) then qg (M 64 10) 3 (qlm (mu M 66 (M 64 10).toNatClampNeg a2) (fun m2 => qlm (mu m2 64 10 ((m2 64 10) + (1 : Int32))) (fun m3 => ql (a2 + (1 : Int32)) (fun x4 => K21 a1 x4 m3)))) else ql (a2 + (1 : Int32)) (fun x1 => K21 a1 x1 M))))
set_option maxRecDepth 4000 in
theorem wb_X5_takeWorkers_21 {g : qG} {k : qK} (n : Nat) (j r : Nat) (hj : q_isLaw j) (hr : q_isLaw r) (o : qOk g 1 zX5_takeWorkers k) (K21 : Int32 → Int32 → qM → qR) (hK21 : ∀ (a1 a2 : Int32) (M : qM), qAE g k zX5_takeWorkers (qL j r) 21 [some (.inr (some 64)), some (.inl a1), some (.inl a2)] [] (qL j r, M) (K21 a1 a2 M)) (a1 a2 : Int32) (M : qM) : qAE g k zX5_takeWorkers (qL j r) 21 [some (.inr (some 64)), some (.inl a1), some (.inl a2)] [] (qL j r, M) (b_X5_takeWorkers_21 n K21 a1 a2 M) := by
  unfold b_X5_takeWorkers_21
  refine qr_iload_n o (q_dm dm_X5_takeWorkers 13 rfl) rfl ?_
  refine qr_bipush o (q_dm dm_X5_takeWorkers 14 rfl) bi_8 ?_
  refine qr_icmp_ge (tgt := 70) o (q_dm dm_X5_takeWorkers 15 rfl) (by decide) ?_ ?_
  · exact qr_loc (q_leS (q_leN (q_leN q_le0))) (w_X5_takeWorkers_70 n j r hj hr o  M)
  · refine qr_aload_n o (q_dm dm_X5_takeWorkers 16 rfl) rfl ?_
    refine qr_getf (kf := 10) o cf_X5 (sh64 j r) rfl (Nat.le_of_ble_eq_true rfl) fl_X5_65 (q_dm dm_X5_takeWorkers 17 rfl) ?_
    refine qr_iconst o (q_dm dm_X5_takeWorkers 18 rfl) ic_3 ?_
    refine qr_icmp_ge (tgt := 70) o (q_dm dm_X5_takeWorkers 19 rfl) (by decide) ?_ ?_
    · exact qr_loc (q_leS (q_leN (q_leN q_le0))) (w_X5_takeWorkers_70 n j r hj hr o  M)
    · refine qr_iload_n o (q_dm dm_X5_takeWorkers 20 rfl) rfl ?_
      refine qr_iload_n o (q_dm dm_X5_takeWorkers 21 rfl) rfl ?_
      refine qr_ishr o (q_dm dm_X5_takeWorkers 22 rfl) ?_
      refine qr_iconst o (q_dm dm_X5_takeWorkers 23 rfl) ic_1 ?_
      refine qr_iand o (q_dm dm_X5_takeWorkers 24 rfl) ?_
      refine qr_iconst o (q_dm dm_X5_takeWorkers 25 rfl) ic_1 ?_
      refine qr_icmp_ne (tgt := 64) o (q_dm dm_X5_takeWorkers 26 rfl) (by decide) ?_ ?_
      · refine qs_iincl2 (L' := fun x1 => [some (.inr (some 64)), some (.inl a1), some (.inl x1)]) o (q_dm dm_X5_takeWorkers 39 rfl) rfl ic_1 (Nat.le_of_ble_eq_true rfl) (fun _ => rfl) (fun x1 => ?_)
        refine qr_goto (tgt := 21) o (q_dm dm_X5_takeWorkers 40 rfl) (by decide) ?_
        exact qr_loc (q_leS (q_leS (q_leS q_le0))) (hK21 a1 x1 M)
      · refine qr_aload_n o (q_dm dm_X5_takeWorkers 27 rfl) rfl ?_
        refine qr_getr (kf := 4) o cf_X5 (sh64 j r) rfl (Nat.le_of_ble_eq_true rfl) fl_X5_15 (q_dm dm_X5_takeWorkers 28 rfl) ?_
        refine qr_aload_n o (q_dm dm_X5_takeWorkers 29 rfl) rfl ?_
        refine qr_getf (kf := 10) o cf_X5 (sh64 j r) rfl (Nat.le_of_ble_eq_true rfl) fl_X5_65 (q_dm dm_X5_takeWorkers 30 rfl) ?_
        refine qr_iload_n o (q_dm dm_X5_takeWorkers 31 rfl) rfl ?_
        refine qr_iast o (sh66 j r) (q_dm dm_X5_takeWorkers 32 rfl) ?_
        refine qr_letm (fun m2 => ?_)
        refine qr_aload_n o (q_dm dm_X5_takeWorkers 33 rfl) rfl ?_
        refine qr_dup o (q_dm dm_X5_takeWorkers 34 rfl) ?_
        refine qr_getf (kf := 10) o cf_X5 (sh64 j r) rfl (Nat.le_of_ble_eq_true rfl) fl_X5_65 (q_dm dm_X5_takeWorkers 35 rfl) ?_
        refine qr_iconst o (q_dm dm_X5_takeWorkers 36 rfl) ic_1 ?_
        refine qr_iadd o (q_dm dm_X5_takeWorkers 37 rfl) ?_
        refine qr_putf (kf := 10) o cf_X5 (sh64 j r) rfl (Nat.le_of_ble_eq_true rfl) fl_X5_65 rfl (by decide +kernel) (q_dm dm_X5_takeWorkers 38 rfl) ?_
        refine qr_letm (fun m3 => ?_)
        refine qs_iincl2 (L' := fun x4 => [some (.inr (some 64)), some (.inl a1), some (.inl x4)]) o (q_dm dm_X5_takeWorkers 39 rfl) rfl ic_1 (Nat.le_of_ble_eq_true rfl) (fun _ => rfl) (fun x4 => ?_)
        refine qr_goto (tgt := 21) o (q_dm dm_X5_takeWorkers 40 rfl) (by decide) ?_
        exact qr_loc (q_leS (q_leS (q_leS q_le0))) (hK21 a1 x4 m3)

def f_X5_takeWorkers_21 (n : Nat) : Nat → Int32 → Int32 → qM → qR
  | 0, _, _, _ => none
  | m + 1, a1, a2, M => b_X5_takeWorkers_21 n (f_X5_takeWorkers_21 n m) a1 a2 M
theorem w_X5_takeWorkers_21 {g : qG} {k : qK} (n : Nat) (j r : Nat) (hj : q_isLaw j) (hr : q_isLaw r) (o : qOk g 1 zX5_takeWorkers k) : ∀ (m : Nat) (a1 a2 : Int32) (M : qM), qAE g k zX5_takeWorkers (qL j r) 21 [some (.inr (some 64)), some (.inl a1), some (.inl a2)] [] (qL j r, M) (f_X5_takeWorkers_21 n m a1 a2 M) := by
  intro m
  induction m with
  | zero =>
    intro a1 a2 M
    exact qr_none
  | succ m ih =>
    intro a1 a2 M
    exact wb_X5_takeWorkers_21 n j r hj hr o (f_X5_takeWorkers_21 n m) ih a1 a2 M
def f_X5_takeWorkers (n : Nat) (a1 : Int32) (M : qM) : qR :=
  qlm (mu M 64 10 (0 : Int32)) (fun m1 => (if a1 = (0 : Int32) then some ((0 : Int32), m1) else qc (f_J6_bitCount_0f7a4 n a1 m1) (fun r2 m3 => (if r2 ≤ (3 : Int32) then f_X5_takeWorkers_21 n n a1 (0 : Int32) m3 else some ((0 : Int32), m3)))))
set_option maxRecDepth 4000 in
theorem w_X5_takeWorkers {g : qG} {k : qK} (n : Nat) (j r : Nat) (hj : q_isLaw j) (hr : q_isLaw r) (o : qOk g 1 zX5_takeWorkers k) (a1 : Int32) (M : qM) : qAE g k zX5_takeWorkers (qL j r) 0 [some (.inr (some 64)), some (.inl a1), none] [] (qL j r, M) (f_X5_takeWorkers n a1 M) := by
  unfold f_X5_takeWorkers
  refine qr_aload_n o (q_dm dm_X5_takeWorkers 0 rfl) rfl ?_
  refine qr_iconst o (q_dm dm_X5_takeWorkers 1 rfl) ic_0 ?_
  refine qr_putf (kf := 10) o cf_X5 (sh64 j r) rfl (Nat.le_of_ble_eq_true rfl) fl_X5_65 rfl (by decide +kernel) (q_dm dm_X5_takeWorkers 2 rfl) ?_
  refine qr_letm (fun m1 => ?_)
  refine qr_iload_n o (q_dm dm_X5_takeWorkers 3 rfl) rfl ?_
  refine qr_if_eq (tgt := 17) o (q_dm dm_X5_takeWorkers 4 rfl) (by decide) ?_ ?_
  · refine qr_iconst o (q_dm dm_X5_takeWorkers 9 rfl) ic_0 ?_
    exact qr_iret o rfl (by decide) (q_dm dm_X5_takeWorkers 10 rfl)
  · refine qr_iload_n o (q_dm dm_X5_takeWorkers 5 rfl) rfl ?_
    refine qr_calls_i (As := [.inl a1]) (S := []) o (a_J6_bitCount_0f7a4 g k.2.1 n j r hj hr a1 m1) (Nat.le_of_ble_eq_true rfl) zs_J6_bitCount_0f7a4 rfl ml_X5_68 (Nat.le_of_ble_eq_true rfl) (q_dm dm_X5_takeWorkers 6 rfl) (fun r2 m3 => ?_)
    refine qr_iconst o (q_dm dm_X5_takeWorkers 7 rfl) ic_3 ?_
    refine qr_icmp_le (tgt := 19) o (q_dm dm_X5_takeWorkers 8 rfl) (by decide) ?_ ?_
    · refine qr_iconst o (q_dm dm_X5_takeWorkers 11 rfl) ic_0 ?_
      refine qs_istore_n (L' := [some (.inr (some 64)), some (.inl a1), some (.inl (0 : Int32))]) o (q_dm dm_X5_takeWorkers 12 rfl) (Nat.le_of_ble_eq_true rfl) rfl ?_
      exact qr_loc (q_leS (q_leS (q_leS q_le0))) (w_X5_takeWorkers_21 n j r hj hr o n a1 (0 : Int32) m3)
    · refine qr_iconst o (q_dm dm_X5_takeWorkers 9 rfl) ic_0 ?_
      exact qr_iret o rfl (by decide) (q_dm dm_X5_takeWorkers 10 rfl)

theorem a_X5_takeWorkers (g : qG) (l : Launch) (n : Nat) (j r : Nat) (hj : q_isLaw j) (hr : q_isLaw r) (a1 : Int32) (M : qM) : qAM g l 1 zX5_takeWorkers (qL j r) [.inr (some 64), .inl a1] (qL j r, M) (f_X5_takeWorkers n a1 M) :=
  qAM.of zv_X5_takeWorkers.1 (by show 2 ≤ 3; decide) (fun k hk o => w_X5_takeWorkers n j r hj hr o a1 M)
def tb_X5_workerOf : List (Nat × Instr × Nat) := [(0, (.aload_n 0, 1)), (1, (.getfield 93, 3)), (4, (.istore_n 2, 1)), (5, (.aload_n 0, 1)), (6, (.getfield 49, 3)), (9, (.iconst 1, 1)), (10, (.isub, 1)), (11, (.istore_n 3, 1)), (12, (.iload_n 3, 1)), (13, (.iload_n 1, 1)), (14, (.if_icmp .le 23, 3)), (17, (.aload_n 0, 1)), (18, (.getfield 65, 3)), (21, (.ifCond .le 16, 3)), (24, (.iload_n 2, 1)), (25, (.aload_n 0, 1)), (26, (.getfield 65, 3)), (29, (.idiv, 1)), (30, (.istore_n 2, 1)), (31, (.iinc 3 (-1), 3)), (34, (.goto (-22), 3)), (37, (.aload_n 0, 1)), (38, (.getfield 65, 3)), (41, (.ifCond .le 17, 3)), (44, (.aload_n 0, 1)), (45, (.getfield 15, 3)), (48, (.iload_n 2, 1)), (49, (.aload_n 0, 1)), (50, (.getfield 65, 3)), (53, (.irem, 1)), (54, (.iaload, 1)), (55, (.goto 4, 3)), (58, (.iconst (-1), 1)), (59, (.ireturn, 1))]
theorem dm_X5_workerOf : ∀ q ∈ tb_X5_workerOf, decode zX5_workerOf.2.1 q.1 = .ok q.2 := by decide +kernel
def f_X5_workerOf_37 (n : Nat) (a2 : Int32) (M : qM) : qR :=
  (if (M 64 10) ≤ (0 : Int32) then some ((-1 : Int32), M) else qd (M 64 10) (qg (a2 - a2 / (M 64 10) * (M 64 10)) 3 (some ((M 66 (a2 - a2 / (M 64 10) * (M 64 10)).toNatClampNeg), M))))
set_option maxRecDepth 4000 in
theorem w_X5_workerOf_37 {g : qG} {k : qK} (n : Nat) (j r : Nat) (hj : q_isLaw j) (hr : q_isLaw r) (o : qOk g 0 zX5_workerOf k) (a2 : Int32) (M : qM) : qAE g k zX5_workerOf (qL j r) 37 [some (.inr (some 64)), none, some (.inl a2), none] [] (qL j r, M) (f_X5_workerOf_37 n a2 M) := by
  unfold f_X5_workerOf_37
  refine qr_aload_n o (q_dm dm_X5_workerOf 21 rfl) rfl ?_
  refine qr_getf (kf := 10) o cf_X5 (sh64 j r) rfl (Nat.le_of_ble_eq_true rfl) fl_X5_65 (q_dm dm_X5_workerOf 22 rfl) ?_
  refine qr_if_le (tgt := 58) o (q_dm dm_X5_workerOf 23 rfl) (by decide) ?_ ?_
  · refine qr_iconst o (q_dm dm_X5_workerOf 32 rfl) ic_m1 ?_
    exact qr_iret o rfl rfl (q_dm dm_X5_workerOf 33 rfl)
  · refine qr_aload_n o (q_dm dm_X5_workerOf 24 rfl) rfl ?_
    refine qr_getr (kf := 4) o cf_X5 (sh64 j r) rfl (Nat.le_of_ble_eq_true rfl) fl_X5_15 (q_dm dm_X5_workerOf 25 rfl) ?_
    refine qr_iload_n o (q_dm dm_X5_workerOf 26 rfl) rfl ?_
    refine qr_aload_n o (q_dm dm_X5_workerOf 27 rfl) rfl ?_
    refine qr_getf (kf := 10) o cf_X5 (sh64 j r) rfl (Nat.le_of_ble_eq_true rfl) fl_X5_65 (q_dm dm_X5_workerOf 28 rfl) ?_
    refine qr_irem o (q_dm dm_X5_workerOf 29 rfl) ?_
    refine qr_iald o (sh66 j r) (q_dm dm_X5_workerOf 30 rfl) ?_
    refine qr_goto (tgt := 59) o (q_dm dm_X5_workerOf 31 rfl) (by decide) ?_
    exact qr_iret o rfl rfl (q_dm dm_X5_workerOf 33 rfl)

def b_X5_workerOf_12 (n : Nat) (K12 : Int32 → Int32 → Int32 → qM → qR) (a1 a2 a3 : Int32) (M : qM) : qR :=
  (if a3 ≤ a1 then f_X5_workerOf_37 n a2 M else (if (M 64 10) ≤ (0 : Int32) then f_X5_workerOf_37 n a2 M else qd (M 64 10) (ql (a2 / (M 64 10)) (fun x1 => ql (a3 + (-1 : Int32)) (fun x2 => K12 a1 x1 x2 M)))))
set_option maxRecDepth 4000 in
theorem wb_X5_workerOf_12 {g : qG} {k : qK} (n : Nat) (j r : Nat) (hj : q_isLaw j) (hr : q_isLaw r) (o : qOk g 0 zX5_workerOf k) (K12 : Int32 → Int32 → Int32 → qM → qR) (hK12 : ∀ (a1 a2 a3 : Int32) (M : qM), qAE g k zX5_workerOf (qL j r) 12 [some (.inr (some 64)), some (.inl a1), some (.inl a2), some (.inl a3)] [] (qL j r, M) (K12 a1 a2 a3 M)) (a1 a2 a3 : Int32) (M : qM) : qAE g k zX5_workerOf (qL j r) 12 [some (.inr (some 64)), some (.inl a1), some (.inl a2), some (.inl a3)] [] (qL j r, M) (b_X5_workerOf_12 n K12 a1 a2 a3 M) := by
  unfold b_X5_workerOf_12
  refine qr_iload_n o (q_dm dm_X5_workerOf 8 rfl) rfl ?_
  refine qr_iload_n o (q_dm dm_X5_workerOf 9 rfl) rfl ?_
  refine qr_icmp_le (tgt := 37) o (q_dm dm_X5_workerOf 10 rfl) (by decide) ?_ ?_
  · exact qr_loc (q_leS (q_leN (q_leS (q_leN q_le0)))) (w_X5_workerOf_37 n j r hj hr o a2 M)
  · refine qr_aload_n o (q_dm dm_X5_workerOf 11 rfl) rfl ?_
    refine qr_getf (kf := 10) o cf_X5 (sh64 j r) rfl (Nat.le_of_ble_eq_true rfl) fl_X5_65 (q_dm dm_X5_workerOf 12 rfl) ?_
    refine qr_if_le (tgt := 37) o (q_dm dm_X5_workerOf 13 rfl) (by decide) ?_ ?_
    · exact qr_loc (q_leS (q_leN (q_leS (q_leN q_le0)))) (w_X5_workerOf_37 n j r hj hr o a2 M)
    · refine qr_iload_n o (q_dm dm_X5_workerOf 14 rfl) rfl ?_
      refine qr_aload_n o (q_dm dm_X5_workerOf 15 rfl) rfl ?_
      refine qr_getf (kf := 10) o cf_X5 (sh64 j r) rfl (Nat.le_of_ble_eq_true rfl) fl_X5_65 (q_dm dm_X5_workerOf 16 rfl) ?_
      refine qr_idiv o (q_dm dm_X5_workerOf 17 rfl) ?_
      refine qr_lt (fun x1 => ?_)
      refine qs_istore_n (L' := [some (.inr (some 64)), some (.inl a1), some (.inl x1), some (.inl a3)]) o (q_dm dm_X5_workerOf 18 rfl) (Nat.le_of_ble_eq_true rfl) rfl ?_
      refine qs_iincl2 (L' := fun x2 => [some (.inr (some 64)), some (.inl a1), some (.inl x1), some (.inl x2)]) o (q_dm dm_X5_workerOf 19 rfl) rfl ic_m1 (Nat.le_of_ble_eq_true rfl) (fun _ => rfl) (fun x2 => ?_)
      refine qr_goto (tgt := 12) o (q_dm dm_X5_workerOf 20 rfl) (by decide) ?_
      exact qr_loc (q_leS (q_leS (q_leS (q_leS q_le0)))) (hK12 a1 x1 x2 M)

def f_X5_workerOf_12 (n : Nat) : Nat → Int32 → Int32 → Int32 → qM → qR
  | 0, _, _, _, _ => none
  | m + 1, a1, a2, a3, M => b_X5_workerOf_12 n (f_X5_workerOf_12 n m) a1 a2 a3 M
theorem w_X5_workerOf_12 {g : qG} {k : qK} (n : Nat) (j r : Nat) (hj : q_isLaw j) (hr : q_isLaw r) (o : qOk g 0 zX5_workerOf k) : ∀ (m : Nat) (a1 a2 a3 : Int32) (M : qM), qAE g k zX5_workerOf (qL j r) 12 [some (.inr (some 64)), some (.inl a1), some (.inl a2), some (.inl a3)] [] (qL j r, M) (f_X5_workerOf_12 n m a1 a2 a3 M) := by
  intro m
  induction m with
  | zero =>
    intro a1 a2 a3 M
    exact qr_none
  | succ m ih =>
    intro a1 a2 a3 M
    exact wb_X5_workerOf_12 n j r hj hr o (f_X5_workerOf_12 n m) ih a1 a2 a3 M
def f_X5_workerOf (n : Nat) (a1 : Int32) (M : qM) : qR :=
  ql (M 64 12) (fun x1 => ql ((M 64 9) - (1 : Int32)) (fun x2 => f_X5_workerOf_12 n n a1 x1 x2 M))
set_option maxRecDepth 4000 in
theorem w_X5_workerOf {g : qG} {k : qK} (n : Nat) (j r : Nat) (hj : q_isLaw j) (hr : q_isLaw r) (o : qOk g 0 zX5_workerOf k) (a1 : Int32) (M : qM) : qAE g k zX5_workerOf (qL j r) 0 [some (.inr (some 64)), some (.inl a1), none, none] [] (qL j r, M) (f_X5_workerOf n a1 M) := by
  unfold f_X5_workerOf
  refine qr_aload_n o (q_dm dm_X5_workerOf 0 rfl) rfl ?_
  refine qr_getf (kf := 12) o cf_X5 (sh64 j r) rfl (Nat.le_of_ble_eq_true rfl) fl_X5_93 (q_dm dm_X5_workerOf 1 rfl) ?_
  refine qr_lt (fun x1 => ?_)
  refine qs_istore_n (L' := [some (.inr (some 64)), some (.inl a1), some (.inl x1), none]) o (q_dm dm_X5_workerOf 2 rfl) (Nat.le_of_ble_eq_true rfl) rfl ?_
  refine qr_aload_n o (q_dm dm_X5_workerOf 3 rfl) rfl ?_
  refine qr_getf (kf := 9) o cf_X5 (sh64 j r) rfl (Nat.le_of_ble_eq_true rfl) fl_X5_49 (q_dm dm_X5_workerOf 4 rfl) ?_
  refine qr_iconst o (q_dm dm_X5_workerOf 5 rfl) ic_1 ?_
  refine qr_isub o (q_dm dm_X5_workerOf 6 rfl) ?_
  refine qr_lt (fun x2 => ?_)
  refine qs_istore_n (L' := [some (.inr (some 64)), some (.inl a1), some (.inl x1), some (.inl x2)]) o (q_dm dm_X5_workerOf 7 rfl) (Nat.le_of_ble_eq_true rfl) rfl ?_
  exact qr_loc (q_leS (q_leS (q_leS (q_leS q_le0)))) (w_X5_workerOf_12 n j r hj hr o n a1 x1 x2 M)

theorem a_X5_workerOf (g : qG) (l : Launch) (n : Nat) (j r : Nat) (hj : q_isLaw j) (hr : q_isLaw r) (a1 : Int32) (M : qM) : qAM g l 0 zX5_workerOf (qL j r) [.inr (some 64), .inl a1] (qL j r, M) (f_X5_workerOf n a1 M) :=
  qAM.of zv_X5_workerOf.1 (by show 2 ≤ 4; decide) (fun k hk o => w_X5_workerOf n j r hj hr o a1 M)
def tb_X11_jobs : List (Nat × Instr × Nat) := [(0, (.iload_n 1, 1)), (1, (.iconst 1, 1)), (2, (.if_icmp .lt 20, 3)), (5, (.iload_n 1, 1)), (6, (.bipush 8, 2)), (8, (.if_icmp .gt 14, 3)), (11, (.iload_n 1, 1)), (12, (.aload_n 0, 1)), (13, (.getfield 10, 3)), (16, (.getfield 112, 3)), (19, (.if_icmp .le 5, 3)), (22, (.iconst (-1), 1)), (23, (.ireturn, 1)), (24, (.aload_n 0, 1)), (25, (.getfield 84, 3)), (28, (.aload_n 0, 1)), (29, (.getfield 10, 3)), (32, (.iload_n 1, 1)), (33, (.invokevirtual 225, 3)), (36, (.istore 4, 2)), (38, (.aload_n 0, 1)), (39, (.getfield 10, 3)), (42, (.invokevirtual 123, 3)), (45, (.iload 4, 2)), (47, (.ifCond .ne 6, 3)), (50, (.bipush (-2), 2)), (52, (.ireturn, 1)), (53, (.iload_n 3, 1)), (54, (.bipush 10, 2)), (56, (.if_icmp .eq 12, 3)), (59, (.iload_n 3, 1)), (60, (.ifCond .lt 12, 3)), (63, (.iload_n 3, 1)), (64, (.iload_n 1, 1)), (65, (.if_icmp .ge 7, 3)), (68, (.iconst 1, 1)), (69, (.goto 4, 3)), (72, (.iconst 0, 1)), (73, (.istore 5, 2)), (75, (.iload 5, 2)), (77, (.ifCond .eq 25, 3)), (80, (.aload_n 0, 1)), (81, (.getfield 26, 3)), (84, (.iload_n 2, 1)), (85, (.invokevirtual 228, 3)), (88, (.ifCond .eq 14, 3)), (91, (.aload_n 0, 1)), (92, (.getfield 84, 3)), (95, (.iload_n 2, 1)), (96, (.invokevirtual 229, 3)), (99, (.ifCond .ne 6, 3)), (102, (.bipush (-4), 2)), (104, (.ireturn, 1)), (105, (.aload_n 0, 1)), (106, (.getfield 84, 3)), (109, (.aload_n 0, 1)), (110, (.getfield 26, 3)), (113, (.invokevirtual 232, 3)), (116, (.aload_n 0, 1)), (117, (.getfield 84, 3)), (120, (.getfield 235, 3)), (123, (.ldc 203, 2)), (125, (.if_icmp .lt 6, 3)), (128, (.bipush (-3), 2)), (130, (.ireturn, 1)), (131, (.iload_n 3, 1)), (132, (.bipush 10, 2)), (134, (.if_icmp .ne 13, 3)), (137, (.aload_n 0, 1)), (138, (.getfield 84, 3)), (141, (.getfield 235, 3)), (144, (.goto 11, 3)), (147, (.aload_n 0, 1)), (148, (.getfield 84, 3)), (151, (.iload_n 3, 1)), (152, (.invokevirtual 236, 3)), (155, (.ireturn, 1))]
theorem dm_X11_jobs : ∀ q ∈ tb_X11_jobs, decode zX11_jobs.2.1 q.1 = .ok q.2 := by decide +kernel
def f_X11_jobs_73 (n : Nat) (j : Nat) (a2 a3 s0 : Int32) (M : qM) : qR :=
  (if s0 = (0 : Int32) then some ((-4 : Int32), M) else qc (f_X10_knowsAll n 7 a2 M) (fun r1 m2 => (if r1 = (0 : Int32) then some ((-4 : Int32), m2) else qc (f_X5_takeWorkers n a2 m2) (fun r3 m4 => (if r3 = (0 : Int32) then some ((-4 : Int32), m4) else qc (f_X5_solve n 7 j m4) (fun _ m5 => (if (m5 64 11) < (1048576 : Int32) then (if a3 = (10 : Int32) then some ((m5 64 11), m5) else qc (f_X5_workerOf n a3 m5) (fun r6 m7 => some (r6, m7))) else some ((-3 : Int32), m5))))))))
set_option maxRecDepth 4000 in
theorem w_X11_jobs_73 {g : qG} {k : qK} (n : Nat) (j r : Nat) (hj : q_isLaw j) (hr : q_isLaw r) (o : qOk g 19 zX11_jobs k) (a2 a3 s0 : Int32) (M : qM) : qAE g k zX11_jobs (qL j r) 73 [some (.inr (some 0)), none, some (.inl a2), some (.inl a3), none, none] [.inl s0] (qL j r, M) (f_X11_jobs_73 n j a2 a3 s0 M) := by
  unfold f_X11_jobs_73
  refine qs_istore (L' := [some (.inr (some 0)), none, some (.inl a2), some (.inl a3), none, some (.inl s0)]) o (q_dm dm_X11_jobs 38 rfl) (Nat.le_of_ble_eq_true rfl) rfl ?_
  refine qr_iload o (q_dm dm_X11_jobs 39 rfl) rfl ?_
  refine qr_if_eq (tgt := 102) o (q_dm dm_X11_jobs 40 rfl) (by decide) ?_ ?_
  · refine qr_bipush o (q_dm dm_X11_jobs 51 rfl) bi_m4 ?_
    exact qr_iret o rfl rfl (q_dm dm_X11_jobs 52 rfl)
  · refine qr_aload_n o (q_dm dm_X11_jobs 41 rfl) rfl ?_
    refine qr_getr (kf := 2) o cf_X11 (sh0 j r) rfl (Nat.le_of_ble_eq_true rfl) fl_X11_26 (q_dm dm_X11_jobs 42 rfl) ?_
    refine qr_iload_n o (q_dm dm_X11_jobs 43 rfl) rfl ?_
    refine qr_callv_i (As := [.inl a2]) (S := []) o (a_X10_knowsAll g k.2.1 n j r hj hr (Or.inl rfl) a2 M) (Nat.le_of_ble_eq_true rfl) zv_X10_knowsAll rfl cf_X10 (sh7 j r) ml_X11_228 (Nat.le_of_ble_eq_true rfl) (q_dm dm_X11_jobs 44 rfl) (fun r1 m2 => ?_)
    refine qr_if_eq (tgt := 102) o (q_dm dm_X11_jobs 45 rfl) (by decide) ?_ ?_
    · refine qr_bipush o (q_dm dm_X11_jobs 51 rfl) bi_m4 ?_
      exact qr_iret o rfl rfl (q_dm dm_X11_jobs 52 rfl)
    · refine qr_aload_n o (q_dm dm_X11_jobs 46 rfl) rfl ?_
      refine qr_getr (kf := 10) o cf_X11 (sh0 j r) rfl (Nat.le_of_ble_eq_true rfl) fl_X11_84 (q_dm dm_X11_jobs 47 rfl) ?_
      refine qr_iload_n o (q_dm dm_X11_jobs 48 rfl) rfl ?_
      refine qr_callv_i (As := [.inl a2]) (S := []) o (a_X5_takeWorkers g k.2.1 n j r hj hr a2 m2) (Nat.le_of_ble_eq_true rfl) zv_X5_takeWorkers rfl cf_X5 (sh64 j r) ml_X11_229 (Nat.le_of_ble_eq_true rfl) (q_dm dm_X11_jobs 49 rfl) (fun r3 m4 => ?_)
      refine qr_if_ne (tgt := 105) o (q_dm dm_X11_jobs 50 rfl) (by decide) ?_ ?_
      · refine qr_aload_n o (q_dm dm_X11_jobs 53 rfl) rfl ?_
        refine qr_getr (kf := 10) o cf_X11 (sh0 j r) rfl (Nat.le_of_ble_eq_true rfl) fl_X11_84 (q_dm dm_X11_jobs 54 rfl) ?_
        refine qr_aload_n o (q_dm dm_X11_jobs 55 rfl) rfl ?_
        refine qr_getr (kf := 2) o cf_X11 (sh0 j r) rfl (Nat.le_of_ble_eq_true rfl) fl_X11_26 (q_dm dm_X11_jobs 56 rfl) ?_
        refine qr_callv_v (As := [.inr (some 7)]) (S := []) o (a_X5_solve g k.2.1 n j r hj hr (Or.inl rfl) m4) (Nat.le_of_ble_eq_true rfl) zv_X5_solve rfl cf_X5 (sh64 j r) ml_X11_232 (Nat.le_of_ble_eq_true rfl) (q_dm dm_X11_jobs 57 rfl) (fun _ m5 => ?_)
        refine qr_aload_n o (q_dm dm_X11_jobs 58 rfl) rfl ?_
        refine qr_getr (kf := 10) o cf_X11 (sh0 j r) rfl (Nat.le_of_ble_eq_true rfl) fl_X11_84 (q_dm dm_X11_jobs 59 rfl) ?_
        refine qr_getf (kf := 11) o cf_X5 (sh64 j r) rfl (Nat.le_of_ble_eq_true rfl) fl_X11_235 (q_dm dm_X11_jobs 60 rfl) ?_
        refine qr_ldc o (q_dm dm_X11_jobs 61 rfl) kc_X11_203 ?_
        refine qr_icmp_lt (tgt := 131) o (q_dm dm_X11_jobs 62 rfl) (by decide) ?_ ?_
        · refine qr_iload_n o (q_dm dm_X11_jobs 65 rfl) rfl ?_
          refine qr_bipush o (q_dm dm_X11_jobs 66 rfl) bi_10 ?_
          refine qr_icmp_ne (tgt := 147) o (q_dm dm_X11_jobs 67 rfl) (by decide) ?_ ?_
          · refine qr_aload_n o (q_dm dm_X11_jobs 72 rfl) rfl ?_
            refine qr_getr (kf := 10) o cf_X11 (sh0 j r) rfl (Nat.le_of_ble_eq_true rfl) fl_X11_84 (q_dm dm_X11_jobs 73 rfl) ?_
            refine qr_iload_n o (q_dm dm_X11_jobs 74 rfl) rfl ?_
            refine qr_callv_i (As := [.inl a3]) (S := []) o (a_X5_workerOf g k.2.1 n j r hj hr a3 m5) (Nat.le_of_ble_eq_true rfl) zv_X5_workerOf rfl cf_X5 (sh64 j r) ml_X11_236 (Nat.le_of_ble_eq_true rfl) (q_dm dm_X11_jobs 75 rfl) (fun r6 m7 => ?_)
            exact qr_iret o rfl rfl (q_dm dm_X11_jobs 76 rfl)
          · refine qr_aload_n o (q_dm dm_X11_jobs 68 rfl) rfl ?_
            refine qr_getr (kf := 10) o cf_X11 (sh0 j r) rfl (Nat.le_of_ble_eq_true rfl) fl_X11_84 (q_dm dm_X11_jobs 69 rfl) ?_
            refine qr_getf (kf := 11) o cf_X5 (sh64 j r) rfl (Nat.le_of_ble_eq_true rfl) fl_X11_235 (q_dm dm_X11_jobs 70 rfl) ?_
            refine qr_goto (tgt := 155) o (q_dm dm_X11_jobs 71 rfl) (by decide) ?_
            exact qr_iret o rfl rfl (q_dm dm_X11_jobs 76 rfl)
        · refine qr_bipush o (q_dm dm_X11_jobs 63 rfl) bi_m3 ?_
          exact qr_iret o rfl rfl (q_dm dm_X11_jobs 64 rfl)
      · refine qr_bipush o (q_dm dm_X11_jobs 51 rfl) bi_m4 ?_
        exact qr_iret o rfl rfl (q_dm dm_X11_jobs 52 rfl)

def f_X11_jobs_72 (n : Nat) (j : Nat) (a2 a3 : Int32) (M : qM) : qR :=
  f_X11_jobs_73 n j a2 a3 (0 : Int32) M
set_option maxRecDepth 4000 in
theorem w_X11_jobs_72 {g : qG} {k : qK} (n : Nat) (j r : Nat) (hj : q_isLaw j) (hr : q_isLaw r) (o : qOk g 19 zX11_jobs k) (a2 a3 : Int32) (M : qM) : qAE g k zX11_jobs (qL j r) 72 [some (.inr (some 0)), none, some (.inl a2), some (.inl a3), none, none] [] (qL j r, M) (f_X11_jobs_72 n j a2 a3 M) := by
  unfold f_X11_jobs_72
  refine qr_iconst o (q_dm dm_X11_jobs 37 rfl) ic_0 ?_
  exact qr_loc (q_leS (q_leN (q_leS (q_leS (q_leN (q_leN q_le0)))))) (w_X11_jobs_73 n j r hj hr o a2 a3 (0 : Int32) M)

def f_X11_jobs (n : Nat) (j : Nat) (a1 a2 a3 : Int32) (M : qM) : qR :=
  (if a1 < (1 : Int32) then some ((-1 : Int32), M) else (if (8 : Int32) < a1 then some ((-1 : Int32), M) else (if a1 ≤ (M 1 1) then qc (f_X5_read n a1 M) (fun r1 m2 => qc (f_X9_clear n  m2) (fun _ m3 => (if r1 = (0 : Int32) then some ((-2 : Int32), m3) else (if a3 = (10 : Int32) then f_X11_jobs_73 n j a2 a3 (1 : Int32) m3 else (if a3 < (0 : Int32) then f_X11_jobs_72 n j a2 a3 m3 else (if a1 ≤ a3 then f_X11_jobs_72 n j a2 a3 m3 else f_X11_jobs_73 n j a2 a3 (1 : Int32) m3)))))) else some ((-1 : Int32), M))))
set_option maxRecDepth 4000 in
theorem w_X11_jobs {g : qG} {k : qK} (n : Nat) (j r : Nat) (hj : q_isLaw j) (hr : q_isLaw r) (o : qOk g 19 zX11_jobs k) (a1 a2 a3 : Int32) (M : qM) : qAE g k zX11_jobs (qL j r) 0 [some (.inr (some 0)), some (.inl a1), some (.inl a2), some (.inl a3), none, none] [] (qL j r, M) (f_X11_jobs n j a1 a2 a3 M) := by
  unfold f_X11_jobs
  refine qr_iload_n o (q_dm dm_X11_jobs 0 rfl) rfl ?_
  refine qr_iconst o (q_dm dm_X11_jobs 1 rfl) ic_1 ?_
  refine qr_icmp_lt (tgt := 22) o (q_dm dm_X11_jobs 2 rfl) (by decide) ?_ ?_
  · refine qr_iconst o (q_dm dm_X11_jobs 11 rfl) ic_m1 ?_
    exact qr_iret o rfl rfl (q_dm dm_X11_jobs 12 rfl)
  · refine qr_iload_n o (q_dm dm_X11_jobs 3 rfl) rfl ?_
    refine qr_bipush o (q_dm dm_X11_jobs 4 rfl) bi_8 ?_
    refine qr_icmp_gt (tgt := 22) o (q_dm dm_X11_jobs 5 rfl) (by decide) ?_ ?_
    · refine qr_iconst o (q_dm dm_X11_jobs 11 rfl) ic_m1 ?_
      exact qr_iret o rfl rfl (q_dm dm_X11_jobs 12 rfl)
    · refine qr_iload_n o (q_dm dm_X11_jobs 6 rfl) rfl ?_
      refine qr_aload_n o (q_dm dm_X11_jobs 7 rfl) rfl ?_
      refine qr_getr (kf := 0) o cf_X11 (sh0 j r) rfl (Nat.le_of_ble_eq_true rfl) fl_X11_10 (q_dm dm_X11_jobs 8 rfl) ?_
      refine qr_getf (kf := 1) o cf_X9 (sh1 j r) rfl (Nat.le_of_ble_eq_true rfl) fl_X11_112 (q_dm dm_X11_jobs 9 rfl) ?_
      refine qr_icmp_le (tgt := 24) o (q_dm dm_X11_jobs 10 rfl) (by decide) ?_ ?_
      · refine qr_aload_n o (q_dm dm_X11_jobs 13 rfl) rfl ?_
        refine qr_getr (kf := 10) o cf_X11 (sh0 j r) rfl (Nat.le_of_ble_eq_true rfl) fl_X11_84 (q_dm dm_X11_jobs 14 rfl) ?_
        refine qr_aload_n o (q_dm dm_X11_jobs 15 rfl) rfl ?_
        refine qr_getr (kf := 0) o cf_X11 (sh0 j r) rfl (Nat.le_of_ble_eq_true rfl) fl_X11_10 (q_dm dm_X11_jobs 16 rfl) ?_
        refine qr_iload_n o (q_dm dm_X11_jobs 17 rfl) rfl ?_
        refine qr_callv_i (As := [.inr (some 1), .inl a1]) (S := []) o (a_X5_read g k.2.1 n j r hj hr a1 M) (Nat.le_of_ble_eq_true rfl) zv_X5_read rfl cf_X5 (sh64 j r) ml_X11_225 (Nat.le_of_ble_eq_true rfl) (q_dm dm_X11_jobs 18 rfl) (fun r1 m2 => ?_)
        refine qs_istore (L' := [some (.inr (some 0)), some (.inl a1), some (.inl a2), some (.inl a3), some (.inl r1), none]) o (q_dm dm_X11_jobs 19 rfl) (Nat.le_of_ble_eq_true rfl) rfl ?_
        refine qr_aload_n o (q_dm dm_X11_jobs 20 rfl) rfl ?_
        refine qr_getr (kf := 0) o cf_X11 (sh0 j r) rfl (Nat.le_of_ble_eq_true rfl) fl_X11_10 (q_dm dm_X11_jobs 21 rfl) ?_
        refine qr_callv_v (As := []) (S := []) o (a_X9_clear g k.2.1 n j r hj hr  m2) (Nat.le_of_ble_eq_true rfl) zv_X9_clear rfl cf_X9 (sh1 j r) ml_X11_123 (Nat.le_of_ble_eq_true rfl) (q_dm dm_X11_jobs 22 rfl) (fun _ m3 => ?_)
        refine qr_iload o (q_dm dm_X11_jobs 23 rfl) rfl ?_
        refine qr_if_ne (tgt := 53) o (q_dm dm_X11_jobs 24 rfl) (by decide) ?_ ?_
        · refine qr_iload_n o (q_dm dm_X11_jobs 27 rfl) rfl ?_
          refine qr_bipush o (q_dm dm_X11_jobs 28 rfl) bi_10 ?_
          refine qr_icmp_eq (tgt := 68) o (q_dm dm_X11_jobs 29 rfl) (by decide) ?_ ?_
          · refine qr_iconst o (q_dm dm_X11_jobs 35 rfl) ic_1 ?_
            refine qr_goto (tgt := 73) o (q_dm dm_X11_jobs 36 rfl) (by decide) ?_
            exact qr_loc (q_leS (q_leN (q_leS (q_leS (q_leN (q_leN q_le0)))))) (w_X11_jobs_73 n j r hj hr o a2 a3 (1 : Int32) m3)
          · refine qr_iload_n o (q_dm dm_X11_jobs 30 rfl) rfl ?_
            refine qr_if_lt (tgt := 72) o (q_dm dm_X11_jobs 31 rfl) (by decide) ?_ ?_
            · exact qr_loc (q_leS (q_leN (q_leS (q_leS (q_leN (q_leN q_le0)))))) (w_X11_jobs_72 n j r hj hr o a2 a3 m3)
            · refine qr_iload_n o (q_dm dm_X11_jobs 32 rfl) rfl ?_
              refine qr_iload_n o (q_dm dm_X11_jobs 33 rfl) rfl ?_
              refine qr_icmp_ge (tgt := 72) o (q_dm dm_X11_jobs 34 rfl) (by decide) ?_ ?_
              · exact qr_loc (q_leS (q_leN (q_leS (q_leS (q_leN (q_leN q_le0)))))) (w_X11_jobs_72 n j r hj hr o a2 a3 m3)
              · refine qr_iconst o (q_dm dm_X11_jobs 35 rfl) ic_1 ?_
                refine qr_goto (tgt := 73) o (q_dm dm_X11_jobs 36 rfl) (by decide) ?_
                exact qr_loc (q_leS (q_leN (q_leS (q_leS (q_leN (q_leN q_le0)))))) (w_X11_jobs_73 n j r hj hr o a2 a3 (1 : Int32) m3)
        · refine qr_bipush o (q_dm dm_X11_jobs 25 rfl) bi_m2 ?_
          exact qr_iret o rfl rfl (q_dm dm_X11_jobs 26 rfl)
      · refine qr_iconst o (q_dm dm_X11_jobs 11 rfl) ic_m1 ?_
        exact qr_iret o rfl rfl (q_dm dm_X11_jobs 12 rfl)

theorem a_X11_jobs (g : qG) (l : Launch) (n : Nat) (j r : Nat) (hj : q_isLaw j) (hr : q_isLaw r) (a1 a2 a3 : Int32) (M : qM) : qAM g l 19 zX11_jobs (qL j r) [.inr (some 0), .inl a1, .inl a2, .inl a3] (qL j r, M) (f_X11_jobs n j a1 a2 a3 M) :=
  qAM.of zv_X11_jobs.1 (by show 4 ≤ 6; decide) (fun k hk o => w_X11_jobs n j r hj hr o a1 a2 a3 M)
def tb_X11_keep : List (Nat × Instr × Nat) := [(0, (.aload_n 0, 1)), (1, (.getfield 30, 3)), (4, (.aload_n 0, 1)), (5, (.getfield 26, 3)), (8, (.invokevirtual 159, 3)), (11, (.aload_n 0, 1)), (12, (.iconst 1, 1)), (13, (.putfield 95, 3)), (16, (.aload_n 0, 1)), (17, (.getfield 26, 3)), (20, (.getfield 184, 3)), (23, (.ireturn, 1))]
theorem dm_X11_keep : ∀ q ∈ tb_X11_keep, decode zX11_keep.2.1 q.1 = .ok q.2 := by decide +kernel
def f_X11_keep (n : Nat) (M : qM) : qR :=
  qc (f_X10_copy n 16 7 M) (fun _ m1 => qlm (mu m1 0 12 (1 : Int32)) (fun m2 => some ((m2 7 9), m2)))
set_option maxRecDepth 4000 in
theorem w_X11_keep {g : qG} {k : qK} (n : Nat) (j r : Nat) (hj : q_isLaw j) (hr : q_isLaw r) (o : qOk g 2 zX11_keep k) (M : qM) : qAE g k zX11_keep (qL j r) 0 [some (.inr (some 0))] [] (qL j r, M) (f_X11_keep n  M) := by
  unfold f_X11_keep
  refine qr_aload_n o (q_dm dm_X11_keep 0 rfl) rfl ?_
  refine qr_getr (kf := 3) o cf_X11 (sh0 j r) rfl (Nat.le_of_ble_eq_true rfl) fl_X11_30 (q_dm dm_X11_keep 1 rfl) ?_
  refine qr_aload_n o (q_dm dm_X11_keep 2 rfl) rfl ?_
  refine qr_getr (kf := 2) o cf_X11 (sh0 j r) rfl (Nat.le_of_ble_eq_true rfl) fl_X11_26 (q_dm dm_X11_keep 3 rfl) ?_
  refine qr_callv_v (As := [.inr (some 7)]) (S := []) o (a_X10_copy g k.2.1 n j r hj hr (Or.inr (Or.inl rfl)) (Or.inl rfl) M) (Nat.le_of_ble_eq_true rfl) zv_X10_copy rfl cf_X10 (sh16 j r) ml_X11_159 (Nat.le_of_ble_eq_true rfl) (q_dm dm_X11_keep 4 rfl) (fun _ m1 => ?_)
  refine qr_aload_n o (q_dm dm_X11_keep 5 rfl) rfl ?_
  refine qr_iconst o (q_dm dm_X11_keep 6 rfl) ic_1 ?_
  refine qr_putz (kf := 12) o cf_X11 (sh0 j r) rfl (Nat.le_of_ble_eq_true rfl) fl_X11_95 rfl (by decide +kernel) (by decide) (q_dm dm_X11_keep 7 rfl) ?_
  refine qr_letm (fun m2 => ?_)
  refine qr_aload_n o (q_dm dm_X11_keep 8 rfl) rfl ?_
  refine qr_getr (kf := 2) o cf_X11 (sh0 j r) rfl (Nat.le_of_ble_eq_true rfl) fl_X11_26 (q_dm dm_X11_keep 9 rfl) ?_
  refine qr_getf (kf := 9) o cf_X10 (sh7 j r) rfl (Nat.le_of_ble_eq_true rfl) fl_X11_184 (q_dm dm_X11_keep 10 rfl) ?_
  exact qr_iret o rfl rfl (q_dm dm_X11_keep 11 rfl)

theorem a_X11_keep (g : qG) (l : Launch) (n : Nat) (j r : Nat) (hj : q_isLaw j) (hr : q_isLaw r) (M : qM) : qAM g l 2 zX11_keep (qL j r) [.inr (some 0)] (qL j r, M) (f_X11_keep n  M) :=
  qAM.of zv_X11_keep.1 (by show 1 ≤ 1; decide) (fun k hk o => w_X11_keep n j r hj hr o  M)
def tb_X2_tell : List (Nat × Instr × Nat) := [(0, (.iload_n 1, 1)), (1, (.ifCond .lt 28, 3)), (4, (.iload_n 1, 1)), (5, (.bipush 12, 2)), (7, (.if_icmp .ge 22, 3)), (10, (.aload_n 0, 1)), (11, (.iload_n 1, 1)), (12, (.invokevirtual 25, 3)), (15, (.ifCond .ne 14, 3)), (18, (.iload_n 2, 1)), (19, (.iconst 1, 1)), (20, (.if_icmp .lt 9, 3)), (23, (.iload_n 2, 1)), (24, (.bipush 12, 2)), (26, (.if_icmp .le 5, 3)), (29, (.iconst 0, 1)), (30, (.ireturn, 1)), (31, (.iload_n 3, 1)), (32, (.ifCond .lt 26, 3)), (35, (.iload_n 3, 1)), (36, (.sipush 255, 3)), (39, (.if_icmp .gt 19, 3)), (42, (.iload 4, 2)), (44, (.iload_n 1, 1)), (45, (.ishr, 1)), (46, (.ifCond .ne 12, 3)), (49, (.aload_n 0, 1)), (50, (.iload 4, 2)), (52, (.invokevirtual 29, 3)), (55, (.ifCond .ne 5, 3)), (58, (.iconst 0, 1)), (59, (.ireturn, 1)), (60, (.aload_n 0, 1)), (61, (.getfield 9, 3)), (64, (.iload_n 1, 1)), (65, (.iload_n 2, 1)), (66, (.iastore, 1)), (67, (.aload_n 0, 1)), (68, (.getfield 15, 3)), (71, (.iload_n 1, 1)), (72, (.iload_n 3, 1)), (73, (.iastore, 1)), (74, (.aload_n 0, 1)), (75, (.getfield 18, 3)), (78, (.iload_n 1, 1)), (79, (.iload 4, 2)), (81, (.iastore, 1)), (82, (.aload_n 0, 1)), (83, (.dup, 1)), (84, (.getfield 21, 3)), (87, (.iconst 1, 1)), (88, (.iload_n 1, 1)), (89, (.ishl, 1)), (90, (.ior, 1)), (91, (.putfield 21, 3)), (94, (.iconst 1, 1)), (95, (.ireturn, 1))]
theorem dm_X2_tell : ∀ q ∈ tb_X2_tell, decode zX2_tell.2.1 q.1 = .ok q.2 := by decide +kernel
def f_X2_tell (n : Nat) (a1 a2 a3 a4 : Int32) (M : qM) : qR :=
  (if a1 < (0 : Int32) then some ((0 : Int32), M) else (if (12 : Int32) ≤ a1 then some ((0 : Int32), M) else qc (f_X2_knows n a1 M) (fun r1 m2 => (if r1 = (0 : Int32) then (if a2 < (1 : Int32) then some ((0 : Int32), m2) else (if a2 ≤ (12 : Int32) then (if a3 < (0 : Int32) then some ((0 : Int32), m2) else (if (255 : Int32) < a3 then some ((0 : Int32), m2) else (if (a4 >>> (a1 &&& 31)) = (0 : Int32) then qc (f_X2_knowsAll n a4 m2) (fun r3 m4 => (if r3 = (0 : Int32) then some ((0 : Int32), m4) else qg a1 12 (qlm (mu m4 4 a1.toNatClampNeg a2) (fun m5 => qg a1 12 (qlm (mu m5 5 a1.toNatClampNeg a3) (fun m6 => qg a1 12 (qlm (mu m6 6 a1.toNatClampNeg a4) (fun m7 => qlm (mu m7 3 3 ((m7 3 3) ||| ((1 : Int32) <<< (a1 &&& 31)))) (fun m8 => some ((1 : Int32), m8)))))))))) else some ((0 : Int32), m2)))) else some ((0 : Int32), m2))) else some ((0 : Int32), m2)))))
set_option maxRecDepth 4000 in
theorem w_X2_tell {g : qG} {k : qK} (n : Nat) (j r : Nat) (hj : q_isLaw j) (hr : q_isLaw r) (o : qOk g 1 zX2_tell k) (a1 a2 a3 a4 : Int32) (M : qM) : qAE g k zX2_tell (qL j r) 0 [some (.inr (some 3)), some (.inl a1), some (.inl a2), some (.inl a3), some (.inl a4)] [] (qL j r, M) (f_X2_tell n a1 a2 a3 a4 M) := by
  unfold f_X2_tell
  refine qr_iload_n o (q_dm dm_X2_tell 0 rfl) rfl ?_
  refine qr_if_lt (tgt := 29) o (q_dm dm_X2_tell 1 rfl) (by decide) ?_ ?_
  · refine qr_iconst o (q_dm dm_X2_tell 15 rfl) ic_0 ?_
    exact qr_iret o rfl (by decide) (q_dm dm_X2_tell 16 rfl)
  · refine qr_iload_n o (q_dm dm_X2_tell 2 rfl) rfl ?_
    refine qr_bipush o (q_dm dm_X2_tell 3 rfl) bi_12 ?_
    refine qr_icmp_ge (tgt := 29) o (q_dm dm_X2_tell 4 rfl) (by decide) ?_ ?_
    · refine qr_iconst o (q_dm dm_X2_tell 15 rfl) ic_0 ?_
      exact qr_iret o rfl (by decide) (q_dm dm_X2_tell 16 rfl)
    · refine qr_aload_n o (q_dm dm_X2_tell 5 rfl) rfl ?_
      refine qr_iload_n o (q_dm dm_X2_tell 6 rfl) rfl ?_
      refine qr_callv_i (As := [.inl a1]) (S := []) o (a_X2_knows g k.2.1 n j r hj hr a1 M) (Nat.le_of_ble_eq_true rfl) zv_X2_knows rfl cf_X2 (sh3 j r) ml_X2_25 (Nat.le_of_ble_eq_true rfl) (q_dm dm_X2_tell 7 rfl) (fun r1 m2 => ?_)
      refine qr_if_ne (tgt := 29) o (q_dm dm_X2_tell 8 rfl) (by decide) ?_ ?_
      · refine qr_iconst o (q_dm dm_X2_tell 15 rfl) ic_0 ?_
        exact qr_iret o rfl (by decide) (q_dm dm_X2_tell 16 rfl)
      · refine qr_iload_n o (q_dm dm_X2_tell 9 rfl) rfl ?_
        refine qr_iconst o (q_dm dm_X2_tell 10 rfl) ic_1 ?_
        refine qr_icmp_lt (tgt := 29) o (q_dm dm_X2_tell 11 rfl) (by decide) ?_ ?_
        · refine qr_iconst o (q_dm dm_X2_tell 15 rfl) ic_0 ?_
          exact qr_iret o rfl (by decide) (q_dm dm_X2_tell 16 rfl)
        · refine qr_iload_n o (q_dm dm_X2_tell 12 rfl) rfl ?_
          refine qr_bipush o (q_dm dm_X2_tell 13 rfl) bi_12 ?_
          refine qr_icmp_le (tgt := 31) o (q_dm dm_X2_tell 14 rfl) (by decide) ?_ ?_
          · refine qr_iload_n o (q_dm dm_X2_tell 17 rfl) rfl ?_
            refine qr_if_lt (tgt := 58) o (q_dm dm_X2_tell 18 rfl) (by decide) ?_ ?_
            · refine qr_iconst o (q_dm dm_X2_tell 30 rfl) ic_0 ?_
              exact qr_iret o rfl (by decide) (q_dm dm_X2_tell 31 rfl)
            · refine qr_iload_n o (q_dm dm_X2_tell 19 rfl) rfl ?_
              refine qr_sipush o (q_dm dm_X2_tell 20 rfl) si_255 ?_
              refine qr_icmp_gt (tgt := 58) o (q_dm dm_X2_tell 21 rfl) (by decide) ?_ ?_
              · refine qr_iconst o (q_dm dm_X2_tell 30 rfl) ic_0 ?_
                exact qr_iret o rfl (by decide) (q_dm dm_X2_tell 31 rfl)
              · refine qr_iload o (q_dm dm_X2_tell 22 rfl) rfl ?_
                refine qr_iload_n o (q_dm dm_X2_tell 23 rfl) rfl ?_
                refine qr_ishr o (q_dm dm_X2_tell 24 rfl) ?_
                refine qr_if_ne (tgt := 58) o (q_dm dm_X2_tell 25 rfl) (by decide) ?_ ?_
                · refine qr_iconst o (q_dm dm_X2_tell 30 rfl) ic_0 ?_
                  exact qr_iret o rfl (by decide) (q_dm dm_X2_tell 31 rfl)
                · refine qr_aload_n o (q_dm dm_X2_tell 26 rfl) rfl ?_
                  refine qr_iload o (q_dm dm_X2_tell 27 rfl) rfl ?_
                  refine qr_callv_i (As := [.inl a4]) (S := []) o (a_X2_knowsAll g k.2.1 n j r hj hr a4 m2) (Nat.le_of_ble_eq_true rfl) zv_X2_knowsAll rfl cf_X2 (sh3 j r) ml_X2_29 (Nat.le_of_ble_eq_true rfl) (q_dm dm_X2_tell 28 rfl) (fun r3 m4 => ?_)
                  refine qr_if_ne (tgt := 60) o (q_dm dm_X2_tell 29 rfl) (by decide) ?_ ?_
                  · refine qr_aload_n o (q_dm dm_X2_tell 32 rfl) rfl ?_
                    refine qr_getr (kf := 0) o cf_X2 (sh3 j r) rfl (Nat.le_of_ble_eq_true rfl) fl_X2_9 (q_dm dm_X2_tell 33 rfl) ?_
                    refine qr_iload_n o (q_dm dm_X2_tell 34 rfl) rfl ?_
                    refine qr_iload_n o (q_dm dm_X2_tell 35 rfl) rfl ?_
                    refine qr_iast o (sh4 j r) (q_dm dm_X2_tell 36 rfl) ?_
                    refine qr_letm (fun m5 => ?_)
                    refine qr_aload_n o (q_dm dm_X2_tell 37 rfl) rfl ?_
                    refine qr_getr (kf := 1) o cf_X2 (sh3 j r) rfl (Nat.le_of_ble_eq_true rfl) fl_X2_15 (q_dm dm_X2_tell 38 rfl) ?_
                    refine qr_iload_n o (q_dm dm_X2_tell 39 rfl) rfl ?_
                    refine qr_iload_n o (q_dm dm_X2_tell 40 rfl) rfl ?_
                    refine qr_iast o (sh5 j r) (q_dm dm_X2_tell 41 rfl) ?_
                    refine qr_letm (fun m6 => ?_)
                    refine qr_aload_n o (q_dm dm_X2_tell 42 rfl) rfl ?_
                    refine qr_getr (kf := 2) o cf_X2 (sh3 j r) rfl (Nat.le_of_ble_eq_true rfl) fl_X2_18 (q_dm dm_X2_tell 43 rfl) ?_
                    refine qr_iload_n o (q_dm dm_X2_tell 44 rfl) rfl ?_
                    refine qr_iload o (q_dm dm_X2_tell 45 rfl) rfl ?_
                    refine qr_iast o (sh6 j r) (q_dm dm_X2_tell 46 rfl) ?_
                    refine qr_letm (fun m7 => ?_)
                    refine qr_aload_n o (q_dm dm_X2_tell 47 rfl) rfl ?_
                    refine qr_dup o (q_dm dm_X2_tell 48 rfl) ?_
                    refine qr_getf (kf := 3) o cf_X2 (sh3 j r) rfl (Nat.le_of_ble_eq_true rfl) fl_X2_21 (q_dm dm_X2_tell 49 rfl) ?_
                    refine qr_iconst o (q_dm dm_X2_tell 50 rfl) ic_1 ?_
                    refine qr_iload_n o (q_dm dm_X2_tell 51 rfl) rfl ?_
                    refine qr_ishl o (q_dm dm_X2_tell 52 rfl) ?_
                    refine qr_ior o (q_dm dm_X2_tell 53 rfl) ?_
                    refine qr_putf (kf := 3) o cf_X2 (sh3 j r) rfl (Nat.le_of_ble_eq_true rfl) fl_X2_21 rfl (by decide +kernel) (q_dm dm_X2_tell 54 rfl) ?_
                    refine qr_letm (fun m8 => ?_)
                    refine qr_iconst o (q_dm dm_X2_tell 55 rfl) ic_1 ?_
                    exact qr_iret o rfl (by decide) (q_dm dm_X2_tell 56 rfl)
                  · refine qr_iconst o (q_dm dm_X2_tell 30 rfl) ic_0 ?_
                    exact qr_iret o rfl (by decide) (q_dm dm_X2_tell 31 rfl)
          · refine qr_iconst o (q_dm dm_X2_tell 15 rfl) ic_0 ?_
            exact qr_iret o rfl (by decide) (q_dm dm_X2_tell 16 rfl)

theorem a_X2_tell (g : qG) (l : Launch) (n : Nat) (j r : Nat) (hj : q_isLaw j) (hr : q_isLaw r) (a1 a2 a3 a4 : Int32) (M : qM) : qAM g l 1 zX2_tell (qL j r) [.inr (some 3), .inl a1, .inl a2, .inl a3, .inl a4] (qL j r, M) (f_X2_tell n a1 a2 a3 a4 M) :=
  qAM.of zv_X2_tell.1 (by show 5 ≤ 5; decide) (fun k hk o => w_X2_tell n j r hj hr o a1 a2 a3 a4 M)
def tb_X11_kind : List (Nat × Instr × Nat) := [(0, (.aload_n 0, 1)), (1, (.getfield 19, 3)), (4, (.iload_n 1, 1)), (5, (.iload_n 2, 1)), (6, (.iload_n 3, 1)), (7, (.iload 4, 2)), (9, (.invokevirtual 99, 3)), (12, (.ireturn, 1))]
theorem dm_X11_kind : ∀ q ∈ tb_X11_kind, decode zX11_kind.2.1 q.1 = .ok q.2 := by decide +kernel
def f_X11_kind (n : Nat) (a1 a2 a3 a4 : Int32) (M : qM) : qR :=
  qc (f_X2_tell n a1 a2 a3 a4 M) (fun r1 m2 => qb r1 (some (r1, m2)))
set_option maxRecDepth 4000 in
theorem w_X11_kind {g : qG} {k : qK} (n : Nat) (j r : Nat) (hj : q_isLaw j) (hr : q_isLaw r) (o : qOk g 2 zX11_kind k) (a1 a2 a3 a4 : Int32) (M : qM) : qAE g k zX11_kind (qL j r) 0 [some (.inr (some 0)), some (.inl a1), some (.inl a2), some (.inl a3), some (.inl a4)] [] (qL j r, M) (f_X11_kind n a1 a2 a3 a4 M) := by
  unfold f_X11_kind
  refine qr_aload_n o (q_dm dm_X11_kind 0 rfl) rfl ?_
  refine qr_getr (kf := 1) o cf_X11 (sh0 j r) rfl (Nat.le_of_ble_eq_true rfl) fl_X11_19 (q_dm dm_X11_kind 1 rfl) ?_
  refine qr_iload_n o (q_dm dm_X11_kind 2 rfl) rfl ?_
  refine qr_iload_n o (q_dm dm_X11_kind 3 rfl) rfl ?_
  refine qr_iload_n o (q_dm dm_X11_kind 4 rfl) rfl ?_
  refine qr_iload o (q_dm dm_X11_kind 5 rfl) rfl ?_
  refine qr_callv_i (As := [.inl a1, .inl a2, .inl a3, .inl a4]) (S := []) o (a_X2_tell g k.2.1 n j r hj hr a1 a2 a3 a4 M) (Nat.le_of_ble_eq_true rfl) zv_X2_tell rfl cf_X2 (sh3 j r) ml_X11_99 (Nat.le_of_ble_eq_true rfl) (q_dm dm_X11_kind 6 rfl) (fun r1 m2 => ?_)
  exact qr_zret o rfl (q_dm dm_X11_kind 7 rfl)

theorem a_X11_kind (g : qG) (l : Launch) (n : Nat) (j r : Nat) (hj : q_isLaw j) (hr : q_isLaw r) (a1 a2 a3 a4 : Int32) (M : qM) : qAM g l 2 zX11_kind (qL j r) [.inr (some 0), .inl a1, .inl a2, .inl a3, .inl a4] (qL j r, M) (f_X11_kind n a1 a2 a3 a4 M) :=
  qAM.of zv_X11_kind.1 (by show 5 ≤ 5; decide) (fun k hk o => w_X11_kind n j r hj hr o a1 a2 a3 a4 M)
def tb_X3_clear : List (Nat × Instr × Nat) := [(0, (.aload_n 0, 1)), (1, (.iconst 0, 1)), (2, (.putfield 30, 3)), (5, (.aload_n 0, 1)), (6, (.iconst 0, 1)), (7, (.putfield 34, 3)), (10, (.return_, 1))]
theorem dm_X3_clear : ∀ q ∈ tb_X3_clear, decode zX3_clear.2.1 q.1 = .ok q.2 := by decide +kernel
def f_X3_clear (n : Nat) (w : Nat) (M : qM) : qR :=
  qlm (mu M w 6 (0 : Int32)) (fun m1 => qlm (mu m1 w 7 (0 : Int32)) (fun m2 => some (0, m2)))
set_option maxRecDepth 4000 in
theorem w_X3_clear {g : qG} {k : qK} (n : Nat) (j r : Nat) (hj : q_isLaw j) (hr : q_isLaw r) {w : Nat} (hw : q_isLaw w) (o : qOk g 0 zX3_clear k) (M : qM) : qAE g k zX3_clear (qL j r) 0 [some (.inr (some w))] [] (qL j r, M) (f_X3_clear n w  M) := by
  unfold f_X3_clear
  refine qr_aload_n o (q_dm dm_X3_clear 0 rfl) rfl ?_
  refine qr_iconst o (q_dm dm_X3_clear 1 rfl) ic_0 ?_
  refine qr_putf (kf := 6) o cf_X3 (shW0 j r hw) rfl (Nat.le_of_ble_eq_true rfl) fl_X3_30 rfl (by decide +kernel) (q_dm dm_X3_clear 2 rfl) ?_
  refine qr_letm (fun m1 => ?_)
  refine qr_aload_n o (q_dm dm_X3_clear 3 rfl) rfl ?_
  refine qr_iconst o (q_dm dm_X3_clear 4 rfl) ic_0 ?_
  refine qr_putf (kf := 7) o cf_X3 (shW0 j r hw) rfl (Nat.le_of_ble_eq_true rfl) fl_X3_34 rfl (by decide +kernel) (q_dm dm_X3_clear 5 rfl) ?_
  refine qr_letm (fun m2 => ?_)
  exact qr_vret o rfl (q_dm dm_X3_clear 6 rfl)

theorem a_X3_clear (g : qG) (l : Launch) (n : Nat) (j r : Nat) (hj : q_isLaw j) (hr : q_isLaw r) {w : Nat} (hw : q_isLaw w) (M : qM) : qAM g l 0 zX3_clear (qL j r) [.inr (some w)] (qL j r, M) (f_X3_clear n w  M) :=
  qAM.of zv_X3_clear.1 (by show 1 ≤ 1; decide) (fun k hk o => w_X3_clear n j r hj hr hw o  M)
