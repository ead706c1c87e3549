def tb_X8_goThrough : List (Nat × Instr × Nat) := [(0, (.aload_n 0, 1)), (1, (.iconst 0, 1)), (2, (.putfield 63, 3)), (5, (.aload_n 0, 1)), (6, (.bipush (-2), 2)), (8, (.putfield 66, 3)), (11, (.aload_n 0, 1)), (12, (.getfield 27, 3)), (15, (.iconst 0, 1)), (16, (.invokestatic 69, 3)), (19, (.iconst 0, 1)), (20, (.istore_n 3, 1)), (21, (.iload_n 3, 1)), (22, (.aload_n 0, 1)), (23, (.getfield 44, 3)), (26, (.if_icmp .ge 29, 3)), (29, (.aload_n 0, 1)), (30, (.getfield 15, 3)), (33, (.iload_n 3, 1)), (34, (.aload_n 0, 1)), (35, (.getfield 34, 3)), (38, (.aload_n 0, 1)), (39, (.getfield 9, 3)), (42, (.iload_n 3, 1)), (43, (.iaload, 1)), (44, (.iload_n 2, 1)), (45, (.invokevirtual 75, 3)), (48, (.iastore, 1)), (49, (.iinc 3 1, 3)), (52, (.goto (-31), 3)), (55, (.iconst 0, 1)), (56, (.istore_n 3, 1)), (57, (.iload_n 3, 1)), (58, (.iconst 1, 1)), (59, (.iconst 2, 1)), (60, (.aload_n 0, 1)), (61, (.getfield 44, 3)), (64, (.imul, 1)), (65, (.ishl, 1)), (66, (.if_icmp .ge 90, 3)), (69, (.aload_n 0, 1)), (70, (.iload_n 3, 1)), (71, (.iload_n 1, 1)), (72, (.invokevirtual 79, 3)), (75, (.ifCond .eq 75, 3)), (78, (.aload_n 0, 1)), (79, (.aload_n 0, 1)), (80, (.getfield 63, 3)), (83, (.ifCond .ne 7, 3)), (86, (.iload_n 3, 1)), (87, (.goto 7, 3)), (90, (.aload_n 0, 1)), (91, (.getfield 66, 3)), (94, (.putfield 66, 3)), (97, (.aload_n 0, 1)), (98, (.dup, 1)), (99, (.getfield 63, 3)), (102, (.iconst 1, 1)), (103, (.iadd, 1)), (104, (.putfield 63, 3)), (107, (.iconst 0, 1)), (108, (.istore 4, 2)), (110, (.iload 4, 2)), (112, (.aload_n 0, 1)), (113, (.getfield 44, 3)), (116, (.if_icmp .ge 34, 3)), (119, (.aload_n 0, 1)), (120, (.getfield 27, 3)), (123, (.iload 4, 2)), (125, (.dup2, 1)), (126, (.iaload, 1)), (127, (.aload_n 0, 1)), (128, (.iload 4, 2)), (130, (.invokevirtual 83, 3)), (133, (.iload_n 1, 1)), (134, (.if_icmp .lt 7, 3)), (137, (.iconst 1, 1)), (138, (.goto 4, 3)), (141, (.iconst 0, 1)), (142, (.iadd, 1)), (143, (.iastore, 1)), (144, (.iinc 4 1, 3)), (147, (.goto (-37), 3)), (150, (.iinc 3 1, 3)), (153, (.goto (-96), 3)), (156, (.return_, 1))]
theorem dm_X8_goThrough : ∀ q ∈ tb_X8_goThrough, decode zX8_goThrough.2.1 q.1 = .ok q.2 := by decide +kernel
def f_X8_goThrough_142 (n : Nat) (j : Nat) (K57 : Int32 → Int32 → qM → qR) (K110 : Int32 → Int32 → Int32 → qM → qR) (a1 a3 a4 s1 s2 s3 : Int32) (M : qM) : qR :=
  qg s1 4 (qlm (mu M 76 s1.toNatClampNeg (s2 + s3)) (fun m1 => ql (a4 + (1 : Int32)) (fun x2 => K110 a1 a3 x2 m1)))
set_option maxRecDepth 4000 in
theorem w_X8_goThrough_142 {g : qG} {k : qK} (n : Nat) (j r : Nat) (hj : q_isLaw j) (hr : q_isLaw r) (o : qOk g 4 zX8_goThrough k) (K57 : Int32 → Int32 → qM → qR) (hK57 : ∀ (a1 a3 : Int32) (M : qM), qAE g k zX8_goThrough (qL j r) 57 [some (.inr (some 70)), some (.inl a1), none, some (.inl a3), none] [] (qL j r, M) (K57 a1 a3 M)) (K110 : Int32 → Int32 → Int32 → qM → qR) (hK110 : ∀ (a1 a3 a4 : Int32) (M : qM), qAE g k zX8_goThrough (qL j r) 110 [some (.inr (some 70)), some (.inl a1), none, some (.inl a3), some (.inl a4)] [] (qL j r, M) (K110 a1 a3 a4 M)) (a1 a3 a4 s1 s2 s3 : Int32) (M : qM) : qAE g k zX8_goThrough (qL j r) 142 [some (.inr (some 70)), some (.inl a1), none, some (.inl a3), some (.inl a4)] [.inl s3, .inl s2, .inl s1, .inr (some 76)] (qL j r, M) (f_X8_goThrough_142 n j K57 K110 a1 a3 a4 s1 s2 s3 M) := by
  unfold f_X8_goThrough_142
  refine qr_iadd o (q_dm dm_X8_goThrough 79 rfl) ?_
  refine qr_iast o (sh76 j r) (q_dm dm_X8_goThrough 80 rfl) ?_
  refine qr_letm (fun m1 => ?_)
  refine qs_iincl2 (L' := fun x2 => [some (.inr (some 70)), some (.inl a1), none, some (.inl a3), some (.inl x2)]) o (q_dm dm_X8_goThrough 81 rfl) rfl ic_1 (Nat.le_of_ble_eq_true rfl) (fun _ => rfl) (fun x2 => ?_)
  refine qr_goto (tgt := 110) o (q_dm dm_X8_goThrough 82 rfl) (by decide) ?_
  exact qr_loc (q_leS (q_leS (q_leN (q_leS (q_leS q_le0))))) (hK110 a1 a3 x2 m1)

def b_X8_goThrough_110 (n : Nat) (j : Nat) (K57 : Int32 → Int32 → qM → qR) (K110 : Int32 → Int32 → Int32 → qM → qR) (a1 a3 a4 : Int32) (M : qM) : qR :=
  (if (M 70 8) ≤ a4 then ql (a3 + (1 : Int32)) (fun x1 => K57 a1 x1 M) else qg a4 4 (qc (f_X8_old n a4 M) (fun r2 m3 => (if r2 < a1 then f_X8_goThrough_142 n j K57 K110 a1 a3 a4 a4 (M 76 a4.toNatClampNeg) (0 : Int32) m3 else f_X8_goThrough_142 n j K57 K110 a1 a3 a4 a4 (M 76 a4.toNatClampNeg) (1 : Int32) m3))))
set_option maxRecDepth 4000 in
theorem wb_X8_goThrough_110 {g : qG} {k : qK} (n : Nat) (j r : Nat) (hj : q_isLaw j) (hr : q_isLaw r) (o : qOk g 4 zX8_goThrough k) (K57 : Int32 → Int32 → qM → qR) (hK57 : ∀ (a1 a3 : Int32) (M : qM), qAE g k zX8_goThrough (qL j r) 57 [some (.inr (some 70)), some (.inl a1), none, some (.inl a3), none] [] (qL j r, M) (K57 a1 a3 M)) (K110 : Int32 → Int32 → Int32 → qM → qR) (hK110 : ∀ (a1 a3 a4 : Int32) (M : qM), qAE g k zX8_goThrough (qL j r) 110 [some (.inr (some 70)), some (.inl a1), none, some (.inl a3), some (.inl a4)] [] (qL j r, M) (K110 a1 a3 a4 M)) (a1 a3 a4 : Int32) (M : qM) : qAE g k zX8_goThrough (qL j r) 110 [some (.inr (some 70)), some (.inl a1), none, some (.inl a3), some (.inl a4)] [] (qL j r, M) (b_X8_goThrough_110 n j K57 K110 a1 a3 a4 M) := by
  unfold b_X8_goThrough_110
  refine qr_iload o (q_dm dm_X8_goThrough 62 rfl) rfl ?_
  refine qr_aload_n o (q_dm dm_X8_goThrough 63 rfl) rfl ?_
  refine qr_getf (kf := 8) o cf_X8 (sh70 j r) rfl (Nat.le_of_ble_eq_true rfl) fl_X8_44 (q_dm dm_X8_goThrough 64 rfl) ?_
  refine qr_icmp_ge (tgt := 150) o (q_dm dm_X8_goThrough 65 rfl) (by decide) ?_ ?_
  · refine qs_iincl2 (L' := fun x1 => [some (.inr (some 70)), some (.inl a1), none, some (.inl x1), some (.inl a4)]) o (q_dm dm_X8_goThrough 83 rfl) rfl ic_1 (Nat.le_of_ble_eq_true rfl) (fun _ => rfl) (fun x1 => ?_)
    refine qr_goto (tgt := 57) o (q_dm dm_X8_goThrough 84 rfl) (by decide) ?_
    exact qr_loc (q_leS (q_leS (q_leN (q_leS (q_leN q_le0))))) (hK57 a1 x1 M)
  · refine qr_aload_n o (q_dm dm_X8_goThrough 66 rfl) rfl ?_
    refine qr_getr (kf := 7) o cf_X8 (sh70 j r) rfl (Nat.le_of_ble_eq_true rfl) fl_X8_27 (q_dm dm_X8_goThrough 67 rfl) ?_
    refine qr_iload o (q_dm dm_X8_goThrough 68 rfl) rfl ?_
    refine qr_dup2 o (q_dm dm_X8_goThrough 69 rfl) ?_
    refine qr_iald o (sh76 j r) (q_dm dm_X8_goThrough 70 rfl) ?_
    refine qr_aload_n o (q_dm dm_X8_goThrough 71 rfl) rfl ?_
    refine qr_iload o (q_dm dm_X8_goThrough 72 rfl) rfl ?_
    refine qr_callv_i (As := [.inl a4]) (S := [.inl (M 76 a4.toNatClampNeg), .inl a4, .inr (some 76)]) o (a_X8_old g k.2.1 n j r hj hr a4 M) (Nat.le_of_ble_eq_true rfl) zv_X8_old rfl cf_X8 (sh70 j r) ml_X8_83 (Nat.le_of_ble_eq_true rfl) (q_dm dm_X8_goThrough 73 rfl) (fun r2 m3 => ?_)
    refine qr_iload_n o (q_dm dm_X8_goThrough 74 rfl) rfl ?_
    refine qr_icmp_lt (tgt := 141) o (q_dm dm_X8_goThrough 75 rfl) (by decide) ?_ ?_
    · refine qr_iconst o (q_dm dm_X8_goThrough 78 rfl) ic_0 ?_
      exact qr_loc (q_leS (q_leS (q_leN (q_leS (q_leS q_le0))))) (w_X8_goThrough_142 n j r hj hr o K57 hK57 K110 hK110 a1 a3 a4 a4 (M 76 a4.toNatClampNeg) (0 : Int32) m3)
    · refine qr_iconst o (q_dm dm_X8_goThrough 76 rfl) ic_1 ?_
      refine qr_goto (tgt := 142) o (q_dm dm_X8_goThrough 77 rfl) (by decide) ?_
      exact qr_loc (q_leS (q_leS (q_leN (q_leS (q_leS q_le0))))) (w_X8_goThrough_142 n j r hj hr o K57 hK57 K110 hK110 a1 a3 a4 a4 (M 76 a4.toNatClampNeg) (1 : Int32) m3)

def f_X8_goThrough_110 (n : Nat) (j : Nat) (K57 : Int32 → Int32 → qM → qR) : Nat → Int32 → Int32 → Int32 → qM → qR
  | 0, _, _, _, _ => none
  | m + 1, a1, a3, a4, M => b_X8_goThrough_110 n j K57 (f_X8_goThrough_110 n j K57 m) a1 a3 a4 M
theorem w_X8_goThrough_110 {g : qG} {k : qK} (n : Nat) (j r : Nat) (hj : q_isLaw j) (hr : q_isLaw r) (o : qOk g 4 zX8_goThrough k) (K57 : Int32 → Int32 → qM → qR) (hK57 : ∀ (a1 a3 : Int32) (M : qM), qAE g k zX8_goThrough (qL j r) 57 [some (.inr (some 70)), some (.inl a1), none, some (.inl a3), none] [] (qL j r, M) (K57 a1 a3 M)) : ∀ (m : Nat) (a1 a3 a4 : Int32) (M : qM), qAE g k zX8_goThrough (qL j r) 110 [some (.inr (some 70)), some (.inl a1), none, some (.inl a3), some (.inl a4)] [] (qL j r, M) (f_X8_goThrough_110 n j K57 m a1 a3 a4 M) := by
  intro m
  induction m with
  | zero =>
    intro a1 a3 a4 M
    exact qr_none
  | succ m ih =>
    intro a1 a3 a4 M
    exact wb_X8_goThrough_110 n j r hj hr o K57 hK57 (f_X8_goThrough_110 n j K57 m) ih a1 a3 a4 M
def f_X8_goThrough_94 (n : Nat) (j : Nat) (K57 : Int32 → Int32 → qM → qR) (a1 a3 s1 : Int32) (M : qM) : qR :=
  qlm (mu M 70 11 s1) (fun m1 => qlm (mu m1 70 10 ((m1 70 10) + (1 : Int32))) (fun m2 => f_X8_goThrough_110 n j K57 n a1 a3 (0 : Int32) m2))
set_option maxRecDepth 4000 in
theorem w_X8_goThrough_94 {g : qG} {k : qK} (n : Nat) (j r : Nat) (hj : q_isLaw j) (hr : q_isLaw r) (o : qOk g 4 zX8_goThrough k) (K57 : Int32 → Int32 → qM → qR) (hK57 : ∀ (a1 a3 : Int32) (M : qM), qAE g k zX8_goThrough (qL j r) 57 [some (.inr (some 70)), some (.inl a1), none, some (.inl a3), none] [] (qL j r, M) (K57 a1 a3 M)) (a1 a3 s1 : Int32) (M : qM) : qAE g k zX8_goThrough (qL j r) 94 [some (.inr (some 70)), some (.inl a1), none, some (.inl a3), none] [.inl s1, .inr (some 70)] (qL j r, M) (f_X8_goThrough_94 n j K57 a1 a3 s1 M) := by
  unfold f_X8_goThrough_94
  refine qr_putf (kf := 11) o cf_X8 (sh70 j r) rfl (Nat.le_of_ble_eq_true rfl) fl_X8_66 rfl (by decide +kernel) (q_dm dm_X8_goThrough 53 rfl) ?_
  refine qr_letm (fun m1 => ?_)
  refine qr_aload_n o (q_dm dm_X8_goThrough 54 rfl) rfl ?_
  refine qr_dup o (q_dm dm_X8_goThrough 55 rfl) ?_
  refine qr_getf (kf := 10) o cf_X8 (sh70 j r) rfl (Nat.le_of_ble_eq_true rfl) fl_X8_63 (q_dm dm_X8_goThrough 56 rfl) ?_
  refine qr_iconst o (q_dm dm_X8_goThrough 57 rfl) ic_1 ?_
  refine qr_iadd o (q_dm dm_X8_goThrough 58 rfl) ?_
  refine qr_putf (kf := 10) o cf_X8 (sh70 j r) rfl (Nat.le_of_ble_eq_true rfl) fl_X8_63 rfl (by decide +kernel) (q_dm dm_X8_goThrough 59 rfl) ?_
  refine qr_letm (fun m2 => ?_)
  refine qr_iconst o (q_dm dm_X8_goThrough 60 rfl) ic_0 ?_
  refine qs_istore (L' := [some (.inr (some 70)), some (.inl a1), none, some (.inl a3), some (.inl (0 : Int32))]) o (q_dm dm_X8_goThrough 61 rfl) (Nat.le_of_ble_eq_true rfl) rfl ?_
  exact qr_loc (q_leS (q_leS (q_leN (q_leS (q_leS q_le0))))) (w_X8_goThrough_110 n j r hj hr o K57 hK57 n a1 a3 (0 : Int32) m2)

def b_X8_goThrough_57 (n : Nat) (j : Nat) (K57 : Int32 → Int32 → qM → qR) (a1 a3 : Int32) (M : qM) : qR :=
  (if ((1 : Int32) <<< (((2 : Int32) * (M 70 8)) &&& 31)) ≤ a3 then some (0, M) else qc (f_X8_fits n a3 a1 M) (fun r1 m2 => (if r1 = (0 : Int32) then ql (a3 + (1 : Int32)) (fun x3 => K57 a1 x3 m2) else (if (m2 70 10) = (0 : Int32) then f_X8_goThrough_94 n j K57 a1 a3 a3 m2 else f_X8_goThrough_94 n j K57 a1 a3 (m2 70 11) m2))))
set_option maxRecDepth 4000 in
theorem wb_X8_goThrough_57 {g : qG} {k : qK} (n : Nat) (j r : Nat) (hj : q_isLaw j) (hr : q_isLaw r) (o : qOk g 4 zX8_goThrough k) (K57 : Int32 → Int32 → qM → qR) (hK57 : ∀ (a1 a3 : Int32) (M : qM), qAE g k zX8_goThrough (qL j r) 57 [some (.inr (some 70)), some (.inl a1), none, some (.inl a3), none] [] (qL j r, M) (K57 a1 a3 M)) (a1 a3 : Int32) (M : qM) : qAE g k zX8_goThrough (qL j r) 57 [some (.inr (some 70)), some (.inl a1), none, some (.inl a3), none] [] (qL j r, M) (b_X8_goThrough_57 n j K57 a1 a3 M) := by
  unfold b_X8_goThrough_57
  refine qr_iload_n o (q_dm dm_X8_goThrough 32 rfl) rfl ?_
  refine qr_iconst o (q_dm dm_X8_goThrough 33 rfl) ic_1 ?_
  refine qr_iconst o (q_dm dm_X8_goThrough 34 rfl) ic_2 ?_
  refine qr_aload_n o (q_dm dm_X8_goThrough 35 rfl) rfl ?_
  refine qr_getf (kf := 8) o cf_X8 (sh70 j r) rfl (Nat.le_of_ble_eq_true rfl) fl_X8_44 (q_dm dm_X8_goThrough 36 rfl) ?_
  refine qr_imul o (q_dm dm_X8_goThrough 37 rfl) ?_
  refine qr_ishl o (q_dm dm_X8_goThrough 38 rfl) ?_
  refine qr_icmp_ge (tgt := 156) o (q_dm dm_X8_goThrough 39 rfl) (by decide) ?_ ?_
  · exact qr_vret o rfl (q_dm dm_X8_goThrough 85 rfl)
  · refine qr_aload_n o (q_dm dm_X8_goThrough 40 rfl) rfl ?_
    refine qr_iload_n o (q_dm dm_X8_goThrough 41 rfl) rfl ?_
    refine qr_iload_n o (q_dm dm_X8_goThrough 42 rfl) rfl ?_
    refine qr_callv_i (As := [.inl a3, .inl a1]) (S := []) o (a_X8_fits g k.2.1 n j r hj hr a3 a1 M) (Nat.le_of_ble_eq_true rfl) zv_X8_fits rfl cf_X8 (sh70 j r) ml_X8_79 (Nat.le_of_ble_eq_true rfl) (q_dm dm_X8_goThrough 43 rfl) (fun r1 m2 => ?_)
    refine qr_if_eq (tgt := 150) o (q_dm dm_X8_goThrough 44 rfl) (by decide) ?_ ?_
    · refine qs_iincl2 (L' := fun x3 => [some (.inr (some 70)), some (.inl a1), none, some (.inl x3), none]) o (q_dm dm_X8_goThrough 83 rfl) rfl ic_1 (Nat.le_of_ble_eq_true rfl) (fun _ => rfl) (fun x3 => ?_)
      refine qr_goto (tgt := 57) o (q_dm dm_X8_goThrough 84 rfl) (by decide) ?_
      exact qr_loc (q_leS (q_leS (q_leN (q_leS (q_leN q_le0))))) (hK57 a1 x3 m2)
    · refine qr_aload_n o (q_dm dm_X8_goThrough 45 rfl) rfl ?_
      refine qr_aload_n o (q_dm dm_X8_goThrough 46 rfl) rfl ?_
      refine qr_getf (kf := 10) o cf_X8 (sh70 j r) rfl (Nat.le_of_ble_eq_true rfl) fl_X8_63 (q_dm dm_X8_goThrough 47 rfl) ?_
      refine qr_if_ne (tgt := 90) o (q_dm dm_X8_goThrough 48 rfl) (by decide) ?_ ?_
      · refine qr_aload_n o (q_dm dm_X8_goThrough 51 rfl) rfl ?_
        refine qr_getf (kf := 11) o cf_X8 (sh70 j r) rfl (Nat.le_of_ble_eq_true rfl) fl_X8_66 (q_dm dm_X8_goThrough 52 rfl) ?_
        exact qr_loc (q_leS (q_leS (q_leN (q_leS (q_leN q_le0))))) (w_X8_goThrough_94 n j r hj hr o K57 hK57 a1 a3 (m2 70 11) m2)
      · refine qr_iload_n o (q_dm dm_X8_goThrough 49 rfl) rfl ?_
        refine qr_goto (tgt := 94) o (q_dm dm_X8_goThrough 50 rfl) (by decide) ?_
        exact qr_loc (q_leS (q_leS (q_leN (q_leS (q_leN q_le0))))) (w_X8_goThrough_94 n j r hj hr o K57 hK57 a1 a3 a3 m2)

def f_X8_goThrough_57 (n : Nat) (j : Nat) : Nat → Int32 → Int32 → qM → qR
  | 0, _, _, _ => none
  | m + 1, a1, a3, M => b_X8_goThrough_57 n j (f_X8_goThrough_57 n j m) a1 a3 M
theorem w_X8_goThrough_57 {g : qG} {k : qK} (n : Nat) (j r : Nat) (hj : q_isLaw j) (hr : q_isLaw r) (o : qOk g 4 zX8_goThrough k) : ∀ (m : Nat) (a1 a3 : Int32) (M : qM), qAE g k zX8_goThrough (qL j r) 57 [some (.inr (some 70)), some (.inl a1), none, some (.inl a3), none] [] (qL j r, M) (f_X8_goThrough_57 n j m a1 a3 M) := by
  intro m
  induction m with
  | zero =>
    intro a1 a3 M
    exact qr_none
  | succ m ih =>
    intro a1 a3 M
    exact wb_X8_goThrough_57 n j r hj hr o (f_X8_goThrough_57 n j m) ih a1 a3 M
def b_X8_goThrough_21 (n : Nat) (j : Nat) (K21 : Int32 → Int32 → Int32 → qM → qR) (a1 a2 a3 : Int32) (M : qM) : qR :=
  (if (M 70 8) ≤ a3 then f_X8_goThrough_57 n j n a1 (0 : Int32) M else qg a3 4 (qc (f_X1_alikes n j (M 71 a3.toNatClampNeg) a2 M) (fun r1 m2 => qg a3 4 (qlm (mu m2 72 a3.toNatClampNeg r1) (fun m3 => ql (a3 + (1 : Int32)) (fun x4 => K21 a1 a2 x4 m3))))))
set_option maxRecDepth 4000 in
theorem wb_X8_goThrough_21 {g : qG} {k : qK} (n : Nat) (j r : Nat) (hj : q_isLaw j) (hr : q_isLaw r) (o : qOk g 4 zX8_goThrough k) (K21 : Int32 → Int32 → Int32 → qM → qR) (hK21 : ∀ (a1 a2 a3 : Int32) (M : qM), qAE g k zX8_goThrough (qL j r) 21 [some (.inr (some 70)), some (.inl a1), some (.inl a2), some (.inl a3), none] [] (qL j r, M) (K21 a1 a2 a3 M)) (a1 a2 a3 : Int32) (M : qM) : qAE g k zX8_goThrough (qL j r) 21 [some (.inr (some 70)), some (.inl a1), some (.inl a2), some (.inl a3), none] [] (qL j r, M) (b_X8_goThrough_21 n j K21 a1 a2 a3 M) := by
  unfold b_X8_goThrough_21
  refine qr_iload_n o (q_dm dm_X8_goThrough 12 rfl) rfl ?_
  refine qr_aload_n o (q_dm dm_X8_goThrough 13 rfl) rfl ?_
  refine qr_getf (kf := 8) o cf_X8 (sh70 j r) rfl (Nat.le_of_ble_eq_true rfl) fl_X8_44 (q_dm dm_X8_goThrough 14 rfl) ?_
  refine qr_icmp_ge (tgt := 55) o (q_dm dm_X8_goThrough 15 rfl) (by decide) ?_ ?_
  · refine qr_iconst o (q_dm dm_X8_goThrough 30 rfl) ic_0 ?_
    refine qs_istore_n (L' := [some (.inr (some 70)), some (.inl a1), some (.inl a2), some (.inl (0 : Int32)), none]) o (q_dm dm_X8_goThrough 31 rfl) (Nat.le_of_ble_eq_true rfl) rfl ?_
    exact qr_loc (q_leS (q_leS (q_leN (q_leS (q_leN q_le0))))) (w_X8_goThrough_57 n j r hj hr o n a1 (0 : Int32) M)
  · refine qr_aload_n o (q_dm dm_X8_goThrough 16 rfl) rfl ?_
    refine qr_getr (kf := 3) o cf_X8 (sh70 j r) rfl (Nat.le_of_ble_eq_true rfl) fl_X8_15 (q_dm dm_X8_goThrough 17 rfl) ?_
    refine qr_iload_n o (q_dm dm_X8_goThrough 18 rfl) rfl ?_
    refine qr_aload_n o (q_dm dm_X8_goThrough 19 rfl) rfl ?_
    refine qr_getr (kf := 1) o cf_X8 (sh70 j r) rfl (Nat.le_of_ble_eq_true rfl) fl_X8_34 (q_dm dm_X8_goThrough 20 rfl) ?_
    refine qr_aload_n o (q_dm dm_X8_goThrough 21 rfl) rfl ?_
    refine qr_getr (kf := 2) o cf_X8 (sh70 j r) rfl (Nat.le_of_ble_eq_true rfl) fl_X8_9 (q_dm dm_X8_goThrough 22 rfl) ?_
    refine qr_iload_n o (q_dm dm_X8_goThrough 23 rfl) rfl ?_
    refine qr_iald o (sh71 j r) (q_dm dm_X8_goThrough 24 rfl) ?_
    refine qr_iload_n o (q_dm dm_X8_goThrough 25 rfl) rfl ?_
    refine qr_callv_i (As := [.inl (M 71 a3.toNatClampNeg), .inl a2]) (S := [.inl a3, .inr (some 72)]) o (a_X1_alikes g k.2.1 n j r hj hr (M 71 a3.toNatClampNeg) a2 M) (Nat.le_of_ble_eq_true rfl) zv_X1_alikes rfl cf_X1 (sh34 j r) ml_X8_75 (Nat.le_of_ble_eq_true rfl) (q_dm dm_X8_goThrough 26 rfl) (fun r1 m2 => ?_)
    refine qr_iast o (sh72 j r) (q_dm dm_X8_goThrough 27 rfl) ?_
    refine qr_letm (fun m3 => ?_)
    refine qs_iincl2 (L' := fun x4 => [some (.inr (some 70)), some (.inl a1), some (.inl a2), some (.inl x4), none]) o (q_dm dm_X8_goThrough 28 rfl) rfl ic_1 (Nat.le_of_ble_eq_true rfl) (fun _ => rfl) (fun x4 => ?_)
    refine qr_goto (tgt := 21) o (q_dm dm_X8_goThrough 29 rfl) (by decide) ?_
    exact qr_loc (q_leS (q_leS (q_leS (q_leS (q_leN q_le0))))) (hK21 a1 a2 x4 m3)

def f_X8_goThrough_21 (n : Nat) (j : Nat) : Nat → Int32 → Int32 → Int32 → qM → qR
  | 0, _, _, _, _ => none
  | m + 1, a1, a2, a3, M => b_X8_goThrough_21 n j (f_X8_goThrough_21 n j m) a1 a2 a3 M
theorem w_X8_goThrough_21 {g : qG} {k : qK} (n : Nat) (j r : Nat) (hj : q_isLaw j) (hr : q_isLaw r) (o : qOk g 4 zX8_goThrough k) : ∀ (m : Nat) (a1 a2 a3 : Int32) (M : qM), qAE g k zX8_goThrough (qL j r) 21 [some (.inr (some 70)), some (.inl a1), some (.inl a2), some (.inl a3), none] [] (qL j r, M) (f_X8_goThrough_21 n j m a1 a2 a3 M) := by
  intro m
  induction m with
  | zero =>
    intro a1 a2 a3 M
    exact qr_none
  | succ m ih =>
    intro a1 a2 a3 M
    exact wb_X8_goThrough_21 n j r hj hr o (f_X8_goThrough_21 n j m) ih a1 a2 a3 M
def f_X8_goThrough (n : Nat) (j : Nat) (a1 a2 : Int32) (M : qM) : qR :=
  qlm (mu M 70 10 (0 : Int32)) (fun m1 => qlm (mu m1 70 11 (-2 : Int32)) (fun m2 => qc (f_J7_fill_53178 n 76 4 (0 : Int32) m2) (fun _ m3 => f_X8_goThrough_21 n j n a1 a2 (0 : Int32) m3)))
set_option maxRecDepth 4000 in
theorem w_X8_goThrough {g : qG} {k : qK} (n : Nat) (j r : Nat) (hj : q_isLaw j) (hr : q_isLaw r) (o : qOk g 4 zX8_goThrough k) (a1 a2 : Int32) (M : qM) : qAE g k zX8_goThrough (qL j r) 0 [some (.inr (some 70)), some (.inl a1), some (.inl a2), none, none] [] (qL j r, M) (f_X8_goThrough n j a1 a2 M) := by
  unfold f_X8_goThrough
  refine qr_aload_n o (q_dm dm_X8_goThrough 0 rfl) rfl ?_
  refine qr_iconst o (q_dm dm_X8_goThrough 1 rfl) ic_0 ?_
  refine qr_putf (kf := 10) o cf_X8 (sh70 j r) rfl (Nat.le_of_ble_eq_true rfl) fl_X8_63 rfl (by decide +kernel) (q_dm dm_X8_goThrough 2 rfl) ?_
  refine qr_letm (fun m1 => ?_)
  refine qr_aload_n o (q_dm dm_X8_goThrough 3 rfl) rfl ?_
  refine qr_bipush o (q_dm dm_X8_goThrough 4 rfl) bi_m2 ?_
  refine qr_putf (kf := 11) o cf_X8 (sh70 j r) rfl (Nat.le_of_ble_eq_true rfl) fl_X8_66 rfl (by decide +kernel) (q_dm dm_X8_goThrough 5 rfl) ?_
  refine qr_letm (fun m2 => ?_)
  refine qr_aload_n o (q_dm dm_X8_goThrough 6 rfl) rfl ?_
  refine qr_getr (kf := 7) o cf_X8 (sh70 j r) rfl (Nat.le_of_ble_eq_true rfl) fl_X8_27 (q_dm dm_X8_goThrough 7 rfl) ?_
  refine qr_iconst o (q_dm dm_X8_goThrough 8 rfl) ic_0 ?_
  refine qr_calls_v (As := [.inr (some 76), .inl (0 : Int32)]) (S := []) o (a_J7_fill_53178 g k.2.1 n j r hj hr (sh76 j r) (0 : Int32) m2) (Nat.le_of_ble_eq_true rfl) zs_J7_fill_53178 rfl ml_X8_69 (Nat.le_of_ble_eq_true rfl) (q_dm dm_X8_goThrough 9 rfl) (fun _ m3 => ?_)
  refine qr_iconst o (q_dm dm_X8_goThrough 10 rfl) ic_0 ?_
  refine qs_istore_n (L' := [some (.inr (some 70)), some (.inl a1), some (.inl a2), some (.inl (0 : Int32)), none]) o (q_dm dm_X8_goThrough 11 rfl) (Nat.le_of_ble_eq_true rfl) rfl ?_
  exact qr_loc (q_leS (q_leS (q_leS (q_leS (q_leN q_le0))))) (w_X8_goThrough_21 n j r hj hr o n a1 a2 (0 : Int32) m3)

theorem a_X8_goThrough (g : qG) (l : Launch) (n : Nat) (j r : Nat) (hj : q_isLaw j) (hr : q_isLaw r) (a1 a2 : Int32) (M : qM) : qAM g l 4 zX8_goThrough (qL j r) [.inr (some 70), .inl a1, .inl a2] (qL j r, M) (f_X8_goThrough n j a1 a2 M) :=
  qAM.of zv_X8_goThrough.1 (by show 3 ≤ 5; decide) (fun k hk o => w_X8_goThrough n j r hj hr o a1 a2 M)
def tb_X8_read : List (Nat × Instr × Nat) := [(0, (.aload_n 0, 1)), (1, (.iload_n 2, 1)), (2, (.iconst 4, 1)), (3, (.invokestatic 38, 3)), (6, (.putfield 44, 3)), (9, (.aload_n 0, 1)), (10, (.iload_n 3, 1)), (11, (.bipush 10, 2)), (13, (.invokestatic 38, 3)), (16, (.putfield 48, 3)), (19, (.iconst 0, 1)), (20, (.istore 4, 2)), (22, (.iconst 0, 1)), (23, (.istore 5, 2)), (25, (.iload 5, 2)), (27, (.aload_n 0, 1)), (28, (.getfield 44, 3)), (31, (.if_icmp .ge 71, 3)), (34, (.aload_n 0, 1)), (35, (.getfield 9, 3)), (38, (.iload 5, 2)), (40, (.aload_n 1, 1)), (41, (.iload 5, 2)), (43, (.invokevirtual 51, 3)), (46, (.iastore, 1)), (47, (.aload_n 0, 1)), (48, (.getfield 30, 3)), (51, (.aload_n 0, 1)), (52, (.getfield 9, 3)), (55, (.iload 5, 2)), (57, (.iaload, 1)), (58, (.invokevirtual 57, 3)), (61, (.ifCond .eq 19, 3)), (64, (.iload 4, 2)), (66, (.aload_n 0, 1)), (67, (.getfield 9, 3)), (70, (.iload 5, 2)), (72, (.iaload, 1)), (73, (.ishr, 1)), (74, (.iconst 1, 1)), (75, (.iand, 1)), (76, (.iconst 1, 1)), (77, (.if_icmp .ne 5, 3)), (80, (.iconst 0, 1)), (81, (.ireturn, 1)), (82, (.iload 4, 2)), (84, (.iconst 1, 1)), (85, (.aload_n 0, 1)), (86, (.getfield 9, 3)), (89, (.iload 5, 2)), (91, (.iaload, 1)), (92, (.ishl, 1)), (93, (.ior, 1)), (94, (.istore 4, 2)), (96, (.iinc 5 1, 3)), (99, (.goto (-74), 3)), (102, (.iconst 0, 1)), (103, (.istore 5, 2)), (105, (.iload 5, 2)), (107, (.aload_n 0, 1)), (108, (.getfield 48, 3)), (111, (.if_icmp .ge 98, 3)), (114, (.aload_n 0, 1)), (115, (.getfield 18, 3)), (118, (.iload 5, 2)), (120, (.aload_n 1, 1)), (121, (.aload_n 0, 1)), (122, (.getfield 44, 3)), (125, (.iconst 2, 1)), (126, (.iload 5, 2)), (128, (.imul, 1)), (129, (.iadd, 1)), (130, (.invokevirtual 51, 3)), (133, (.iastore, 1)), (134, (.aload_n 0, 1)), (135, (.getfield 21, 3)), (138, (.iload 5, 2)), (140, (.aload_n 1, 1)), (141, (.aload_n 0, 1)), (142, (.getfield 44, 3)), (145, (.iconst 2, 1)), (146, (.iload 5, 2)), (148, (.imul, 1)), (149, (.iadd, 1)), (150, (.iconst 1, 1)), (151, (.iadd, 1)), (152, (.invokevirtual 51, 3)), (155, (.iastore, 1)), (156, (.aload_n 0, 1)), (157, (.getfield 18, 3)), (160, (.iload 5, 2)), (162, (.iaload, 1)), (163, (.ifCond .lt 38, 3)), (166, (.aload_n 0, 1)), (167, (.getfield 18, 3)), (170, (.iload 5, 2)), (172, (.iaload, 1)), (173, (.aload_n 0, 1)), (174, (.getfield 44, 3)), (177, (.if_icmp .ge 24, 3)), (180, (.aload_n 0, 1)), (181, (.getfield 21, 3)), (184, (.iload 5, 2)), (186, (.iaload, 1)), (187, (.ifCond .lt 14, 3)), (190, (.aload_n 0, 1)), (191, (.getfield 21, 3)), (194, (.iload 5, 2)), (196, (.iaload, 1)), (197, (.iconst 1, 1)), (198, (.if_icmp .le 5, 3)), (201, (.iconst 0, 1)), (202, (.ireturn, 1)), (203, (.iinc 5 1, 3)), (206, (.goto (-101), 3)), (209, (.iconst 1, 1)), (210, (.ireturn, 1))]
theorem dm_X8_read : ∀ q ∈ tb_X8_read, decode zX8_read.2.1 q.1 = .ok q.2 := by decide +kernel
def b_X8_read_105 (n : Nat) (K105 : Int32 → qM → qR) (a5 : Int32) (M : qM) : qR :=
  (if (M 70 9) ≤ a5 then some ((1 : Int32), M) else qc (f_X9_at n ((M 70 8) + ((2 : Int32) * a5)) M) (fun r1 m2 => qg a5 10 (qlm (mu m2 73 a5.toNatClampNeg r1) (fun m3 => qc (f_X9_at n (((m3 70 8) + ((2 : Int32) * a5)) + (1 : Int32)) m3) (fun r4 m5 => qg a5 10 (qlm (mu m5 74 a5.toNatClampNeg r4) (fun m6 => qg a5 10 ((if (m6 73 a5.toNatClampNeg) < (0 : Int32) then some ((0 : Int32), m6) else qg a5 10 ((if (m6 70 8) ≤ (m6 73 a5.toNatClampNeg) then some ((0 : Int32), m6) else qg a5 10 ((if (m6 74 a5.toNatClampNeg) < (0 : Int32) then some ((0 : Int32), m6) else qg a5 10 ((if (m6 74 a5.toNatClampNeg) ≤ (1 : Int32) then ql (a5 + (1 : Int32)) (fun x7 => K105 x7 m6) else some ((0 : Int32), m6))))))))))))))))
set_option maxRecDepth 4000 in
theorem wb_X8_read_105 {g : qG} {k : qK} (n : Nat) (j r : Nat) (hj : q_isLaw j) (hr : q_isLaw r) (o : qOk g 1 zX8_read k) (K105 : Int32 → qM → qR) (hK105 : ∀ (a5 : Int32) (M : qM), qAE g k zX8_read (qL j r) 105 [some (.inr (some 70)), some (.inr (some 1)), none, none, none, some (.inl a5)] [] (qL j r, M) (K105 a5 M)) (a5 : Int32) (M : qM) : qAE g k zX8_read (qL j r) 105 [some (.inr (some 70)), some (.inr (some 1)), none, none, none, some (.inl a5)] [] (qL j r, M) (b_X8_read_105 n K105 a5 M) := by
  unfold b_X8_read_105
  refine qr_iload o (q_dm dm_X8_read 58 rfl) rfl ?_
  refine qr_aload_n o (q_dm dm_X8_read 59 rfl) rfl ?_
  refine qr_getf (kf := 9) o cf_X8 (sh70 j r) rfl (Nat.le_of_ble_eq_true rfl) fl_X8_48 (q_dm dm_X8_read 60 rfl) ?_
  refine qr_icmp_ge (tgt := 209) o (q_dm dm_X8_read 61 rfl) (by decide) ?_ ?_
  · refine qr_iconst o (q_dm dm_X8_read 115 rfl) ic_1 ?_
    exact qr_iret o rfl (by decide) (q_dm dm_X8_read 116 rfl)
  · refine qr_aload_n o (q_dm dm_X8_read 62 rfl) rfl ?_
    refine qr_getr (kf := 4) o cf_X8 (sh70 j r) rfl (Nat.le_of_ble_eq_true rfl) fl_X8_18 (q_dm dm_X8_read 63 rfl) ?_
    refine qr_iload o (q_dm dm_X8_read 64 rfl) rfl ?_
    refine qr_aload_n o (q_dm dm_X8_read 65 rfl) rfl ?_
    refine qr_aload_n o (q_dm dm_X8_read 66 rfl) rfl ?_
    refine qr_getf (kf := 8) o cf_X8 (sh70 j r) rfl (Nat.le_of_ble_eq_true rfl) fl_X8_44 (q_dm dm_X8_read 67 rfl) ?_
    refine qr_iconst o (q_dm dm_X8_read 68 rfl) ic_2 ?_
    refine qr_iload o (q_dm dm_X8_read 69 rfl) rfl ?_
    refine qr_imul o (q_dm dm_X8_read 70 rfl) ?_
    refine qr_iadd o (q_dm dm_X8_read 71 rfl) ?_
    refine qr_callv_i (As := [.inl ((M 70 8) + ((2 : Int32) * a5))]) (S := [.inl a5, .inr (some 73)]) o (a_X9_at g k.2.1 n j r hj hr ((M 70 8) + ((2 : Int32) * a5)) M) (Nat.le_of_ble_eq_true rfl) zv_X9_at rfl cf_X9 (sh1 j r) ml_X8_51 (Nat.le_of_ble_eq_true rfl) (q_dm dm_X8_read 72 rfl) (fun r1 m2 => ?_)
    refine qr_iast o (sh73 j r) (q_dm dm_X8_read 73 rfl) ?_
    refine qr_letm (fun m3 => ?_)
    refine qr_aload_n o (q_dm dm_X8_read 74 rfl) rfl ?_
    refine qr_getr (kf := 5) o cf_X8 (sh70 j r) rfl (Nat.le_of_ble_eq_true rfl) fl_X8_21 (q_dm dm_X8_read 75 rfl) ?_
    refine qr_iload o (q_dm dm_X8_read 76 rfl) rfl ?_
    refine qr_aload_n o (q_dm dm_X8_read 77 rfl) rfl ?_
    refine qr_aload_n o (q_dm dm_X8_read 78 rfl) rfl ?_
    refine qr_getf (kf := 8) o cf_X8 (sh70 j r) rfl (Nat.le_of_ble_eq_true rfl) fl_X8_44 (q_dm dm_X8_read 79 rfl) ?_
    refine qr_iconst o (q_dm dm_X8_read 80 rfl) ic_2 ?_
    refine qr_iload o (q_dm dm_X8_read 81 rfl) rfl ?_
    refine qr_imul o (q_dm dm_X8_read 82 rfl) ?_
    refine qr_iadd o (q_dm dm_X8_read 83 rfl) ?_
    refine qr_iconst o (q_dm dm_X8_read 84 rfl) ic_1 ?_
    refine qr_iadd o (q_dm dm_X8_read 85 rfl) ?_
    refine qr_callv_i (As := [.inl (((m3 70 8) + ((2 : Int32) * a5)) + (1 : Int32))]) (S := [.inl a5, .inr (some 74)]) o (a_X9_at g k.2.1 n j r hj hr (((m3 70 8) + ((2 : Int32) * a5)) + (1 : Int32)) m3) (Nat.le_of_ble_eq_true rfl) zv_X9_at rfl cf_X9 (sh1 j r) ml_X8_51 (Nat.le_of_ble_eq_true rfl) (q_dm dm_X8_read 86 rfl) (fun r4 m5 => ?_)
    refine qr_iast o (sh74 j r) (q_dm dm_X8_read 87 rfl) ?_
    refine qr_letm (fun m6 => ?_)
    refine qr_aload_n o (q_dm dm_X8_read 88 rfl) rfl ?_
    refine qr_getr (kf := 4) o cf_X8 (sh70 j r) rfl (Nat.le_of_ble_eq_true rfl) fl_X8_18 (q_dm dm_X8_read 89 rfl) ?_
    refine qr_iload o (q_dm dm_X8_read 90 rfl) rfl ?_
    refine qr_iald o (sh73 j r) (q_dm dm_X8_read 91 rfl) ?_
    refine qr_if_lt (tgt := 201) o (q_dm dm_X8_read 92 rfl) (by decide) ?_ ?_
    · refine qr_iconst o (q_dm dm_X8_read 111 rfl) ic_0 ?_
      exact qr_iret o rfl (by decide) (q_dm dm_X8_read 112 rfl)
    · refine qr_aload_n o (q_dm dm_X8_read 93 rfl) rfl ?_
      refine qr_getr (kf := 4) o cf_X8 (sh70 j r) rfl (Nat.le_of_ble_eq_true rfl) fl_X8_18 (q_dm dm_X8_read 94 rfl) ?_
      refine qr_iload o (q_dm dm_X8_read 95 rfl) rfl ?_
      refine qr_iald o (sh73 j r) (q_dm dm_X8_read 96 rfl) ?_
      refine qr_aload_n o (q_dm dm_X8_read 97 rfl) rfl ?_
      refine qr_getf (kf := 8) o cf_X8 (sh70 j r) rfl (Nat.le_of_ble_eq_true rfl) fl_X8_44 (q_dm dm_X8_read 98 rfl) ?_
      refine qr_icmp_ge (tgt := 201) o (q_dm dm_X8_read 99 rfl) (by decide) ?_ ?_
      · refine qr_iconst o (q_dm dm_X8_read 111 rfl) ic_0 ?_
        exact qr_iret o rfl (by decide) (q_dm dm_X8_read 112 rfl)
      · refine qr_aload_n o (q_dm dm_X8_read 100 rfl) rfl ?_
        refine qr_getr (kf := 5) o cf_X8 (sh70 j r) rfl (Nat.le_of_ble_eq_true rfl) fl_X8_21 (q_dm dm_X8_read 101 rfl) ?_
        refine qr_iload o (q_dm dm_X8_read 102 rfl) rfl ?_
        refine qr_iald o (sh74 j r) (q_dm dm_X8_read 103 rfl) ?_
        refine qr_if_lt (tgt := 201) o (q_dm dm_X8_read 104 rfl) (by decide) ?_ ?_
        · refine qr_iconst o (q_dm dm_X8_read 111 rfl) ic_0 ?_
          exact qr_iret o rfl (by decide) (q_dm dm_X8_read 112 rfl)
        · refine qr_aload_n o (q_dm dm_X8_read 105 rfl) rfl ?_
          refine qr_getr (kf := 5) o cf_X8 (sh70 j r) rfl (Nat.le_of_ble_eq_true rfl) fl_X8_21 (q_dm dm_X8_read 106 rfl) ?_
          refine qr_iload o (q_dm dm_X8_read 107 rfl) rfl ?_
          refine qr_iald o (sh74 j r) (q_dm dm_X8_read 108 rfl) ?_
          refine qr_iconst o (q_dm dm_X8_read 109 rfl) ic_1 ?_
          refine qr_icmp_le (tgt := 203) o (q_dm dm_X8_read 110 rfl) (by decide) ?_ ?_
          · refine qs_iincl2 (L' := fun x7 => [some (.inr (some 70)), some (.inr (some 1)), none, none, none, some (.inl x7)]) o (q_dm dm_X8_read 113 rfl) rfl ic_1 (Nat.le_of_ble_eq_true rfl) (fun _ => rfl) (fun x7 => ?_)
            refine qr_goto (tgt := 105) o (q_dm dm_X8_read 114 rfl) (by decide) ?_
            exact qr_loc (q_leS (q_leS (q_leN (q_leN (q_leN (q_leS q_le0)))))) (hK105 x7 m6)
          · refine qr_iconst o (q_dm dm_X8_read 111 rfl) ic_0 ?_
            exact qr_iret o rfl (by decide) (q_dm dm_X8_read 112 rfl)

def f_X8_read_105 (n : Nat) : Nat → Int32 → qM → qR
  | 0, _, _ => none
  | m + 1, a5, M => b_X8_read_105 n (f_X8_read_105 n m) a5 M
theorem w_X8_read_105 {g : qG} {k : qK} (n : Nat) (j r : Nat) (hj : q_isLaw j) (hr : q_isLaw r) (o : qOk g 1 zX8_read k) : ∀ (m : Nat) (a5 : Int32) (M : qM), qAE g k zX8_read (qL j r) 105 [some (.inr (some 70)), some (.inr (some 1)), none, none, none, some (.inl a5)] [] (qL j r, M) (f_X8_read_105 n m a5 M) := by
  intro m
  induction m with
  | zero =>
    intro a5 M
    exact qr_none
  | succ m ih =>
    intro a5 M
    exact wb_X8_read_105 n j r hj hr o (f_X8_read_105 n m) ih a5 M
def b_X8_read_25 (n : Nat) (K25 : Int32 → Int32 → qM → qR) (a4 a5 : Int32) (M : qM) : qR :=
  (if (M 70 8) ≤ a5 then f_X8_read_105 n n (0 : Int32) M else qc (f_X9_at n a5 M) (fun r1 m2 => qg a5 4 (qlm (mu m2 71 a5.toNatClampNeg r1) (fun m3 => qg a5 4 (qc (f_X2_knows n (m3 71 a5.toNatClampNeg) m3) (fun r4 m5 => (if r4 = (0 : Int32) then some ((0 : Int32), m5) else qg a5 4 ((if ((a4 >>> ((m5 71 a5.toNatClampNeg) &&& 31)) &&& (1 : Int32)) = (1 : Int32) then some ((0 : Int32), m5) else qg a5 4 (ql (a4 ||| ((1 : Int32) <<< ((m5 71 a5.toNatClampNeg) &&& 31))) (fun x6 => ql (a5 + (1 : Int32)) (fun x7 => K25 x6 x7 m5))))))))))))
set_option maxRecDepth 4000 in
theorem wb_X8_read_25 {g : qG} {k : qK} (n : Nat) (j r : Nat) (hj : q_isLaw j) (hr : q_isLaw r) (o : qOk g 1 zX8_read k) (K25 : Int32 → Int32 → qM → qR) (hK25 : ∀ (a4 a5 : Int32) (M : qM), qAE g k zX8_read (qL j r) 25 [some (.inr (some 70)), some (.inr (some 1)), none, none, some (.inl a4), some (.inl a5)] [] (qL j r, M) (K25 a4 a5 M)) (a4 a5 : Int32) (M : qM) : qAE g k zX8_read (qL j r) 25 [some (.inr (some 70)), some (.inr (some 1)), none, none, some (.inl a4), some (.inl a5)] [] (qL j r, M) (b_X8_read_25 n K25 a4 a5 M) := by
  unfold b_X8_read_25
  refine qr_iload o (q_dm dm_X8_read 14 rfl) rfl ?_
  refine qr_aload_n o (q_dm dm_X8_read 15 rfl) rfl ?_
  refine qr_getf (kf := 8) o cf_X8 (sh70 j r) rfl (Nat.le_of_ble_eq_true rfl) fl_X8_44 (q_dm dm_X8_read 16 rfl) ?_
  refine qr_icmp_ge (tgt := 102) o (q_dm dm_X8_read 17 rfl) (by decide) ?_ ?_
  · refine qr_iconst o (q_dm dm_X8_read 56 rfl) ic_0 ?_
    refine qs_istore (L' := [some (.inr (some 70)), some (.inr (some 1)), none, none, some (.inl a4), some (.inl (0 : Int32))]) o (q_dm dm_X8_read 57 rfl) (Nat.le_of_ble_eq_true rfl) rfl ?_
    exact qr_loc (q_leS (q_leS (q_leN (q_leN (q_leN (q_leS q_le0)))))) (w_X8_read_105 n j r hj hr o n (0 : Int32) M)
  · refine qr_aload_n o (q_dm dm_X8_read 18 rfl) rfl ?_
    refine qr_getr (kf := 2) o cf_X8 (sh70 j r) rfl (Nat.le_of_ble_eq_true rfl) fl_X8_9 (q_dm dm_X8_read 19 rfl) ?_
    refine qr_iload o (q_dm dm_X8_read 20 rfl) rfl ?_
    refine qr_aload_n o (q_dm dm_X8_read 21 rfl) rfl ?_
    refine qr_iload o (q_dm dm_X8_read 22 rfl) rfl ?_
    refine qr_callv_i (As := [.inl a5]) (S := [.inl a5, .inr (some 71)]) o (a_X9_at g k.2.1 n j r hj hr a5 M) (Nat.le_of_ble_eq_true rfl) zv_X9_at rfl cf_X9 (sh1 j r) ml_X8_51 (Nat.le_of_ble_eq_true rfl) (q_dm dm_X8_read 23 rfl) (fun r1 m2 => ?_)
    refine qr_iast o (sh71 j r) (q_dm dm_X8_read 24 rfl) ?_
    refine qr_letm (fun m3 => ?_)
    refine qr_aload_n o (q_dm dm_X8_read 25 rfl) rfl ?_
    refine qr_getr (kf := 0) o cf_X8 (sh70 j r) rfl (Nat.le_of_ble_eq_true rfl) fl_X8_30 (q_dm dm_X8_read 26 rfl) ?_
    refine qr_aload_n o (q_dm dm_X8_read 27 rfl) rfl ?_
    refine qr_getr (kf := 2) o cf_X8 (sh70 j r) rfl (Nat.le_of_ble_eq_true rfl) fl_X8_9 (q_dm dm_X8_read 28 rfl) ?_
    refine qr_iload o (q_dm dm_X8_read 29 rfl) rfl ?_
    refine qr_iald o (sh71 j r) (q_dm dm_X8_read 30 rfl) ?_
    refine qr_callv_i (As := [.inl (m3 71 a5.toNatClampNeg)]) (S := []) o (a_X2_knows g k.2.1 n j r hj hr (m3 71 a5.toNatClampNeg) m3) (Nat.le_of_ble_eq_true rfl) zv_X2_knows rfl cf_X2 (sh3 j r) ml_X8_57 (Nat.le_of_ble_eq_true rfl) (q_dm dm_X8_read 31 rfl) (fun r4 m5 => ?_)
    refine qr_if_eq (tgt := 80) o (q_dm dm_X8_read 32 rfl) (by decide) ?_ ?_
    · refine qr_iconst o (q_dm dm_X8_read 43 rfl) ic_0 ?_
      exact qr_iret o rfl (by decide) (q_dm dm_X8_read 44 rfl)
    · refine qr_iload o (q_dm dm_X8_read 33 rfl) rfl ?_
      refine qr_aload_n o (q_dm dm_X8_read 34 rfl) rfl ?_
      refine qr_getr (kf := 2) o cf_X8 (sh70 j r) rfl (Nat.le_of_ble_eq_true rfl) fl_X8_9 (q_dm dm_X8_read 35 rfl) ?_
      refine qr_iload o (q_dm dm_X8_read 36 rfl) rfl ?_
      refine qr_iald o (sh71 j r) (q_dm dm_X8_read 37 rfl) ?_
      refine qr_ishr o (q_dm dm_X8_read 38 rfl) ?_
      refine qr_iconst o (q_dm dm_X8_read 39 rfl) ic_1 ?_
      refine qr_iand o (q_dm dm_X8_read 40 rfl) ?_
      refine qr_iconst o (q_dm dm_X8_read 41 rfl) ic_1 ?_
      refine qr_icmp_ne (tgt := 82) o (q_dm dm_X8_read 42 rfl) (by decide) ?_ ?_
      · refine qr_iload o (q_dm dm_X8_read 45 rfl) rfl ?_
        refine qr_iconst o (q_dm dm_X8_read 46 rfl) ic_1 ?_
        refine qr_aload_n o (q_dm dm_X8_read 47 rfl) rfl ?_
        refine qr_getr (kf := 2) o cf_X8 (sh70 j r) rfl (Nat.le_of_ble_eq_true rfl) fl_X8_9 (q_dm dm_X8_read 48 rfl) ?_
        refine qr_iload o (q_dm dm_X8_read 49 rfl) rfl ?_
        refine qr_iald o (sh71 j r) (q_dm dm_X8_read 50 rfl) ?_
        refine qr_ishl o (q_dm dm_X8_read 51 rfl) ?_
        refine qr_ior o (q_dm dm_X8_read 52 rfl) ?_
        refine qr_lt (fun x6 => ?_)
        refine qs_istore (L' := [some (.inr (some 70)), some (.inr (some 1)), none, none, some (.inl x6), some (.inl a5)]) o (q_dm dm_X8_read 53 rfl) (Nat.le_of_ble_eq_true rfl) rfl ?_
        refine qs_iincl2 (L' := fun x7 => [some (.inr (some 70)), some (.inr (some 1)), none, none, some (.inl x6), some (.inl x7)]) o (q_dm dm_X8_read 54 rfl) rfl ic_1 (Nat.le_of_ble_eq_true rfl) (fun _ => rfl) (fun x7 => ?_)
        refine qr_goto (tgt := 25) o (q_dm dm_X8_read 55 rfl) (by decide) ?_
        exact qr_loc (q_leS (q_leS (q_leN (q_leN (q_leS (q_leS q_le0)))))) (hK25 x6 x7 m5)
      · refine qr_iconst o (q_dm dm_X8_read 43 rfl) ic_0 ?_
        exact qr_iret o rfl (by decide) (q_dm dm_X8_read 44 rfl)

def f_X8_read_25 (n : Nat) : Nat → Int32 → Int32 → qM → qR
  | 0, _, _, _ => none
  | m + 1, a4, a5, M => b_X8_read_25 n (f_X8_read_25 n m) a4 a5 M
theorem w_X8_read_25 {g : qG} {k : qK} (n : Nat) (j r : Nat) (hj : q_isLaw j) (hr : q_isLaw r) (o : qOk g 1 zX8_read k) : ∀ (m : Nat) (a4 a5 : Int32) (M : qM), qAE g k zX8_read (qL j r) 25 [some (.inr (some 70)), some (.inr (some 1)), none, none, some (.inl a4), some (.inl a5)] [] (qL j r, M) (f_X8_read_25 n m a4 a5 M) := by
  intro m
  induction m with
  | zero =>
    intro a4 a5 M
    exact qr_none
  | succ m ih =>
    intro a4 a5 M
    exact wb_X8_read_25 n j r hj hr o (f_X8_read_25 n m) ih a4 a5 M
def f_X8_read (n : Nat) (a2 a3 : Int32) (M : qM) : qR :=
  qlm (mu M 70 8 (qmin a2 (4 : Int32))) (fun m1 => qlm (mu m1 70 9 (qmin a3 (10 : Int32))) (fun m2 => f_X8_read_25 n n (0 : Int32) (0 : Int32) m2))
set_option maxRecDepth 4000 in
theorem w_X8_read {g : qG} {k : qK} (n : Nat) (j r : Nat) (hj : q_isLaw j) (hr : q_isLaw r) (o : qOk g 1 zX8_read k) (a2 a3 : Int32) (M : qM) : qAE g k zX8_read (qL j r) 0 [some (.inr (some 70)), some (.inr (some 1)), some (.inl a2), some (.inl a3), none, none] [] (qL j r, M) (f_X8_read n a2 a3 M) := by
  unfold f_X8_read
  refine qr_aload_n o (q_dm dm_X8_read 0 rfl) rfl ?_
  refine qr_iload_n o (q_dm dm_X8_read 1 rfl) rfl ?_
  refine qr_iconst o (q_dm dm_X8_read 2 rfl) ic_4 ?_
  refine qr_min o ml_X8_38 (by omega) (Nat.le_of_ble_eq_true rfl) (q_dm dm_X8_read 3 rfl) ?_
  refine qr_putf (kf := 8) o cf_X8 (sh70 j r) rfl (Nat.le_of_ble_eq_true rfl) fl_X8_44 rfl (by decide +kernel) (q_dm dm_X8_read 4 rfl) ?_
  refine qr_letm (fun m1 => ?_)
  refine qr_aload_n o (q_dm dm_X8_read 5 rfl) rfl ?_
  refine qr_iload_n o (q_dm dm_X8_read 6 rfl) rfl ?_
  refine qr_bipush o (q_dm dm_X8_read 7 rfl) bi_10 ?_
  refine qr_min o ml_X8_38 (by omega) (Nat.le_of_ble_eq_true rfl) (q_dm dm_X8_read 8 rfl) ?_
  refine qr_putf (kf := 9) o cf_X8 (sh70 j r) rfl (Nat.le_of_ble_eq_true rfl) fl_X8_48 rfl (by decide +kernel) (q_dm dm_X8_read 9 rfl) ?_
  refine qr_letm (fun m2 => ?_)
  refine qr_iconst o (q_dm dm_X8_read 10 rfl) ic_0 ?_
  refine qs_istore (L' := [some (.inr (some 70)), some (.inr (some 1)), some (.inl a2), some (.inl a3), some (.inl (0 : Int32)), none]) o (q_dm dm_X8_read 11 rfl) (Nat.le_of_ble_eq_true rfl) rfl ?_
  refine qr_iconst o (q_dm dm_X8_read 12 rfl) ic_0 ?_
  refine qs_istore (L' := [some (.inr (some 70)), some (.inr (some 1)), some (.inl a2), some (.inl a3), some (.inl (0 : Int32)), some (.inl (0 : Int32))]) o (q_dm dm_X8_read 13 rfl) (Nat.le_of_ble_eq_true rfl) rfl ?_
  exact qr_loc (q_leS (q_leS (q_leN (q_leN (q_leS (q_leS q_le0)))))) (w_X8_read_25 n j r hj hr o n (0 : Int32) (0 : Int32) m2)

theorem a_X8_read (g : qG) (l : Launch) (n : Nat) (j r : Nat) (hj : q_isLaw j) (hr : q_isLaw r) (a2 a3 : Int32) (M : qM) : qAM g l 1 zX8_read (qL j r) [.inr (some 70), .inr (some 1), .inl a2, .inl a3] (qL j r, M) (f_X8_read n a2 a3 M) :=
  qAM.of zv_X8_read.1 (by show 4 ≤ 6; decide) (fun k hk o => w_X8_read n j r hj hr o a2 a3 M)
def tb_X8_greaterPart : List (Nat × Instr × Nat) := [(0, (.aload_n 0, 1)), (1, (.getfield 27, 3)), (4, (.iload_n 1, 1)), (5, (.iaload, 1)), (6, (.aload_n 0, 1)), (7, (.getfield 63, 3)), (10, (.aload_n 0, 1)), (11, (.getfield 27, 3)), (14, (.iload_n 1, 1)), (15, (.iaload, 1)), (16, (.isub, 1)), (17, (.invokestatic 89, 3)), (20, (.ireturn, 1))]
theorem dm_X8_greaterPart : ∀ q ∈ tb_X8_greaterPart, decode zX8_greaterPart.2.1 q.1 = .ok q.2 := by decide +kernel
def f_X8_greaterPart (n : Nat) (a1 : Int32) (M : qM) : qR :=
  qg a1 4 (qg a1 4 (some ((qmax (M 76 a1.toNatClampNeg) ((M 70 10) - (M 76 a1.toNatClampNeg))), M)))
set_option maxRecDepth 4000 in
theorem w_X8_greaterPart {g : qG} {k : qK} (n : Nat) (j r : Nat) (hj : q_isLaw j) (hr : q_isLaw r) (o : qOk g 1 zX8_greaterPart k) (a1 : Int32) (M : qM) : qAE g k zX8_greaterPart (qL j r) 0 [some (.inr (some 70)), some (.inl a1)] [] (qL j r, M) (f_X8_greaterPart n a1 M) := by
  unfold f_X8_greaterPart
  refine qr_aload_n o (q_dm dm_X8_greaterPart 0 rfl) rfl ?_
  refine qr_getr (kf := 7) o cf_X8 (sh70 j r) rfl (Nat.le_of_ble_eq_true rfl) fl_X8_27 (q_dm dm_X8_greaterPart 1 rfl) ?_
  refine qr_iload_n o (q_dm dm_X8_greaterPart 2 rfl) rfl ?_
  refine qr_iald o (sh76 j r) (q_dm dm_X8_greaterPart 3 rfl) ?_
  refine qr_aload_n o (q_dm dm_X8_greaterPart 4 rfl) rfl ?_
  refine qr_getf (kf := 10) o cf_X8 (sh70 j r) rfl (Nat.le_of_ble_eq_true rfl) fl_X8_63 (q_dm dm_X8_greaterPart 5 rfl) ?_
  refine qr_aload_n o (q_dm dm_X8_greaterPart 6 rfl) rfl ?_
  refine qr_getr (kf := 7) o cf_X8 (sh70 j r) rfl (Nat.le_of_ble_eq_true rfl) fl_X8_27 (q_dm dm_X8_greaterPart 7 rfl) ?_
  refine qr_iload_n o (q_dm dm_X8_greaterPart 8 rfl) rfl ?_
  refine qr_iald o (sh76 j r) (q_dm dm_X8_greaterPart 9 rfl) ?_
  refine qr_isub o (q_dm dm_X8_greaterPart 10 rfl) ?_
  refine qr_max o ml_X8_89 (by omega) (Nat.le_of_ble_eq_true rfl) (q_dm dm_X8_greaterPart 11 rfl) ?_
  exact qr_iret o rfl rfl (q_dm dm_X8_greaterPart 12 rfl)

theorem a_X8_greaterPart (g : qG) (l : Launch) (n : Nat) (j r : Nat) (hj : q_isLaw j) (hr : q_isLaw r) (a1 : Int32) (M : qM) : qAM g l 1 zX8_greaterPart (qL j r) [.inr (some 70), .inl a1] (qL j r, M) (f_X8_greaterPart n a1 M) :=
  qAM.of zv_X8_greaterPart.1 (by show 2 ≤ 2; decide) (fun k hk o => w_X8_greaterPart n j r hj hr o a1 M)
def tb_X8_tellingPlace : List (Nat × Instr × Nat) := [(0, (.iconst 0, 1)), (1, (.istore_n 1, 1)), (2, (.iconst 1, 1)), (3, (.istore_n 2, 1)), (4, (.iload_n 2, 1)), (5, (.aload_n 0, 1)), (6, (.getfield 44, 3)), (9, (.if_icmp .ge 28, 3)), (12, (.aload_n 0, 1)), (13, (.iload_n 2, 1)), (14, (.invokevirtual 86, 3)), (17, (.aload_n 0, 1)), (18, (.iload_n 1, 1)), (19, (.invokevirtual 86, 3)), (22, (.if_icmp .ge 7, 3)), (25, (.iload_n 2, 1)), (26, (.goto 4, 3)), (29, (.iload_n 1, 1)), (30, (.istore_n 1, 1)), (31, (.iinc 2 1, 3)), (34, (.goto (-30), 3)), (37, (.iload_n 1, 1)), (38, (.ireturn, 1))]
theorem dm_X8_tellingPlace : ∀ q ∈ tb_X8_tellingPlace, decode zX8_tellingPlace.2.1 q.1 = .ok q.2 := by decide +kernel
def b_X8_tellingPlace_4 (n : Nat) (K4 : Int32 → Int32 → qM → qR) (a1 a2 : Int32) (M : qM) : qR :=
  (if (M 70 8) ≤ a2 then some (a1, M) else qc (f_X8_greaterPart n a2 M) (fun r1 m2 => qc (f_X8_greaterPart n a1 m2) (fun r3 m4 => (if r3 ≤ r1 then ql (a2 + (1 : Int32)) (fun x5 => K4 a1 x5 m4) else ql (a2 + (1 : Int32)) (fun x6 => K4 a2 x6 m4)))))
set_option maxRecDepth 4000 in
theorem wb_X8_tellingPlace_4 {g : qG} {k : qK} (n : Nat) (j r : Nat) (hj : q_isLaw j) (hr : q_isLaw r) (o : qOk g 2 zX8_tellingPlace k) (K4 : Int32 → Int32 → qM → qR) (hK4 : ∀ (a1 a2 : Int32) (M : qM), qAE g k zX8_tellingPlace (qL j r) 4 [some (.inr (some 70)), some (.inl a1), some (.inl a2)] [] (qL j r, M) (K4 a1 a2 M)) (a1 a2 : Int32) (M : qM) : qAE g k zX8_tellingPlace (qL j r) 4 [some (.inr (some 70)), some (.inl a1), some (.inl a2)] [] (qL j r, M) (b_X8_tellingPlace_4 n K4 a1 a2 M) := by
  unfold b_X8_tellingPlace_4
  refine qr_iload_n o (q_dm dm_X8_tellingPlace 4 rfl) rfl ?_
  refine qr_aload_n o (q_dm dm_X8_tellingPlace 5 rfl) rfl ?_
  refine qr_getf (kf := 8) o cf_X8 (sh70 j r) rfl (Nat.le_of_ble_eq_true rfl) fl_X8_44 (q_dm dm_X8_tellingPlace 6 rfl) ?_
  refine qr_icmp_ge (tgt := 37) o (q_dm dm_X8_tellingPlace 7 rfl) (by decide) ?_ ?_
  · refine qr_iload_n o (q_dm dm_X8_tellingPlace 21 rfl) rfl ?_
    exact qr_iret o rfl rfl (q_dm dm_X8_tellingPlace 22 rfl)
  · refine qr_aload_n o (q_dm dm_X8_tellingPlace 8 rfl) rfl ?_
    refine qr_iload_n o (q_dm dm_X8_tellingPlace 9 rfl) rfl ?_
    refine qr_callv_i (As := [.inl a2]) (S := []) o (a_X8_greaterPart g k.2.1 n j r hj hr a2 M) (Nat.le_of_ble_eq_true rfl) zv_X8_greaterPart rfl cf_X8 (sh70 j r) ml_X8_86 (Nat.le_of_ble_eq_true rfl) (q_dm dm_X8_tellingPlace 10 rfl) (fun r1 m2 => ?_)
    refine qr_aload_n o (q_dm dm_X8_tellingPlace 11 rfl) rfl ?_
    refine qr_iload_n o (q_dm dm_X8_tellingPlace 12 rfl) rfl ?_
    refine qr_callv_i (As := [.inl a1]) (S := [.inl r1]) o (a_X8_greaterPart g k.2.1 n j r hj hr a1 m2) (Nat.le_of_ble_eq_true rfl) zv_X8_greaterPart rfl cf_X8 (sh70 j r) ml_X8_86 (Nat.le_of_ble_eq_true rfl) (q_dm dm_X8_tellingPlace 13 rfl) (fun r3 m4 => ?_)
    refine qr_icmp_ge (tgt := 29) o (q_dm dm_X8_tellingPlace 14 rfl) (by decide) ?_ ?_
    · refine qr_iload_n o (q_dm dm_X8_tellingPlace 17 rfl) rfl ?_
      refine qs_istore_n (L' := [some (.inr (some 70)), some (.inl a1), some (.inl a2)]) o (q_dm dm_X8_tellingPlace 18 rfl) (Nat.le_of_ble_eq_true rfl) rfl ?_
      refine qs_iincl2 (L' := fun x5 => [some (.inr (some 70)), some (.inl a1), some (.inl x5)]) o (q_dm dm_X8_tellingPlace 19 rfl) rfl ic_1 (Nat.le_of_ble_eq_true rfl) (fun _ => rfl) (fun x5 => ?_)
      refine qr_goto (tgt := 4) o (q_dm dm_X8_tellingPlace 20 rfl) (by decide) ?_
      exact qr_loc (q_leS (q_leS (q_leS q_le0))) (hK4 a1 x5 m4)
    · refine qr_iload_n o (q_dm dm_X8_tellingPlace 15 rfl) rfl ?_
      refine qr_goto (tgt := 30) o (q_dm dm_X8_tellingPlace 16 rfl) (by decide) ?_
      refine qs_istore_n (L' := [some (.inr (some 70)), some (.inl a2), some (.inl a2)]) o (q_dm dm_X8_tellingPlace 18 rfl) (Nat.le_of_ble_eq_true rfl) rfl ?_
      refine qs_iincl2 (L' := fun x6 => [some (.inr (some 70)), some (.inl a2), some (.inl x6)]) o (q_dm dm_X8_tellingPlace 19 rfl) rfl ic_1 (Nat.le_of_ble_eq_true rfl) (fun _ => rfl) (fun x6 => ?_)
      refine qr_goto (tgt := 4) o (q_dm dm_X8_tellingPlace 20 rfl) (by decide) ?_
      exact qr_loc (q_leS (q_leS (q_leS q_le0))) (hK4 a2 x6 m4)

def f_X8_tellingPlace_4 (n : Nat) : Nat → Int32 → Int32 → qM → qR
  | 0, _, _, _ => none
  | m + 1, a1, a2, M => b_X8_tellingPlace_4 n (f_X8_tellingPlace_4 n m) a1 a2 M
theorem w_X8_tellingPlace_4 {g : qG} {k : qK} (n : Nat) (j r : Nat) (hj : q_isLaw j) (hr : q_isLaw r) (o : qOk g 2 zX8_tellingPlace k) : ∀ (m : Nat) (a1 a2 : Int32) (M : qM), qAE g k zX8_tellingPlace (qL j r) 4 [some (.inr (some 70)), some (.inl a1), some (.inl a2)] [] (qL j r, M) (f_X8_tellingPlace_4 n m a1 a2 M) := by
  intro m
  induction m with
  | zero =>
    intro a1 a2 M
    exact qr_none
  | succ m ih =>
    intro a1 a2 M
    exact wb_X8_tellingPlace_4 n j r hj hr o (f_X8_tellingPlace_4 n m) ih a1 a2 M
def f_X8_tellingPlace (n : Nat) (M : qM) : qR :=
  f_X8_tellingPlace_4 n n (0 : Int32) (1 : Int32) M
set_option maxRecDepth 4000 in
theorem w_X8_tellingPlace {g : qG} {k : qK} (n : Nat) (j r : Nat) (hj : q_isLaw j) (hr : q_isLaw r) (o : qOk g 2 zX8_tellingPlace k) (M : qM) : qAE g k zX8_tellingPlace (qL j r) 0 [some (.inr (some 70)), none, none] [] (qL j r, M) (f_X8_tellingPlace n  M) := by
  unfold f_X8_tellingPlace
  refine qr_iconst o (q_dm dm_X8_tellingPlace 0 rfl) ic_0 ?_
  refine qs_istore_n (L' := [some (.inr (some 70)), some (.inl (0 : Int32)), none]) o (q_dm dm_X8_tellingPlace 1 rfl) (Nat.le_of_ble_eq_true rfl) rfl ?_
  refine qr_iconst o (q_dm dm_X8_tellingPlace 2 rfl) ic_1 ?_
  refine qs_istore_n (L' := [some (.inr (some 70)), some (.inl (0 : Int32)), some (.inl (1 : Int32))]) o (q_dm dm_X8_tellingPlace 3 rfl) (Nat.le_of_ble_eq_true rfl) rfl ?_
  exact qr_loc (q_leS (q_leS (q_leS q_le0))) (w_X8_tellingPlace_4 n j r hj hr o n (0 : Int32) (1 : Int32) M)

theorem a_X8_tellingPlace (g : qG) (l : Launch) (n : Nat) (j r : Nat) (hj : q_isLaw j) (hr : q_isLaw r) (M : qM) : qAM g l 2 zX8_tellingPlace (qL j r) [.inr (some 70)] (qL j r, M) (f_X8_tellingPlace n  M) :=
  qAM.of zv_X8_tellingPlace.1 (by show 1 ≤ 3; decide) (fun k hk o => w_X8_tellingPlace n j r hj hr o  M)
def tb_X11_histories : List (Nat × Instr × Nat) := [(0, (.iload_n 1, 1)), (1, (.iconst 1, 1)), (2, (.if_icmp .lt 28, 3)), (5, (.iload_n 1, 1)), (6, (.iconst 4, 1)), (7, (.if_icmp .gt 23, 3)), (10, (.iload_n 2, 1)), (11, (.ifCond .lt 19, 3)), (14, (.iload_n 2, 1)), (15, (.bipush 10, 2)), (17, (.if_icmp .gt 13, 3)), (20, (.iload_n 3, 1)), (21, (.ifCond .lt 9, 3)), (24, (.iload_n 3, 1)), (25, (.bipush 9, 2)), (27, (.if_icmp .le 5, 3)), (30, (.iconst (-1), 1)), (31, (.ireturn, 1)), (32, (.iload 4, 2)), (34, (.ifCond .lt 24, 3)), (37, (.iload 4, 2)), (39, (.iconst 2, 1)), (40, (.if_icmp .gt 18, 3)), (43, (.iload_n 1, 1)), (44, (.iconst 2, 1)), (45, (.iload_n 2, 1)), (46, (.imul, 1)), (47, (.iadd, 1)), (48, (.aload_n 0, 1)), (49, (.getfield 10, 3)), (52, (.getfield 112, 3)), (55, (.if_icmp .le 5, 3)), (58, (.iconst (-1), 1)), (59, (.ireturn, 1)), (60, (.aload_n 0, 1)), (61, (.getfield 91, 3)), (64, (.aload_n 0, 1)), (65, (.getfield 10, 3)), (68, (.iload_n 1, 1)), (69, (.iload_n 2, 1)), (70, (.invokevirtual 242, 3)), (73, (.istore 5, 2)), (75, (.aload_n 0, 1)), (76, (.getfield 10, 3)), (79, (.invokevirtual 123, 3)), (82, (.iload 5, 2)), (84, (.ifCond .ne 6, 3)), (87, (.bipush (-3), 2)), (89, (.ireturn, 1)), (90, (.aload_n 0, 1)), (91, (.getfield 91, 3)), (94, (.iload_n 3, 1)), (95, (.aload_n 0, 1)), (96, (.getfield 26, 3)), (99, (.getfield 184, 3)), (102, (.invokevirtual 245, 3)), (105, (.iload 4, 2)), (107, (.ifCond .ne 11, 3)), (110, (.aload_n 0, 1)), (111, (.getfield 91, 3)), (114, (.getfield 249, 3)), (117, (.ireturn, 1)), (118, (.iload 4, 2)), (120, (.iconst 1, 1)), (121, (.if_icmp .ne 13, 3)), (124, (.aload_n 0, 1)), (125, (.getfield 91, 3)), (128, (.getfield 252, 3)), (131, (.goto 10, 3)), (134, (.aload_n 0, 1)), (135, (.getfield 91, 3)), (138, (.invokevirtual 255, 3)), (141, (.ireturn, 1))]
theorem dm_X11_histories : ∀ q ∈ tb_X11_histories, decode zX11_histories.2.1 q.1 = .ok q.2 := by decide +kernel
def f_X11_histories (n : Nat) (j : Nat) (a1 a2 a3 a4 : Int32) (M : qM) : qR :=
  (if a1 < (1 : Int32) then some ((-1 : Int32), M) else (if (4 : Int32) < a1 then some ((-1 : Int32), M) else (if a2 < (0 : Int32) then some ((-1 : Int32), M) else (if (10 : Int32) < a2 then some ((-1 : Int32), M) else (if a3 < (0 : Int32) then some ((-1 : Int32), M) else (if a3 ≤ (9 : Int32) then (if a4 < (0 : Int32) then some ((-1 : Int32), M) else (if (2 : Int32) < a4 then some ((-1 : Int32), M) else (if (a1 + ((2 : Int32) * a2)) ≤ (M 1 1) then qc (f_X8_read n a1 a2 M) (fun r1 m2 => qc (f_X9_clear n  m2) (fun _ m3 => (if r1 = (0 : Int32) then some ((-3 : Int32), m3) else qc (f_X8_goThrough n j a3 (m3 7 9) m3) (fun _ m4 => (if a4 = (0 : Int32) then some ((m4 70 10), m4) else (if a4 = (1 : Int32) then some ((m4 70 11), m4) else qc (f_X8_tellingPlace n  m4) (fun r5 m6 => some (r5, m6)))))))) else some ((-1 : Int32), M)))) else some ((-1 : Int32), M)))))))
set_option maxRecDepth 4000 in
theorem w_X11_histories {g : qG} {k : qK} (n : Nat) (j r : Nat) (hj : q_isLaw j) (hr : q_isLaw r) (o : qOk g 5 zX11_histories k) (a1 a2 a3 a4 : Int32) (M : qM) : qAE g k zX11_histories (qL j r) 0 [some (.inr (some 0)), some (.inl a1), some (.inl a2), some (.inl a3), some (.inl a4), none] [] (qL j r, M) (f_X11_histories n j a1 a2 a3 a4 M) := by
  unfold f_X11_histories
  refine qr_iload_n o (q_dm dm_X11_histories 0 rfl) rfl ?_
  refine qr_iconst o (q_dm dm_X11_histories 1 rfl) ic_1 ?_
  refine qr_icmp_lt (tgt := 30) o (q_dm dm_X11_histories 2 rfl) (by decide) ?_ ?_
  · refine qr_iconst o (q_dm dm_X11_histories 16 rfl) ic_m1 ?_
    exact qr_iret o rfl rfl (q_dm dm_X11_histories 17 rfl)
  · refine qr_iload_n o (q_dm dm_X11_histories 3 rfl) rfl ?_
    refine qr_iconst o (q_dm dm_X11_histories 4 rfl) ic_4 ?_
    refine qr_icmp_gt (tgt := 30) o (q_dm dm_X11_histories 5 rfl) (by decide) ?_ ?_
    · refine qr_iconst o (q_dm dm_X11_histories 16 rfl) ic_m1 ?_
      exact qr_iret o rfl rfl (q_dm dm_X11_histories 17 rfl)
    · refine qr_iload_n o (q_dm dm_X11_histories 6 rfl) rfl ?_
      refine qr_if_lt (tgt := 30) o (q_dm dm_X11_histories 7 rfl) (by decide) ?_ ?_
      · refine qr_iconst o (q_dm dm_X11_histories 16 rfl) ic_m1 ?_
        exact qr_iret o rfl rfl (q_dm dm_X11_histories 17 rfl)
      · refine qr_iload_n o (q_dm dm_X11_histories 8 rfl) rfl ?_
        refine qr_bipush o (q_dm dm_X11_histories 9 rfl) bi_10 ?_
        refine qr_icmp_gt (tgt := 30) o (q_dm dm_X11_histories 10 rfl) (by decide) ?_ ?_
        · refine qr_iconst o (q_dm dm_X11_histories 16 rfl) ic_m1 ?_
          exact qr_iret o rfl rfl (q_dm dm_X11_histories 17 rfl)
        · refine qr_iload_n o (q_dm dm_X11_histories 11 rfl) rfl ?_
          refine qr_if_lt (tgt := 30) o (q_dm dm_X11_histories 12 rfl) (by decide) ?_ ?_
          · refine qr_iconst o (q_dm dm_X11_histories 16 rfl) ic_m1 ?_
            exact qr_iret o rfl rfl (q_dm dm_X11_histories 17 rfl)
          · refine qr_iload_n o (q_dm dm_X11_histories 13 rfl) rfl ?_
            refine qr_bipush o (q_dm dm_X11_histories 14 rfl) bi_9 ?_
            refine qr_icmp_le (tgt := 32) o (q_dm dm_X11_histories 15 rfl) (by decide) ?_ ?_
            · refine qr_iload o (q_dm dm_X11_histories 18 rfl) rfl ?_
              refine qr_if_lt (tgt := 58) o (q_dm dm_X11_histories 19 rfl) (by decide) ?_ ?_
              · refine qr_iconst o (q_dm dm_X11_histories 32 rfl) ic_m1 ?_
                exact qr_iret o rfl rfl (q_dm dm_X11_histories 33 rfl)
              · refine qr_iload o (q_dm dm_X11_histories 20 rfl) rfl ?_
                refine qr_iconst o (q_dm dm_X11_histories 21 rfl) ic_2 ?_
                refine qr_icmp_gt (tgt := 58) o (q_dm dm_X11_histories 22 rfl) (by decide) ?_ ?_
                · refine qr_iconst o (q_dm dm_X11_histories 32 rfl) ic_m1 ?_
                  exact qr_iret o rfl rfl (q_dm dm_X11_histories 33 rfl)
                · refine qr_iload_n o (q_dm dm_X11_histories 23 rfl) rfl ?_
                  refine qr_iconst o (q_dm dm_X11_histories 24 rfl) ic_2 ?_
                  refine qr_iload_n o (q_dm dm_X11_histories 25 rfl) rfl ?_
                  refine qr_imul o (q_dm dm_X11_histories 26 rfl) ?_
                  refine qr_iadd o (q_dm dm_X11_histories 27 rfl) ?_
                  refine qr_aload_n o (q_dm dm_X11_histories 28 rfl) rfl ?_
                  refine qr_getr (kf := 0) o cf_X11 (sh0 j r) rfl (Nat.le_of_ble_eq_true rfl) fl_X11_10 (q_dm dm_X11_histories 29 rfl) ?_
                  refine qr_getf (kf := 1) o cf_X9 (sh1 j r) rfl (Nat.le_of_ble_eq_true rfl) fl_X11_112 (q_dm dm_X11_histories 30 rfl) ?_
                  refine qr_icmp_le (tgt := 60) o (q_dm dm_X11_histories 31 rfl) (by decide) ?_ ?_
                  · refine qr_aload_n o (q_dm dm_X11_histories 34 rfl) rfl ?_
                    refine qr_getr (kf := 11) o cf_X11 (sh0 j r) rfl (Nat.le_of_ble_eq_true rfl) fl_X11_91 (q_dm dm_X11_histories 35 rfl) ?_
                    refine qr_aload_n o (q_dm dm_X11_histories 36 rfl) rfl ?_
                    refine qr_getr (kf := 0) o cf_X11 (sh0 j r) rfl (Nat.le_of_ble_eq_true rfl) fl_X11_10 (q_dm dm_X11_histories 37 rfl) ?_
                    refine qr_iload_n o (q_dm dm_X11_histories 38 rfl) rfl ?_
                    refine qr_iload_n o (q_dm dm_X11_histories 39 rfl) rfl ?_
                    refine qr_callv_i (As := [.inr (some 1), .inl a1, .inl a2]) (S := []) o (a_X8_read g k.2.1 n j r hj hr a1 a2 M) (Nat.le_of_ble_eq_true rfl) zv_X8_read rfl cf_X8 (sh70 j r) ml_X11_242 (Nat.le_of_ble_eq_true rfl) (q_dm dm_X11_histories 40 rfl) (fun r1 m2 => ?_)
                    refine qs_istore (L' := [some (.inr (some 0)), some (.inl a1), some (.inl a2), some (.inl a3), some (.inl a4), some (.inl r1)]) o (q_dm dm_X11_histories 41 rfl) (Nat.le_of_ble_eq_true rfl) rfl ?_
                    refine qr_aload_n o (q_dm dm_X11_histories 42 rfl) rfl ?_
                    refine qr_getr (kf := 0) o cf_X11 (sh0 j r) rfl (Nat.le_of_ble_eq_true rfl) fl_X11_10 (q_dm dm_X11_histories 43 rfl) ?_
                    refine qr_callv_v (As := []) (S := []) o (a_X9_clear g k.2.1 n j r hj hr  m2) (Nat.le_of_ble_eq_true rfl) zv_X9_clear rfl cf_X9 (sh1 j r) ml_X11_123 (Nat.le_of_ble_eq_true rfl) (q_dm dm_X11_histories 44 rfl) (fun _ m3 => ?_)
                    refine qr_iload o (q_dm dm_X11_histories 45 rfl) rfl ?_
                    refine qr_if_ne (tgt := 90) o (q_dm dm_X11_histories 46 rfl) (by decide) ?_ ?_
                    · refine qr_aload_n o (q_dm dm_X11_histories 49 rfl) rfl ?_
                      refine qr_getr (kf := 11) o cf_X11 (sh0 j r) rfl (Nat.le_of_ble_eq_true rfl) fl_X11_91 (q_dm dm_X11_histories 50 rfl) ?_
                      refine qr_iload_n o (q_dm dm_X11_histories 51 rfl) rfl ?_
                      refine qr_aload_n o (q_dm dm_X11_histories 52 rfl) rfl ?_
                      refine qr_getr (kf := 2) o cf_X11 (sh0 j r) rfl (Nat.le_of_ble_eq_true rfl) fl_X11_26 (q_dm dm_X11_histories 53 rfl) ?_
                      refine qr_getf (kf := 9) o cf_X10 (sh7 j r) rfl (Nat.le_of_ble_eq_true rfl) fl_X11_184 (q_dm dm_X11_histories 54 rfl) ?_
                      refine qr_callv_v (As := [.inl a3, .inl (m3 7 9)]) (S := []) o (a_X8_goThrough g k.2.1 n j r hj hr a3 (m3 7 9) m3) (Nat.le_of_ble_eq_true rfl) zv_X8_goThrough rfl cf_X8 (sh70 j r) ml_X11_245 (Nat.le_of_ble_eq_true rfl) (q_dm dm_X11_histories 55 rfl) (fun _ m4 => ?_)
                      refine qr_iload o (q_dm dm_X11_histories 56 rfl) rfl ?_
                      refine qr_if_ne (tgt := 118) o (q_dm dm_X11_histories 57 rfl) (by decide) ?_ ?_
                      · refine qr_iload o (q_dm dm_X11_histories 62 rfl) rfl ?_
                        refine qr_iconst o (q_dm dm_X11_histories 63 rfl) ic_1 ?_
                        refine qr_icmp_ne (tgt := 134) o (q_dm dm_X11_histories 64 rfl) (by decide) ?_ ?_
                        · refine qr_aload_n o (q_dm dm_X11_histories 69 rfl) rfl ?_
                          refine qr_getr (kf := 11) o cf_X11 (sh0 j r) rfl (Nat.le_of_ble_eq_true rfl) fl_X11_91 (q_dm dm_X11_histories 70 rfl) ?_
                          refine qr_callv_i (As := []) (S := []) o (a_X8_tellingPlace g k.2.1 n j r hj hr  m4) (Nat.le_of_ble_eq_true rfl) zv_X8_tellingPlace rfl cf_X8 (sh70 j r) ml_X11_255 (Nat.le_of_ble_eq_true rfl) (q_dm dm_X11_histories 71 rfl) (fun r5 m6 => ?_)
                          exact qr_iret o rfl rfl (q_dm dm_X11_histories 72 rfl)
                        · refine qr_aload_n o (q_dm dm_X11_histories 65 rfl) rfl ?_
                          refine qr_getr (kf := 11) o cf_X11 (sh0 j r) rfl (Nat.le_of_ble_eq_true rfl) fl_X11_91 (q_dm dm_X11_histories 66 rfl) ?_
                          refine qr_getf (kf := 11) o cf_X8 (sh70 j r) rfl (Nat.le_of_ble_eq_true rfl) fl_X11_252 (q_dm dm_X11_histories 67 rfl) ?_
                          refine qr_goto (tgt := 141) o (q_dm dm_X11_histories 68 rfl) (by decide) ?_
                          exact qr_iret o rfl rfl (q_dm dm_X11_histories 72 rfl)
                      · refine qr_aload_n o (q_dm dm_X11_histories 58 rfl) rfl ?_
                        refine qr_getr (kf := 11) o cf_X11 (sh0 j r) rfl (Nat.le_of_ble_eq_true rfl) fl_X11_91 (q_dm dm_X11_histories 59 rfl) ?_
                        refine qr_getf (kf := 10) o cf_X8 (sh70 j r) rfl (Nat.le_of_ble_eq_true rfl) fl_X11_249 (q_dm dm_X11_histories 60 rfl) ?_
                        exact qr_iret o rfl rfl (q_dm dm_X11_histories 61 rfl)
                    · refine qr_bipush o (q_dm dm_X11_histories 47 rfl) bi_m3 ?_
                      exact qr_iret o rfl rfl (q_dm dm_X11_histories 48 rfl)
                  · refine qr_iconst o (q_dm dm_X11_histories 32 rfl) ic_m1 ?_
                    exact qr_iret o rfl rfl (q_dm dm_X11_histories 33 rfl)
            · refine qr_iconst o (q_dm dm_X11_histories 16 rfl) ic_m1 ?_
              exact qr_iret o rfl rfl (q_dm dm_X11_histories 17 rfl)

theorem a_X11_histories (g : qG) (l : Launch) (n : Nat) (j r : Nat) (hj : q_isLaw j) (hr : q_isLaw r) (a1 a2 a3 a4 : Int32) (M : qM) : qAM g l 5 zX11_histories (qL j r) [.inr (some 0), .inl a1, .inl a2, .inl a3, .inl a4] (qL j r, M) (f_X11_histories n j a1 a2 a3 a4 M) :=
  qAM.of zv_X11_histories.1 (by show 5 ≤ 6; decide) (fun k hk o => w_X11_histories n j r hj hr o a1 a2 a3 a4 M)
def tb_X11_pence : List (Nat × Instr × Nat) := [(0, (.iload_n 0, 1)), (1, (.iconst 1, 1)), (2, (.if_icmp .ne 18, 3)), (5, (.iload_n 1, 1)), (6, (.iconst 1, 1)), (7, (.if_icmp .ne 10, 3)), (10, (.iload_n 2, 1)), (11, (.iconst 2, 1)), (12, (.idiv, 1)), (13, (.ineg, 1)), (14, (.goto 5, 3)), (17, (.iload_n 2, 1)), (18, (.ineg, 1)), (19, (.ireturn, 1)), (20, (.iload_n 1, 1)), (21, (.iconst 1, 1)), (22, (.if_icmp .ne 7, 3)), (25, (.iload_n 3, 1)), (26, (.goto 4, 3)), (29, (.iconst (-1), 1)), (30, (.ireturn, 1))]
theorem dm_X11_pence : ∀ q ∈ tb_X11_pence, decode zX11_pence.2.1 q.1 = .ok q.2 := by decide +kernel
def f_X11_pence (n : Nat) (a0 a1 a2 a3 : Int32) (M : qM) : qR :=
  (if a0 = (1 : Int32) then (if a1 = (1 : Int32) then some ((-(a2 / (2 : Int32))), M) else some ((-a2), M)) else (if a1 = (1 : Int32) then some (a3, M) else some ((-1 : Int32), M)))
set_option maxRecDepth 4000 in
theorem w_X11_pence {g : qG} {k : qK} (n : Nat) (j r : Nat) (hj : q_isLaw j) (hr : q_isLaw r) (o : qOk g 0 zX11_pence k) (a0 a1 a2 a3 : Int32) (M : qM) : qAE g k zX11_pence (qL j r) 0 [some (.inl a0), some (.inl a1), some (.inl a2), some (.inl a3)] [] (qL j r, M) (f_X11_pence n a0 a1 a2 a3 M) := by
  unfold f_X11_pence
  refine qr_iload_n o (q_dm dm_X11_pence 0 rfl) rfl ?_
  refine qr_iconst o (q_dm dm_X11_pence 1 rfl) ic_1 ?_
  refine qr_icmp_ne (tgt := 20) o (q_dm dm_X11_pence 2 rfl) (by decide) ?_ ?_
  · refine qr_iload_n o (q_dm dm_X11_pence 14 rfl) rfl ?_
    refine qr_iconst o (q_dm dm_X11_pence 15 rfl) ic_1 ?_
    refine qr_icmp_ne (tgt := 29) o (q_dm dm_X11_pence 16 rfl) (by decide) ?_ ?_
    · refine qr_iconst o (q_dm dm_X11_pence 19 rfl) ic_m1 ?_
      exact qr_iret o rfl rfl (q_dm dm_X11_pence 20 rfl)
    · refine qr_iload_n o (q_dm dm_X11_pence 17 rfl) rfl ?_
      refine qr_goto (tgt := 30) o (q_dm dm_X11_pence 18 rfl) (by decide) ?_
      exact qr_iret o rfl rfl (q_dm dm_X11_pence 20 rfl)
  · refine qr_iload_n o (q_dm dm_X11_pence 3 rfl) rfl ?_
    refine qr_iconst o (q_dm dm_X11_pence 4 rfl) ic_1 ?_
    refine qr_icmp_ne (tgt := 17) o (q_dm dm_X11_pence 5 rfl) (by decide) ?_ ?_
    · refine qr_iload_n o (q_dm dm_X11_pence 11 rfl) rfl ?_
      refine qr_ineg o (q_dm dm_X11_pence 12 rfl) ?_
      exact qr_iret o rfl rfl (q_dm dm_X11_pence 13 rfl)
    · refine qr_iload_n o (q_dm dm_X11_pence 6 rfl) rfl ?_
      refine qr_iconst o (q_dm dm_X11_pence 7 rfl) ic_2 ?_
      refine qr_idivc o (q_dm dm_X11_pence 8 rfl) (by decide) ?_
      refine qr_ineg o (q_dm dm_X11_pence 9 rfl) ?_
      refine qr_goto (tgt := 19) o (q_dm dm_X11_pence 10 rfl) (by decide) ?_
      exact qr_iret o rfl rfl (q_dm dm_X11_pence 13 rfl)

theorem a_X11_pence (g : qG) (l : Launch) (n : Nat) (j r : Nat) (hj : q_isLaw j) (hr : q_isLaw r) (a0 a1 a2 a3 : Int32) (M : qM) : qAM g l 0 zX11_pence (qL j r) [.inl a0, .inl a1, .inl a2, .inl a3] (qL j r, M) (f_X11_pence n a0 a1 a2 a3 M) :=
  qAM.of zs_X11_pence.1 (by show 4 ≤ 4; decide) (fun k hk o => w_X11_pence n j r hj hr o a0 a1 a2 a3 M)
def tb_X11_isSettled : List (Nat × Instr × Nat) := [(0, (.iload_n 0, 1)), (1, (.iconst 1, 1)), (2, (.iand, 1)), (3, (.istore_n 3, 1)), (4, (.iload_n 0, 1)), (5, (.iconst 1, 1)), (6, (.ishr, 1)), (7, (.istore 4, 2)), (9, (.iload_n 3, 1)), (10, (.iload 4, 2)), (12, (.iload_n 1, 1)), (13, (.iload_n 2, 1)), (14, (.invokestatic 296, 3)), (17, (.iconst 1, 1)), (18, (.iload_n 3, 1)), (19, (.isub, 1)), (20, (.iload 4, 2)), (22, (.iload_n 1, 1)), (23, (.iload_n 2, 1)), (24, (.invokestatic 296, 3)), (27, (.if_icmp .lt 28, 3)), (30, (.iload 4, 2)), (32, (.iload_n 3, 1)), (33, (.iload_n 1, 1)), (34, (.iload_n 2, 1)), (35, (.invokestatic 296, 3)), (38, (.iconst 1, 1)), (39, (.iload 4, 2)), (41, (.isub, 1)), (42, (.iload_n 3, 1)), (43, (.iload_n 1, 1)), (44, (.iload_n 2, 1)), (45, (.invokestatic 296, 3)), (48, (.if_icmp .lt 7, 3)), (51, (.iconst 1, 1)), (52, (.goto 4, 3)), (55, (.iconst 0, 1)), (56, (.ireturn, 1))]
theorem dm_X11_isSettled : ∀ q ∈ tb_X11_isSettled, decode zX11_isSettled.2.1 q.1 = .ok q.2 := by decide +kernel
def f_X11_isSettled (n : Nat) (a0 a1 a2 : Int32) (M : qM) : qR :=
  ql (a0 &&& (1 : Int32)) (fun x1 => ql (a0 >>> ((1 : Int32) &&& 31)) (fun x2 => qc (f_X11_pence n x1 x2 a1 a2 M) (fun r3 m4 => qc (f_X11_pence n ((1 : Int32) - x1) x2 a1 a2 m4) (fun r5 m6 => (if r3 < r5 then some ((0 : Int32), m6) else qc (f_X11_pence n x2 x1 a1 a2 m6) (fun r7 m8 => qc (f_X11_pence n ((1 : Int32) - x2) x1 a1 a2 m8) (fun r9 m10 => (if r7 < r9 then some ((0 : Int32), m10) else some ((1 : Int32), m10)))))))))
set_option maxRecDepth 4000 in
theorem w_X11_isSettled {g : qG} {k : qK} (n : Nat) (j r : Nat) (hj : q_isLaw j) (hr : q_isLaw r) (o : qOk g 1 zX11_isSettled k) (a0 a1 a2 : Int32) (M : qM) : qAE g k zX11_isSettled (qL j r) 0 [some (.inl a0), some (.inl a1), some (.inl a2), none, none] [] (qL j r, M) (f_X11_isSettled n a0 a1 a2 M) := by
  unfold f_X11_isSettled
  refine qr_iload_n o (q_dm dm_X11_isSettled 0 rfl) rfl ?_
  refine qr_iconst o (q_dm dm_X11_isSettled 1 rfl) ic_1 ?_
  refine qr_iand o (q_dm dm_X11_isSettled 2 rfl) ?_
  refine qr_lt (fun x1 => ?_)
  refine qs_istore_n (L' := [some (.inl a0), some (.inl a1), some (.inl a2), some (.inl x1), none]) o (q_dm dm_X11_isSettled 3 rfl) (Nat.le_of_ble_eq_true rfl) rfl ?_
  refine qr_iload_n o (q_dm dm_X11_isSettled 4 rfl) rfl ?_
  refine qr_iconst o (q_dm dm_X11_isSettled 5 rfl) ic_1 ?_
  refine qr_ishr o (q_dm dm_X11_isSettled 6 rfl) ?_
  refine qr_lt (fun x2 => ?_)
  refine qs_istore (L' := [some (.inl a0), some (.inl a1), some (.inl a2), some (.inl x1), some (.inl x2)]) o (q_dm dm_X11_isSettled 7 rfl) (Nat.le_of_ble_eq_true rfl) rfl ?_
  refine qr_iload_n o (q_dm dm_X11_isSettled 8 rfl) rfl ?_
  refine qr_iload o (q_dm dm_X11_isSettled 9 rfl) rfl ?_
  refine qr_iload_n o (q_dm dm_X11_isSettled 10 rfl) rfl ?_
  refine qr_iload_n o (q_dm dm_X11_isSettled 11 rfl) rfl ?_
  refine qr_calls_i (As := [.inl x1, .inl x2, .inl a1, .inl a2]) (S := []) o (a_X11_pence g k.2.1 n j r hj hr x1 x2 a1 a2 M) (Nat.le_of_ble_eq_true rfl) zs_X11_pence rfl ml_X11_296 (Nat.le_of_ble_eq_true rfl) (q_dm dm_X11_isSettled 12 rfl) (fun r3 m4 => ?_)
  refine qr_iconst o (q_dm dm_X11_isSettled 13 rfl) ic_1 ?_
  refine qr_iload_n o (q_dm dm_X11_isSettled 14 rfl) rfl ?_
  refine qr_isub o (q_dm dm_X11_isSettled 15 rfl) ?_
  refine qr_iload o (q_dm dm_X11_isSettled 16 rfl) rfl ?_
  refine qr_iload_n o (q_dm dm_X11_isSettled 17 rfl) rfl ?_
  refine qr_iload_n o (q_dm dm_X11_isSettled 18 rfl) rfl ?_
  refine qr_calls_i (As := [.inl ((1 : Int32) - x1), .inl x2, .inl a1, .inl a2]) (S := [.inl r3]) o (a_X11_pence g k.2.1 n j r hj hr ((1 : Int32) - x1) x2 a1 a2 m4) (Nat.le_of_ble_eq_true rfl) zs_X11_pence rfl ml_X11_296 (Nat.le_of_ble_eq_true rfl) (q_dm dm_X11_isSettled 19 rfl) (fun r5 m6 => ?_)
  refine qr_icmp_lt (tgt := 55) o (q_dm dm_X11_isSettled 20 rfl) (by decide) ?_ ?_
  · refine qr_iconst o (q_dm dm_X11_isSettled 36 rfl) ic_0 ?_
    exact qr_iret o rfl (by decide) (q_dm dm_X11_isSettled 37 rfl)
  · refine qr_iload o (q_dm dm_X11_isSettled 21 rfl) rfl ?_
    refine qr_iload_n o (q_dm dm_X11_isSettled 22 rfl) rfl ?_
    refine qr_iload_n o (q_dm dm_X11_isSettled 23 rfl) rfl ?_
    refine qr_iload_n o (q_dm dm_X11_isSettled 24 rfl) rfl ?_
    refine qr_calls_i (As := [.inl x2, .inl x1, .inl a1, .inl a2]) (S := []) o (a_X11_pence g k.2.1 n j r hj hr x2 x1 a1 a2 m6) (Nat.le_of_ble_eq_true rfl) zs_X11_pence rfl ml_X11_296 (Nat.le_of_ble_eq_true rfl) (q_dm dm_X11_isSettled 25 rfl) (fun r7 m8 => ?_)
    refine qr_iconst o (q_dm dm_X11_isSettled 26 rfl) ic_1 ?_
    refine qr_iload o (q_dm dm_X11_isSettled 27 rfl) rfl ?_
    refine qr_isub o (q_dm dm_X11_isSettled 28 rfl) ?_
    refine qr_iload_n o (q_dm dm_X11_isSettled 29 rfl) rfl ?_
    refine qr_iload_n o (q_dm dm_X11_isSettled 30 rfl) rfl ?_
    refine qr_iload_n o (q_dm dm_X11_isSettled 31 rfl) rfl ?_
    refine qr_calls_i (As := [.inl ((1 : Int32) - x2), .inl x1, .inl a1, .inl a2]) (S := [.inl r7]) o (a_X11_pence g k.2.1 n j r hj hr ((1 : Int32) - x2) x1 a1 a2 m8) (Nat.le_of_ble_eq_true rfl) zs_X11_pence rfl ml_X11_296 (Nat.le_of_ble_eq_true rfl) (q_dm dm_X11_isSettled 32 rfl) (fun r9 m10 => ?_)
    refine qr_icmp_lt (tgt := 55) o (q_dm dm_X11_isSettled 33 rfl) (by decide) ?_ ?_
    · refine qr_iconst o (q_dm dm_X11_isSettled 36 rfl) ic_0 ?_
      exact qr_iret o rfl (by decide) (q_dm dm_X11_isSettled 37 rfl)
    · refine qr_iconst o (q_dm dm_X11_isSettled 34 rfl) ic_1 ?_
      refine qr_goto (tgt := 56) o (q_dm dm_X11_isSettled 35 rfl) (by decide) ?_
      exact qr_iret o rfl (by decide) (q_dm dm_X11_isSettled 37 rfl)

theorem a_X11_isSettled (g : qG) (l : Launch) (n : Nat) (j r : Nat) (hj : q_isLaw j) (hr : q_isLaw r) (a0 a1 a2 : Int32) (M : qM) : qAM g l 1 zX11_isSettled (qL j r) [.inl a0, .inl a1, .inl a2] (qL j r, M) (f_X11_isSettled n a0 a1 a2 M) :=
  qAM.of zs_X11_isSettled.1 (by show 3 ≤ 5; decide) (fun k hk o => w_X11_isSettled n j r hj hr o a0 a1 a2 M)
def tb_X5_read : List (Nat × Instr × Nat) := [(0, (.aload_n 0, 1)), (1, (.iload_n 2, 1)), (2, (.bipush 8, 2)), (4, (.invokestatic 43, 3)), (7, (.putfield 49, 3)), (10, (.iconst 1, 1)), (11, (.istore_n 3, 1)), (12, (.iconst 0, 1)), (13, (.istore 4, 2)), (15, (.iload 4, 2)), (17, (.aload_n 0, 1)), (18, (.getfield 49, 3)), (21, (.if_icmp .ge 49, 3)), (24, (.aload_n 0, 1)), (25, (.getfield 9, 3)), (28, (.iload 4, 2)), (30, (.aload_n 1, 1)), (31, (.iload 4, 2)), (33, (.invokevirtual 53, 3)), (36, (.iastore, 1)), (37, (.iload_n 3, 1)), (38, (.ifCond .eq 24, 3)), (41, (.aload_n 0, 1)), (42, (.getfield 27, 3)), (45, (.aload_n 0, 1)), (46, (.getfield 9, 3)), (49, (.iload 4, 2)), (51, (.iaload, 1)), (52, (.invokevirtual 59, 3)), (55, (.ifCond .eq 7, 3)), (58, (.iconst 1, 1)), (59, (.goto 4, 3)), (62, (.iconst 0, 1)), (63, (.istore_n 3, 1)), (64, (.iinc 4 1, 3)), (67, (.goto (-52), 3)), (70, (.iload_n 3, 1)), (71, (.ireturn, 1))]
theorem dm_X5_read : ∀ q ∈ tb_X5_read, decode zX5_read.2.1 q.1 = .ok q.2 := by decide +kernel
def f_X5_read_62 (n : Nat) (K15 : Int32 → Int32 → qM → qR) (a4 : Int32) (M : qM) : qR :=
  ql (a4 + (1 : Int32)) (fun x1 => K15 (0 : Int32) x1 M)
set_option maxRecDepth 4000 in
theorem w_X5_read_62 {g : qG} {k : qK} (n : Nat) (j r : Nat) (hj : q_isLaw j) (hr : q_isLaw r) (o : qOk g 1 zX5_read k) (K15 : Int32 → Int32 → qM → qR) (hK15 : ∀ (a3 a4 : Int32) (M : qM), qAE g k zX5_read (qL j r) 15 [some (.inr (some 64)), some (.inr (some 1)), none, some (.inl a3), some (.inl a4)] [] (qL j r, M) (K15 a3 a4 M)) (a4 : Int32) (M : qM) : qAE g k zX5_read (qL j r) 62 [some (.inr (some 64)), some (.inr (some 1)), none, none, some (.inl a4)] [] (qL j r, M) (f_X5_read_62 n K15 a4 M) := by
  unfold f_X5_read_62
  refine qr_iconst o (q_dm dm_X5_read 32 rfl) ic_0 ?_
  refine qs_istore_n (L' := [some (.inr (some 64)), some (.inr (some 1)), none, some (.inl (0 : Int32)), some (.inl a4)]) o (q_dm dm_X5_read 33 rfl) (Nat.le_of_ble_eq_true rfl) rfl ?_
  refine qs_iincl2 (L' := fun x1 => [some (.inr (some 64)), some (.inr (some 1)), none, some (.inl (0 : Int32)), some (.inl x1)]) o (q_dm dm_X5_read 34 rfl) rfl ic_1 (Nat.le_of_ble_eq_true rfl) (fun _ => rfl) (fun x1 => ?_)
  refine qr_goto (tgt := 15) o (q_dm dm_X5_read 35 rfl) (by decide) ?_
  exact qr_loc (q_leS (q_leS (q_leN (q_leS (q_leS q_le0))))) (hK15 (0 : Int32) x1 M)

def b_X5_read_15 (n : Nat) (K15 : Int32 → Int32 → qM → qR) (a3 a4 : Int32) (M : qM) : qR :=
  (if (M 64 9) ≤ a4 then qb a3 (some (a3, M)) else qc (f_X9_at n a4 M) (fun r1 m2 => qg a4 8 (qlm (mu m2 65 a4.toNatClampNeg r1) (fun m3 => (if a3 = (0 : Int32) then f_X5_read_62 n K15 a4 m3 else qg a4 8 (qc (f_X2_knows n (m3 65 a4.toNatClampNeg) m3) (fun r4 m5 => (if r4 = (0 : Int32) then f_X5_read_62 n K15 a4 m5 else ql (a4 + (1 : Int32)) (fun x6 => K15 (1 : Int32) x6 m5)))))))))
set_option maxRecDepth 4000 in
theorem wb_X5_read_15 {g : qG} {k : qK} (n : Nat) (j r : Nat) (hj : q_isLaw j) (hr : q_isLaw r) (o : qOk g 1 zX5_read k) (K15 : Int32 → Int32 → qM → qR) (hK15 : ∀ (a3 a4 : Int32) (M : qM), qAE g k zX5_read (qL j r) 15 [some (.inr (some 64)), some (.inr (some 1)), none, some (.inl a3), some (.inl a4)] [] (qL j r, M) (K15 a3 a4 M)) (a3 a4 : Int32) (M : qM) : qAE g k zX5_read (qL j r) 15 [some (.inr (some 64)), some (.inr (some 1)), none, some (.inl a3), some (.inl a4)] [] (qL j r, M) (b_X5_read_15 n K15 a3 a4 M) := by
  unfold b_X5_read_15
  refine qr_iload o (q_dm dm_X5_read 9 rfl) rfl ?_
  refine qr_aload_n o (q_dm dm_X5_read 10 rfl) rfl ?_
  refine qr_getf (kf := 9) o cf_X5 (sh64 j r) rfl (Nat.le_of_ble_eq_true rfl) fl_X5_49 (q_dm dm_X5_read 11 rfl) ?_
  refine qr_icmp_ge (tgt := 70) o (q_dm dm_X5_read 12 rfl) (by decide) ?_ ?_
  · refine qr_iload_n o (q_dm dm_X5_read 36 rfl) rfl ?_
    exact qr_zret o rfl (q_dm dm_X5_read 37 rfl)
  · refine qr_aload_n o (q_dm dm_X5_read 13 rfl) rfl ?_
    refine qr_getr (kf := 3) o cf_X5 (sh64 j r) rfl (Nat.le_of_ble_eq_true rfl) fl_X5_9 (q_dm dm_X5_read 14 rfl) ?_
    refine qr_iload o (q_dm dm_X5_read 15 rfl) rfl ?_
    refine qr_aload_n o (q_dm dm_X5_read 16 rfl) rfl ?_
    refine qr_iload o (q_dm dm_X5_read 17 rfl) rfl ?_
    refine qr_callv_i (As := [.inl a4]) (S := [.inl a4, .inr (some 65)]) o (a_X9_at g k.2.1 n j r hj hr a4 M) (Nat.le_of_ble_eq_true rfl) zv_X9_at rfl cf_X9 (sh1 j r) ml_X5_53 (Nat.le_of_ble_eq_true rfl) (q_dm dm_X5_read 18 rfl) (fun r1 m2 => ?_)
    refine qr_iast o (sh65 j r) (q_dm dm_X5_read 19 rfl) ?_
    refine qr_letm (fun m3 => ?_)
    refine qr_iload_n o (q_dm dm_X5_read 20 rfl) rfl ?_
    refine qr_if_eq (tgt := 62) o (q_dm dm_X5_read 21 rfl) (by decide) ?_ ?_
    · exact qr_loc (q_leS (q_leS (q_leN (q_leN (q_leS q_le0))))) (w_X5_read_62 n j r hj hr o K15 hK15 a4 m3)
    · refine qr_aload_n o (q_dm dm_X5_read 22 rfl) rfl ?_
      refine qr_getr (kf := 0) o cf_X5 (sh64 j r) rfl (Nat.le_of_ble_eq_true rfl) fl_X5_27 (q_dm dm_X5_read 23 rfl) ?_
      refine qr_aload_n o (q_dm dm_X5_read 24 rfl) rfl ?_
      refine qr_getr (kf := 3) o cf_X5 (sh64 j r) rfl (Nat.le_of_ble_eq_true rfl) fl_X5_9 (q_dm dm_X5_read 25 rfl) ?_
      refine qr_iload o (q_dm dm_X5_read 26 rfl) rfl ?_
      refine qr_iald o (sh65 j r) (q_dm dm_X5_read 27 rfl) ?_
      refine qr_callv_i (As := [.inl (m3 65 a4.toNatClampNeg)]) (S := []) o (a_X2_knows g k.2.1 n j r hj hr (m3 65 a4.toNatClampNeg) m3) (Nat.le_of_ble_eq_true rfl) zv_X2_knows rfl cf_X2 (sh3 j r) ml_X5_59 (Nat.le_of_ble_eq_true rfl) (q_dm dm_X5_read 28 rfl) (fun r4 m5 => ?_)
      refine qr_if_eq (tgt := 62) o (q_dm dm_X5_read 29 rfl) (by decide) ?_ ?_
      · exact qr_loc (q_leS (q_leS (q_leN (q_leN (q_leS q_le0))))) (w_X5_read_62 n j r hj hr o K15 hK15 a4 m5)
      · refine qr_iconst o (q_dm dm_X5_read 30 rfl) ic_1 ?_
        refine qr_goto (tgt := 63) o (q_dm dm_X5_read 31 rfl) (by decide) ?_
        refine qs_istore_n (L' := [some (.inr (some 64)), some (.inr (some 1)), none, some (.inl (1 : Int32)), some (.inl a4)]) o (q_dm dm_X5_read 33 rfl) (Nat.le_of_ble_eq_true rfl) rfl ?_
        refine qs_iincl2 (L' := fun x6 => [some (.inr (some 64)), some (.inr (some 1)), none, some (.inl (1 : Int32)), some (.inl x6)]) o (q_dm dm_X5_read 34 rfl) rfl ic_1 (Nat.le_of_ble_eq_true rfl) (fun _ => rfl) (fun x6 => ?_)
        refine qr_goto (tgt := 15) o (q_dm dm_X5_read 35 rfl) (by decide) ?_
        exact qr_loc (q_leS (q_leS (q_leN (q_leS (q_leS q_le0))))) (hK15 (1 : Int32) x6 m5)

def f_X5_read_15 (n : Nat) : Nat → Int32 → Int32 → qM → qR
  | 0, _, _, _ => none
  | m + 1, a3, a4, M => b_X5_read_15 n (f_X5_read_15 n m) a3 a4 M
theorem w_X5_read_15 {g : qG} {k : qK} (n : Nat) (j r : Nat) (hj : q_isLaw j) (hr : q_isLaw r) (o : qOk g 1 zX5_read k) : ∀ (m : Nat) (a3 a4 : Int32) (M : qM), qAE g k zX5_read (qL j r) 15 [some (.inr (some 64)), some (.inr (some 1)), none, some (.inl a3), some (.inl a4)] [] (qL j r, M) (f_X5_read_15 n m a3 a4 M) := by
  intro m
  induction m with
  | zero =>
    intro a3 a4 M
    exact qr_none
  | succ m ih =>
    intro a3 a4 M
    exact wb_X5_read_15 n j r hj hr o (f_X5_read_15 n m) ih a3 a4 M
def f_X5_read (n : Nat) (a2 : Int32) (M : qM) : qR :=
  qlm (mu M 64 9 (qmin a2 (8 : Int32))) (fun m1 => f_X5_read_15 n n (1 : Int32) (0 : Int32) m1)
set_option maxRecDepth 4000 in
theorem w_X5_read {g : qG} {k : qK} (n : Nat) (j r : Nat) (hj : q_isLaw j) (hr : q_isLaw r) (o : qOk g 1 zX5_read k) (a2 : Int32) (M : qM) : qAE g k zX5_read (qL j r) 0 [some (.inr (some 64)), some (.inr (some 1)), some (.inl a2), none, none] [] (qL j r, M) (f_X5_read n a2 M) := by
  unfold f_X5_read
  refine qr_aload_n o (q_dm dm_X5_read 0 rfl) rfl ?_
  refine qr_iload_n o (q_dm dm_X5_read 1 rfl) rfl ?_
  refine qr_bipush o (q_dm dm_X5_read 2 rfl) bi_8 ?_
  refine qr_min o ml_X5_43 (by omega) (Nat.le_of_ble_eq_true rfl) (q_dm dm_X5_read 3 rfl) ?_
  refine qr_putf (kf := 9) o cf_X5 (sh64 j r) rfl (Nat.le_of_ble_eq_true rfl) fl_X5_49 rfl (by decide +kernel) (q_dm dm_X5_read 4 rfl) ?_
  refine qr_letm (fun m1 => ?_)
  refine qr_iconst o (q_dm dm_X5_read 5 rfl) ic_1 ?_
  refine qs_istore_n (L' := [some (.inr (some 64)), some (.inr (some 1)), some (.inl a2), some (.inl (1 : Int32)), none]) o (q_dm dm_X5_read 6 rfl) (Nat.le_of_ble_eq_true rfl) rfl ?_
  refine qr_iconst o (q_dm dm_X5_read 7 rfl) ic_0 ?_
  refine qs_istore (L' := [some (.inr (some 64)), some (.inr (some 1)), some (.inl a2), some (.inl (1 : Int32)), some (.inl (0 : Int32))]) o (q_dm dm_X5_read 8 rfl) (Nat.le_of_ble_eq_true rfl) rfl ?_
  exact qr_loc (q_leS (q_leS (q_leN (q_leS (q_leS q_le0))))) (w_X5_read_15 n j r hj hr o n (1 : Int32) (0 : Int32) m1)

theorem a_X5_read (g : qG) (l : Launch) (n : Nat) (j r : Nat) (hj : q_isLaw j) (hr : q_isLaw r) (a2 : Int32) (M : qM) : qAM g l 1 zX5_read (qL j r) [.inr (some 64), .inr (some 1), .inl a2] (qL j r, M) (f_X5_read n a2 M) :=
  qAM.of zv_X5_read.1 (by show 3 ≤ 5; decide) (fun k hk o => w_X5_read n j r hj hr o a2 M)
def tb_X5_longestOf : List (Nat × Instr × Nat) := [(0, (.aload_n 0, 1)), (1, (.getfield 24, 3)), (4, (.iconst 0, 1)), (5, (.invokestatic 142, 3)), (8, (.iload_n 1, 1)), (9, (.istore_n 2, 1)), (10, (.aload_n 0, 1)), (11, (.getfield 49, 3)), (14, (.iconst 1, 1)), (15, (.isub, 1)), (16, (.istore_n 3, 1)), (17, (.iload_n 3, 1)), (18, (.ifCond .lt 40, 3)), (21, (.aload_n 0, 1)), (22, (.getfield 65, 3)), (25, (.ifCond .le 33, 3)), (28, (.aload_n 0, 1)), (29, (.getfield 24, 3)), (32, (.iload_n 2, 1)), (33, (.aload_n 0, 1)), (34, (.getfield 65, 3)), (37, (.irem, 1)), (38, (.dup2, 1)), (39, (.iaload, 1)), (40, (.iconst 1, 1)), (41, (.iload_n 3, 1)), (42, (.ishl, 1)), (43, (.ior, 1)), (44, (.iastore, 1)), (45, (.iload_n 2, 1)), (46, (.aload_n 0, 1)), (47, (.getfield 65, 3)), (50, (.idiv, 1)), (51, (.istore_n 2, 1)), (52, (.iinc 3 (-1), 3)), (55, (.goto (-38), 3)), (58, (.iconst 0, 1)), (59, (.istore_n 3, 1)), (60, (.iconst 0, 1)), (61, (.istore 4, 2)), (63, (.iload 4, 2)), (65, (.aload_n 0, 1)), (66, (.getfield 65, 3)), (69, (.if_icmp .ge 33, 3)), (72, (.iload_n 3, 1)), (73, (.aload_n 0, 1)), (74, (.getfield 18, 3)), (77, (.iload 4, 2)), (79, (.sipush 256, 3)), (82, (.imul, 1)), (83, (.aload_n 0, 1)), (84, (.getfield 24, 3)), (87, (.iload 4, 2)), (89, (.iaload, 1)), (90, (.iadd, 1)), (91, (.iaload, 1)), (92, (.invokestatic 148, 3)), (95, (.istore_n 3, 1)), (96, (.iinc 4 1, 3)), (99, (.goto (-36), 3)), (102, (.iload_n 3, 1)), (103, (.ireturn, 1))]
theorem dm_X5_longestOf : ∀ q ∈ tb_X5_longestOf, decode zX5_longestOf.2.1 q.1 = .ok q.2 := by decide +kernel
def b_X5_longestOf_63 (n : Nat) (K63 : Int32 → Int32 → qM → qR) (a3 a4 : Int32) (M : qM) : qR :=
  (if (M 64 10) ≤ a4 then some (a3, M) else qg a4 3 (qg ((a4 * (256 : Int32)) + (M 69 a4.toNatClampNeg)) 768 (ql (qmax a3 (M 67 ((a4 * (256 : Int32)) + (M 69 a4.toNatClampNeg)).toNatClampNeg)) (fun x1 => ql (a4 + (1 : Int32)) (fun x2 => K63 x1 x2 M)))))
set_option maxRecDepth 4000 in
theorem wb_X5_longestOf_63 {g : qG} {k : qK} (n : Nat) (j r : Nat) (hj : q_isLaw j) (hr : q_isLaw r) (o : qOk g 1 zX5_longestOf k) (K63 : Int32 → Int32 → qM → qR) (hK63 : ∀ (a3 a4 : Int32) (M : qM), qAE g k zX5_longestOf (qL j r) 63 [some (.inr (some 64)), none, none, some (.inl a3), some (.inl a4)] [] (qL j r, M) (K63 a3 a4 M)) (a3 a4 : Int32) (M : qM) : qAE g k zX5_longestOf (qL j r) 63 [some (.inr (some 64)), none, none, some (.inl a3), some (.inl a4)] [] (qL j r, M) (b_X5_longestOf_63 n K63 a3 a4 M) := by
  unfold b_X5_longestOf_63
  refine qr_iload o (q_dm dm_X5_longestOf 40 rfl) rfl ?_
  refine qr_aload_n o (q_dm dm_X5_longestOf 41 rfl) rfl ?_
  refine qr_getf (kf := 10) o cf_X5 (sh64 j r) rfl (Nat.le_of_ble_eq_true rfl) fl_X5_65 (q_dm dm_X5_longestOf 42 rfl) ?_
  refine qr_icmp_ge (tgt := 102) o (q_dm dm_X5_longestOf 43 rfl) (by decide) ?_ ?_
  · refine qr_iload_n o (q_dm dm_X5_longestOf 60 rfl) rfl ?_
    exact qr_iret o rfl rfl (q_dm dm_X5_longestOf 61 rfl)
  · refine qr_iload_n o (q_dm dm_X5_longestOf 44 rfl) rfl ?_
    refine qr_aload_n o (q_dm dm_X5_longestOf 45 rfl) rfl ?_
    refine qr_getr (kf := 5) o cf_X5 (sh64 j r) rfl (Nat.le_of_ble_eq_true rfl) fl_X5_18 (q_dm dm_X5_longestOf 46 rfl) ?_
    refine qr_iload o (q_dm dm_X5_longestOf 47 rfl) rfl ?_
    refine qr_sipush o (q_dm dm_X5_longestOf 48 rfl) si_256 ?_
    refine qr_imul o (q_dm dm_X5_longestOf 49 rfl) ?_
    refine qr_aload_n o (q_dm dm_X5_longestOf 50 rfl) rfl ?_
    refine qr_getr (kf := 7) o cf_X5 (sh64 j r) rfl (Nat.le_of_ble_eq_true rfl) fl_X5_24 (q_dm dm_X5_longestOf 51 rfl) ?_
    refine qr_iload o (q_dm dm_X5_longestOf 52 rfl) rfl ?_
    refine qr_iald o (sh69 j r) (q_dm dm_X5_longestOf 53 rfl) ?_
    refine qr_iadd o (q_dm dm_X5_longestOf 54 rfl) ?_
    refine qr_iald o (sh67 j r) (q_dm dm_X5_longestOf 55 rfl) ?_
    refine qr_max o ml_X5_148 (by omega) (Nat.le_of_ble_eq_true rfl) (q_dm dm_X5_longestOf 56 rfl) ?_
    refine qr_lt (fun x1 => ?_)
    refine qs_istore_n (L' := [some (.inr (some 64)), none, none, some (.inl x1), some (.inl a4)]) o (q_dm dm_X5_longestOf 57 rfl) (Nat.le_of_ble_eq_true rfl) rfl ?_
    refine qs_iincl2 (L' := fun x2 => [some (.inr (some 64)), none, none, some (.inl x1), some (.inl x2)]) o (q_dm dm_X5_longestOf 58 rfl) rfl ic_1 (Nat.le_of_ble_eq_true rfl) (fun _ => rfl) (fun x2 => ?_)
    refine qr_goto (tgt := 63) o (q_dm dm_X5_longestOf 59 rfl) (by decide) ?_
    exact qr_loc (q_leS (q_leN (q_leN (q_leS (q_leS q_le0))))) (hK63 x1 x2 M)

def f_X5_longestOf_63 (n : Nat) : Nat → Int32 → Int32 → qM → qR
  | 0, _, _, _ => none
  | m + 1, a3, a4, M => b_X5_longestOf_63 n (f_X5_longestOf_63 n m) a3 a4 M
theorem w_X5_longestOf_63 {g : qG} {k : qK} (n : Nat) (j r : Nat) (hj : q_isLaw j) (hr : q_isLaw r) (o : qOk g 1 zX5_longestOf k) : ∀ (m : Nat) (a3 a4 : Int32) (M : qM), qAE g k zX5_longestOf (qL j r) 63 [some (.inr (some 64)), none, none, some (.inl a3), some (.inl a4)] [] (qL j r, M) (f_X5_longestOf_63 n m a3 a4 M) := by
  intro m
  induction m with
  | zero =>
    intro a3 a4 M
    exact qr_none
  | succ m ih =>
    intro a3 a4 M
    exact wb_X5_longestOf_63 n j r hj hr o (f_X5_longestOf_63 n m) ih a3 a4 M
def f_X5_longestOf_58 (n : Nat) (M : qM) : qR :=
  f_X5_longestOf_63 n n (0 : Int32) (0 : Int32) M
set_option maxRecDepth 4000 in
theorem w_X5_longestOf_58 {g : qG} {k : qK} (n : Nat) (j r : Nat) (hj : q_isLaw j) (hr : q_isLaw r) (o : qOk g 1 zX5_longestOf k) (M : qM) : qAE g k zX5_longestOf (qL j r) 58 [some (.inr (some 64)), none, none, none, none] [] (qL j r, M) (f_X5_longestOf_58 n  M) := by
  unfold f_X5_longestOf_58
  refine qr_iconst o (q_dm dm_X5_longestOf 36 rfl) ic_0 ?_
  refine qs_istore_n (L' := [some (.inr (some 64)), none, none, some (.inl (0 : Int32)), none]) o (q_dm dm_X5_longestOf 37 rfl) (Nat.le_of_ble_eq_true rfl) rfl ?_
  refine qr_iconst o (q_dm dm_X5_longestOf 38 rfl) ic_0 ?_
  refine qs_istore (L' := [some (.inr (some 64)), none, none, some (.inl (0 : Int32)), some (.inl (0 : Int32))]) o (q_dm dm_X5_longestOf 39 rfl) (Nat.le_of_ble_eq_true rfl) rfl ?_
  exact qr_loc (q_leS (q_leN (q_leN (q_leS (q_leS q_le0))))) (w_X5_longestOf_63 n j r hj hr o n (0 : Int32) (0 : Int32) M)

def b_X5_longestOf_17 (n : Nat) (K17 : Int32 → Int32 → qM → qR) (a2 a3 : Int32) (M : qM) : qR :=
  (if a3 < (0 : Int32) then f_X5_longestOf_58 n  M else (if (M 64 10) ≤ (0 : Int32) then f_X5_longestOf_58 n  M else qd (M 64 10) (ql (a2 - a2 / (M 64 10) * (M 64 10)) (fun x1 => qg x1 3 (qg x1 3 (qlm (mu M 69 x1.toNatClampNeg ((M 69 x1.toNatClampNeg) ||| ((1 : Int32) <<< (a3 &&& 31)))) (fun m2 => qd (m2 64 10) (ql (a2 / (m2 64 10)) (fun x3 => ql (a3 + (-1 : Int32)) (fun x4 => K17 x3 x4 m2))))))))))
set_option maxRecDepth 4000 in
theorem wb_X5_longestOf_17 {g : qG} {k : qK} (n : Nat) (j r : Nat) (hj : q_isLaw j) (hr : q_isLaw r) (o : qOk g 1 zX5_longestOf k) (K17 : Int32 → Int32 → qM → qR) (hK17 : ∀ (a2 a3 : Int32) (M : qM), qAE g k zX5_longestOf (qL j r) 17 [some (.inr (some 64)), none, some (.inl a2), some (.inl a3), none] [] (qL j r, M) (K17 a2 a3 M)) (a2 a3 : Int32) (M : qM) : qAE g k zX5_longestOf (qL j r) 17 [some (.inr (some 64)), none, some (.inl a2), some (.inl a3), none] [] (qL j r, M) (b_X5_longestOf_17 n K17 a2 a3 M) := by
  unfold b_X5_longestOf_17
  refine qr_iload_n o (q_dm dm_X5_longestOf 11 rfl) rfl ?_
  refine qr_if_lt (tgt := 58) o (q_dm dm_X5_longestOf 12 rfl) (by decide) ?_ ?_
  · exact qr_loc (q_leS (q_leN (q_leN (q_leN (q_leN q_le0))))) (w_X5_longestOf_58 n j r hj hr o  M)
  · refine qr_aload_n o (q_dm dm_X5_longestOf 13 rfl) rfl ?_
    refine qr_getf (kf := 10) o cf_X5 (sh64 j r) rfl (Nat.le_of_ble_eq_true rfl) fl_X5_65 (q_dm dm_X5_longestOf 14 rfl) ?_
    refine qr_if_le (tgt := 58) o (q_dm dm_X5_longestOf 15 rfl) (by decide) ?_ ?_
    · exact qr_loc (q_leS (q_leN (q_leN (q_leN (q_leN q_le0))))) (w_X5_longestOf_58 n j r hj hr o  M)
    · refine qr_aload_n o (q_dm dm_X5_longestOf 16 rfl) rfl ?_
      refine qr_getr (kf := 7) o cf_X5 (sh64 j r) rfl (Nat.le_of_ble_eq_true rfl) fl_X5_24 (q_dm dm_X5_longestOf 17 rfl) ?_
      refine qr_iload_n o (q_dm dm_X5_longestOf 18 rfl) rfl ?_
      refine qr_aload_n o (q_dm dm_X5_longestOf 19 rfl) rfl ?_
      refine qr_getf (kf := 10) o cf_X5 (sh64 j r) rfl (Nat.le_of_ble_eq_true rfl) fl_X5_65 (q_dm dm_X5_longestOf 20 rfl) ?_
      refine qr_irem o (q_dm dm_X5_longestOf 21 rfl) ?_
      refine qr_lt (fun x1 => ?_)
      refine qr_dup2 o (q_dm dm_X5_longestOf 22 rfl) ?_
      refine qr_iald o (sh69 j r) (q_dm dm_X5_longestOf 23 rfl) ?_
      refine qr_iconst o (q_dm dm_X5_longestOf 24 rfl) ic_1 ?_
      refine qr_iload_n o (q_dm dm_X5_longestOf 25 rfl) rfl ?_
      refine qr_ishl o (q_dm dm_X5_longestOf 26 rfl) ?_
      refine qr_ior o (q_dm dm_X5_longestOf 27 rfl) ?_
      refine qr_iast o (sh69 j r) (q_dm dm_X5_longestOf 28 rfl) ?_
      refine qr_letm (fun m2 => ?_)
      refine qr_iload_n o (q_dm dm_X5_longestOf 29 rfl) rfl ?_
      refine qr_aload_n o (q_dm dm_X5_longestOf 30 rfl) rfl ?_
      refine qr_getf (kf := 10) o cf_X5 (sh64 j r) rfl (Nat.le_of_ble_eq_true rfl) fl_X5_65 (q_dm dm_X5_longestOf 31 rfl) ?_
      refine qr_idiv o (q_dm dm_X5_longestOf 32 rfl) ?_
      refine qr_lt (fun x3 => ?_)
      refine qs_istore_n (L' := [some (.inr (some 64)), none, some (.inl x3), some (.inl a3), none]) o (q_dm dm_X5_longestOf 33 rfl) (Nat.le_of_ble_eq_true rfl) rfl ?_
      refine qs_iincl2 (L' := fun x4 => [some (.inr (some 64)), none, some (.inl x3), some (.inl x4), none]) o (q_dm dm_X5_longestOf 34 rfl) rfl ic_m1 (Nat.le_of_ble_eq_true rfl) (fun _ => rfl) (fun x4 => ?_)
      refine qr_goto (tgt := 17) o (q_dm dm_X5_longestOf 35 rfl) (by decide) ?_
      exact qr_loc (q_leS (q_leN (q_leS (q_leS (q_leN q_le0))))) (hK17 x3 x4 m2)

def f_X5_longestOf_17 (n : Nat) : Nat → Int32 → Int32 → qM → qR
  | 0, _, _, _ => none
  | m + 1, a2, a3, M => b_X5_longestOf_17 n (f_X5_longestOf_17 n m) a2 a3 M
theorem w_X5_longestOf_17 {g : qG} {k : qK} (n : Nat) (j r : Nat) (hj : q_isLaw j) (hr : q_isLaw r) (o : qOk g 1 zX5_longestOf k) : ∀ (m : Nat) (a2 a3 : Int32) (M : qM), qAE g k zX5_longestOf (qL j r) 17 [some (.inr (some 64)), none, some (.inl a2), some (.inl a3), none] [] (qL j r, M) (f_X5_longestOf_17 n m a2 a3 M) := by
  intro m
  induction m with
  | zero =>
    intro a2 a3 M
    exact qr_none
  | succ m ih =>
    intro a2 a3 M
    exact wb_X5_longestOf_17 n j r hj hr o (f_X5_longestOf_17 n m) ih a2 a3 M
def f_X5_longestOf (n : Nat) (a1 : Int32) (M : qM) : qR :=
  qc (f_J7_fill_53178 n 69 3 (0 : Int32) M) (fun _ m1 => ql ((m1 64 9) - (1 : Int32)) (fun x2 => f_X5_longestOf_17 n n a1 x2 m1))
set_option maxRecDepth 4000 in
theorem w_X5_longestOf {g : qG} {k : qK} (n : Nat) (j r : Nat) (hj : q_isLaw j) (hr : q_isLaw r) (o : qOk g 1 zX5_longestOf k) (a1 : Int32) (M : qM) : qAE g k zX5_longestOf (qL j r) 0 [some (.inr (some 64)), some (.inl a1), none, none, none] [] (qL j r, M) (f_X5_longestOf n a1 M) := by
  unfold f_X5_longestOf
  refine qr_aload_n o (q_dm dm_X5_longestOf 0 rfl) rfl ?_
  refine qr_getr (kf := 7) o cf_X5 (sh64 j r) rfl (Nat.le_of_ble_eq_true rfl) fl_X5_24 (q_dm dm_X5_longestOf 1 rfl) ?_
  refine qr_iconst o (q_dm dm_X5_longestOf 2 rfl) ic_0 ?_
  refine qr_calls_v (As := [.inr (some 69), .inl (0 : Int32)]) (S := []) o (a_J7_fill_53178 g k.2.1 n j r hj hr (sh69 j r) (0 : Int32) M) (Nat.le_of_ble_eq_true rfl) zs_J7_fill_53178 rfl ml_X5_142 (Nat.le_of_ble_eq_true rfl) (q_dm dm_X5_longestOf 3 rfl) (fun _ m1 => ?_)
  refine qr_iload_n o (q_dm dm_X5_longestOf 4 rfl) rfl ?_
  refine qs_istore_n (L' := [some (.inr (some 64)), some (.inl a1), some (.inl a1), none, none]) o (q_dm dm_X5_longestOf 5 rfl) (Nat.le_of_ble_eq_true rfl) rfl ?_
  refine qr_aload_n o (q_dm dm_X5_longestOf 6 rfl) rfl ?_
  refine qr_getf (kf := 9) o cf_X5 (sh64 j r) rfl (Nat.le_of_ble_eq_true rfl) fl_X5_49 (q_dm dm_X5_longestOf 7 rfl) ?_
  refine qr_iconst o (q_dm dm_X5_longestOf 8 rfl) ic_1 ?_
  refine qr_isub o (q_dm dm_X5_longestOf 9 rfl) ?_
  refine qr_lt (fun x2 => ?_)
  refine qs_istore_n (L' := [some (.inr (some 64)), some (.inl a1), some (.inl a1), some (.inl x2), none]) o (q_dm dm_X5_longestOf 10 rfl) (Nat.le_of_ble_eq_true rfl) rfl ?_
  exact qr_loc (q_leS (q_leN (q_leS (q_leS (q_leN q_le0))))) (w_X5_longestOf_17 n j r hj hr o n a1 x2 m1)

theorem a_X5_longestOf (g : qG) (l : Launch) (n : Nat) (j r : Nat) (hj : q_isLaw j) (hr : q_isLaw r) (a1 : Int32) (M : qM) : qAM g l 1 zX5_longestOf (qL j r) [.inr (some 64), .inl a1] (qL j r, M) (f_X5_longestOf n a1 M) :=
  qAM.of zv_X5_longestOf.1 (by show 2 ≤ 5; decide) (fun k hk o => w_X5_longestOf n j r hj hr o a1 M)
