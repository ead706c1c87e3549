def tb_X12_pastCounts : List (Nat × Instr × Nat) := [(0, (.iconst 0, 1)), (1, (.istore_n 3, 1)), (2, (.iconst 0, 1)), (3, (.istore 4, 2)), (5, (.iload 4, 2)), (7, (.aload_n 0, 1)), (8, (.getfield 454, 3)), (11, (.if_icmp .ge 33, 3)), (14, (.aload_n 0, 1)), (15, (.getfield 130, 3)), (18, (.iload_n 1, 1)), (19, (.iaload, 1)), (20, (.iload 4, 2)), (22, (.invokestatic 149, 3)), (25, (.ifCond .eq 13, 3)), (28, (.iload_n 3, 1)), (29, (.aload_n 0, 1)), (30, (.getfield 133, 3)), (33, (.iload 4, 2)), (35, (.iaload, 1)), (36, (.iadd, 1)), (37, (.istore_n 3, 1)), (38, (.iinc 4 1, 3)), (41, (.goto (-36), 3)), (44, (.iload_n 3, 1)), (45, (.iload_n 2, 1)), (46, (.if_icmp .lt 7, 3)), (49, (.iconst 1, 1)), (50, (.goto 4, 3)), (53, (.iconst 0, 1)), (54, (.ireturn, 1))]
theorem dm_X12_pastCounts : ∀ q ∈ tb_X12_pastCounts, decode zX12_pastCounts.2.1 q.1 = .ok q.2 := by decide +kernel
def b_X12_pastCounts_5 (n : Nat) (K5 : Int32 → Int32 → Int32 → Int32 → qM → qR) (a1 a2 a3 a4 : Int32) (M : qM) : qR :=
  (if (M 77 61) ≤ a4 then (if a3 < a2 then some ((0 : Int32), M) else some ((1 : Int32), M)) else qg a1 4 (qc (f_X12_has0 n (M 117 a1.toNatClampNeg) a4 M) (fun r1 m2 => (if r1 = (0 : Int32) then ql (a4 + (1 : Int32)) (fun x3 => K5 a1 a2 a3 x3 m2) else qg a4 4 (ql (a3 + (m2 118 a4.toNatClampNeg)) (fun x4 => ql (a4 + (1 : Int32)) (fun x5 => K5 a1 a2 x4 x5 m2)))))))
set_option maxRecDepth 4000 in
theorem wb_X12_pastCounts_5 {g : qG} {k : qK} (n : Nat) (j r : Nat) (hj : q_isLaw j) (hr : q_isLaw r) (o : qOk g 1 zX12_pastCounts k) (K5 : Int32 → Int32 → Int32 → Int32 → qM → qR) (hK5 : ∀ (a1 a2 a3 a4 : Int32) (M : qM), qAE g k zX12_pastCounts (qL j r) 5 [some (.inr (some 77)), some (.inl a1), some (.inl a2), some (.inl a3), some (.inl a4)] [] (qL j r, M) (K5 a1 a2 a3 a4 M)) (a1 a2 a3 a4 : Int32) (M : qM) : qAE g k zX12_pastCounts (qL j r) 5 [some (.inr (some 77)), some (.inl a1), some (.inl a2), some (.inl a3), some (.inl a4)] [] (qL j r, M) (b_X12_pastCounts_5 n K5 a1 a2 a3 a4 M) := by
  unfold b_X12_pastCounts_5
  refine qr_iload o (q_dm dm_X12_pastCounts 4 rfl) rfl ?_
  refine qr_aload_n o (q_dm dm_X12_pastCounts 5 rfl) rfl ?_
  refine qr_getf (kf := 61) o cf_X12 (sh77 j r) rfl (Nat.le_of_ble_eq_true rfl) fl_X12_454 (q_dm dm_X12_pastCounts 6 rfl) ?_
  refine qr_icmp_ge (tgt := 44) o (q_dm dm_X12_pastCounts 7 rfl) (by decide) ?_ ?_
  · refine qr_iload_n o (q_dm dm_X12_pastCounts 24 rfl) rfl ?_
    refine qr_iload_n o (q_dm dm_X12_pastCounts 25 rfl) rfl ?_
    refine qr_icmp_lt (tgt := 53) o (q_dm dm_X12_pastCounts 26 rfl) (by decide) ?_ ?_
    · refine qr_iconst o (q_dm dm_X12_pastCounts 29 rfl) ic_0 ?_
      exact qr_iret o rfl (by decide) (q_dm dm_X12_pastCounts 30 rfl)
    · refine qr_iconst o (q_dm dm_X12_pastCounts 27 rfl) ic_1 ?_
      refine qr_goto (tgt := 54) o (q_dm dm_X12_pastCounts 28 rfl) (by decide) ?_
      exact qr_iret o rfl (by decide) (q_dm dm_X12_pastCounts 30 rfl)
  · refine qr_aload_n o (q_dm dm_X12_pastCounts 8 rfl) rfl ?_
    refine qr_getr (kf := 63) o cf_X12 (sh77 j r) rfl (Nat.le_of_ble_eq_true rfl) fl_X12_130 (q_dm dm_X12_pastCounts 9 rfl) ?_
    refine qr_iload_n o (q_dm dm_X12_pastCounts 10 rfl) rfl ?_
    refine qr_iald o (sh117 j r) (q_dm dm_X12_pastCounts 11 rfl) ?_
    refine qr_iload o (q_dm dm_X12_pastCounts 12 rfl) rfl ?_
    refine qr_calls_i (As := [.inl (M 117 a1.toNatClampNeg), .inl a4]) (S := []) o (a_X12_has0 g k.2.1 n j r hj hr (M 117 a1.toNatClampNeg) a4 M) (Nat.le_of_ble_eq_true rfl) zs_X12_has0 rfl ml_X12_149 (Nat.le_of_ble_eq_true rfl) (q_dm dm_X12_pastCounts 13 rfl) (fun r1 m2 => ?_)
    refine qr_if_eq (tgt := 38) o (q_dm dm_X12_pastCounts 14 rfl) (by decide) ?_ ?_
    · refine qs_iincl2 (L' := fun x3 => [some (.inr (some 77)), some (.inl a1), some (.inl a2), some (.inl a3), some (.inl x3)]) o (q_dm dm_X12_pastCounts 22 rfl) rfl ic_1 (Nat.le_of_ble_eq_true rfl) (fun _ => rfl) (fun x3 => ?_)
      refine qr_goto (tgt := 5) o (q_dm dm_X12_pastCounts 23 rfl) (by decide) ?_
      exact qr_loc (q_leS (q_leS (q_leS (q_leS (q_leS q_le0))))) (hK5 a1 a2 a3 x3 m2)
    · refine qr_iload_n o (q_dm dm_X12_pastCounts 15 rfl) rfl ?_
      refine qr_aload_n o (q_dm dm_X12_pastCounts 16 rfl) rfl ?_
      refine qr_getr (kf := 64) o cf_X12 (sh77 j r) rfl (Nat.le_of_ble_eq_true rfl) fl_X12_133 (q_dm dm_X12_pastCounts 17 rfl) ?_
      refine qr_iload o (q_dm dm_X12_pastCounts 18 rfl) rfl ?_
      refine qr_iald o (sh118 j r) (q_dm dm_X12_pastCounts 19 rfl) ?_
      refine qr_iadd o (q_dm dm_X12_pastCounts 20 rfl) ?_
      refine qr_lt (fun x4 => ?_)
      refine qs_istore_n (L' := [some (.inr (some 77)), some (.inl a1), some (.inl a2), some (.inl x4), some (.inl a4)]) o (q_dm dm_X12_pastCounts 21 rfl) (Nat.le_of_ble_eq_true rfl) rfl ?_
      refine qs_iincl2 (L' := fun x5 => [some (.inr (some 77)), some (.inl a1), some (.inl a2), some (.inl x4), some (.inl x5)]) o (q_dm dm_X12_pastCounts 22 rfl) rfl ic_1 (Nat.le_of_ble_eq_true rfl) (fun _ => rfl) (fun x5 => ?_)
      refine qr_goto (tgt := 5) o (q_dm dm_X12_pastCounts 23 rfl) (by decide) ?_
      exact qr_loc (q_leS (q_leS (q_leS (q_leS (q_leS q_le0))))) (hK5 a1 a2 x4 x5 m2)

def f_X12_pastCounts_5 (n : Nat) : Nat → Int32 → Int32 → Int32 → Int32 → qM → qR
  | 0, _, _, _, _, _ => none
  | m + 1, a1, a2, a3, a4, M => b_X12_pastCounts_5 n (f_X12_pastCounts_5 n m) a1 a2 a3 a4 M
theorem w_X12_pastCounts_5 {g : qG} {k : qK} (n : Nat) (j r : Nat) (hj : q_isLaw j) (hr : q_isLaw r) (o : qOk g 1 zX12_pastCounts k) : ∀ (m : Nat) (a1 a2 a3 a4 : Int32) (M : qM), qAE g k zX12_pastCounts (qL j r) 5 [some (.inr (some 77)), some (.inl a1), some (.inl a2), some (.inl a3), some (.inl a4)] [] (qL j r, M) (f_X12_pastCounts_5 n m a1 a2 a3 a4 M) := by
  intro m
  induction m with
  | zero =>
    intro a1 a2 a3 a4 M
    exact qr_none
  | succ m ih =>
    intro a1 a2 a3 a4 M
    exact wb_X12_pastCounts_5 n j r hj hr o (f_X12_pastCounts_5 n m) ih a1 a2 a3 a4 M
def f_X12_pastCounts (n : Nat) (a1 a2 : Int32) (M : qM) : qR :=
  f_X12_pastCounts_5 n n a1 a2 (0 : Int32) (0 : Int32) M
set_option maxRecDepth 4000 in
theorem w_X12_pastCounts {g : qG} {k : qK} (n : Nat) (j r : Nat) (hj : q_isLaw j) (hr : q_isLaw r) (o : qOk g 1 zX12_pastCounts k) (a1 a2 : Int32) (M : qM) : qAE g k zX12_pastCounts (qL j r) 0 [some (.inr (some 77)), some (.inl a1), some (.inl a2), none, none] [] (qL j r, M) (f_X12_pastCounts n a1 a2 M) := by
  unfold f_X12_pastCounts
  refine qr_iconst o (q_dm dm_X12_pastCounts 0 rfl) ic_0 ?_
  refine qs_istore_n (L' := [some (.inr (some 77)), some (.inl a1), some (.inl a2), some (.inl (0 : Int32)), none]) o (q_dm dm_X12_pastCounts 1 rfl) (Nat.le_of_ble_eq_true rfl) rfl ?_
  refine qr_iconst o (q_dm dm_X12_pastCounts 2 rfl) ic_0 ?_
  refine qs_istore (L' := [some (.inr (some 77)), some (.inl a1), some (.inl a2), some (.inl (0 : Int32)), some (.inl (0 : Int32))]) o (q_dm dm_X12_pastCounts 3 rfl) (Nat.le_of_ble_eq_true rfl) rfl ?_
  exact qr_loc (q_leS (q_leS (q_leS (q_leS (q_leS q_le0))))) (w_X12_pastCounts_5 n j r hj hr o n a1 a2 (0 : Int32) (0 : Int32) M)

theorem a_X12_pastCounts (g : qG) (l : Launch) (n : Nat) (j r : Nat) (hj : q_isLaw j) (hr : q_isLaw r) (a1 a2 : Int32) (M : qM) : qAM g l 1 zX12_pastCounts (qL j r) [.inr (some 77), .inl a1, .inl a2] (qL j r, M) (f_X12_pastCounts n a1 a2 M) :=
  qAM.of zv_X12_pastCounts.1 (by show 3 ≤ 5; decide) (fun k hk o => w_X12_pastCounts n j r hj hr o a1 a2 M)
def tb_X12_goesWith : List (Nat × Instr × Nat) := [(0, (.aload_n 0, 1)), (1, (.iload_n 1, 1)), (2, (.invokevirtual 457, 3)), (5, (.iconst 0, 1)), (6, (.istore 4, 2)), (8, (.iload 4, 2)), (10, (.iload_n 2, 1)), (11, (.if_icmp .ge 78, 3)), (14, (.aload_n 0, 1)), (15, (.getfield 28, 3)), (18, (.aload_n 0, 1)), (19, (.getfield 454, 3)), (22, (.iconst 2, 1)), (23, (.iload 4, 2)), (25, (.imul, 1)), (26, (.iadd, 1)), (27, (.baload, 1)), (28, (.istore 5, 2)), (30, (.aload_n 0, 1)), (31, (.iload 5, 2)), (33, (.iload_n 3, 1)), (34, (.invokevirtual 460, 3)), (37, (.aload_n 0, 1)), (38, (.getfield 28, 3)), (41, (.aload_n 0, 1)), (42, (.getfield 454, 3)), (45, (.iconst 2, 1)), (46, (.iload 4, 2)), (48, (.imul, 1)), (49, (.iadd, 1)), (50, (.iconst 1, 1)), (51, (.iadd, 1)), (52, (.baload, 1)), (53, (.iconst 1, 1)), (54, (.if_icmp .ne 7, 3)), (57, (.iconst 1, 1)), (58, (.goto 4, 3)), (61, (.iconst 0, 1)), (62, (.if_icmp .eq 5, 3)), (65, (.iconst 0, 1)), (66, (.ireturn, 1)), (67, (.aload_n 0, 1)), (68, (.getfield 133, 3)), (71, (.iload 5, 2)), (73, (.aload_n 0, 1)), (74, (.getfield 133, 3)), (77, (.iload 5, 2)), (79, (.iaload, 1)), (80, (.iconst 1, 1)), (81, (.iadd, 1)), (82, (.iastore, 1)), (83, (.iinc 4 1, 3)), (86, (.goto (-78), 3)), (89, (.iconst 1, 1)), (90, (.ireturn, 1))]
theorem dm_X12_goesWith : ∀ q ∈ tb_X12_goesWith, decode zX12_goesWith.2.1 q.1 = .ok q.2 := by decide +kernel
def f_X12_goesWith_62 (n : Nat) (K8 : Int32 → Int32 → Int32 → qM → qR) (a2 a3 a4 a5 s0 s1 : Int32) (M : qM) : qR :=
  (if s0 = s1 then qg a5 4 (qg a5 4 (qlm (mu M 118 a5.toNatClampNeg ((M 118 a5.toNatClampNeg) + (1 : Int32))) (fun m1 => ql (a4 + (1 : Int32)) (fun x2 => K8 a2 a3 x2 m1)))) else some ((0 : Int32), M))
set_option maxRecDepth 4000 in
theorem w_X12_goesWith_62 {g : qG} {k : qK} (n : Nat) (j r : Nat) (hj : q_isLaw j) (hr : q_isLaw r) (o : qOk g 2 zX12_goesWith k) (K8 : Int32 → Int32 → Int32 → qM → qR) (hK8 : ∀ (a2 a3 a4 : Int32) (M : qM), qAE g k zX12_goesWith (qL j r) 8 [some (.inr (some 77)), none, some (.inl a2), some (.inl a3), some (.inl a4), none] [] (qL j r, M) (K8 a2 a3 a4 M)) (a2 a3 a4 a5 s0 s1 : Int32) (M : qM) : qAE g k zX12_goesWith (qL j r) 62 [some (.inr (some 77)), none, some (.inl a2), some (.inl a3), some (.inl a4), some (.inl a5)] [.inl s1, .inl s0] (qL j r, M) (f_X12_goesWith_62 n K8 a2 a3 a4 a5 s0 s1 M) := by
  unfold f_X12_goesWith_62
  refine qr_icmp_eq (tgt := 67) o (q_dm dm_X12_goesWith 38 rfl) (by decide) ?_ ?_
  · refine qr_aload_n o (q_dm dm_X12_goesWith 41 rfl) rfl ?_
    refine qr_getr (kf := 64) o cf_X12 (sh77 j r) rfl (Nat.le_of_ble_eq_true rfl) fl_X12_133 (q_dm dm_X12_goesWith 42 rfl) ?_
    refine qr_iload o (q_dm dm_X12_goesWith 43 rfl) rfl ?_
    refine qr_aload_n o (q_dm dm_X12_goesWith 44 rfl) rfl ?_
    refine qr_getr (kf := 64) o cf_X12 (sh77 j r) rfl (Nat.le_of_ble_eq_true rfl) fl_X12_133 (q_dm dm_X12_goesWith 45 rfl) ?_
    refine qr_iload o (q_dm dm_X12_goesWith 46 rfl) rfl ?_
    refine qr_iald o (sh118 j r) (q_dm dm_X12_goesWith 47 rfl) ?_
    refine qr_iconst o (q_dm dm_X12_goesWith 48 rfl) ic_1 ?_
    refine qr_iadd o (q_dm dm_X12_goesWith 49 rfl) ?_
    refine qr_iast o (sh118 j r) (q_dm dm_X12_goesWith 50 rfl) ?_
    refine qr_letm (fun m1 => ?_)
    refine qs_iincl2 (L' := fun x2 => [some (.inr (some 77)), none, some (.inl a2), some (.inl a3), some (.inl x2), some (.inl a5)]) o (q_dm dm_X12_goesWith 51 rfl) rfl ic_1 (Nat.le_of_ble_eq_true rfl) (fun _ => rfl) (fun x2 => ?_)
    refine qr_goto (tgt := 8) o (q_dm dm_X12_goesWith 52 rfl) (by decide) ?_
    exact qr_loc (q_leS (q_leN (q_leS (q_leS (q_leS (q_leN q_le0)))))) (hK8 a2 a3 x2 m1)
  · refine qr_iconst o (q_dm dm_X12_goesWith 39 rfl) ic_0 ?_
    exact qr_iret o rfl (by decide) (q_dm dm_X12_goesWith 40 rfl)

def b_X12_goesWith_8 (n : Nat) (K8 : Int32 → Int32 → Int32 → qM → qR) (a2 a3 a4 : Int32) (M : qM) : qR :=
  (if a2 ≤ a4 then some ((1 : Int32), M) else qg ((M 77 61) + ((2 : Int32) * a4)) 260 (ql (M 84 ((M 77 61) + ((2 : Int32) * a4)).toNatClampNeg) (fun x1 => qc (f_X12_pastCounts n x1 a3 M) (fun r2 m3 => qg (((m3 77 61) + ((2 : Int32) * a4)) + (1 : Int32)) 260 ((if (m3 84 (((m3 77 61) + ((2 : Int32) * a4)) + (1 : Int32)).toNatClampNeg) = (1 : Int32) then f_X12_goesWith_62 n K8 a2 a3 a4 x1 r2 (1 : Int32) m3 else f_X12_goesWith_62 n K8 a2 a3 a4 x1 r2 (0 : Int32) m3))))))
set_option maxRecDepth 4000 in
theorem wb_X12_goesWith_8 {g : qG} {k : qK} (n : Nat) (j r : Nat) (hj : q_isLaw j) (hr : q_isLaw r) (o : qOk g 2 zX12_goesWith k) (K8 : Int32 → Int32 → Int32 → qM → qR) (hK8 : ∀ (a2 a3 a4 : Int32) (M : qM), qAE g k zX12_goesWith (qL j r) 8 [some (.inr (some 77)), none, some (.inl a2), some (.inl a3), some (.inl a4), none] [] (qL j r, M) (K8 a2 a3 a4 M)) (a2 a3 a4 : Int32) (M : qM) : qAE g k zX12_goesWith (qL j r) 8 [some (.inr (some 77)), none, some (.inl a2), some (.inl a3), some (.inl a4), none] [] (qL j r, M) (b_X12_goesWith_8 n K8 a2 a3 a4 M) := by
  unfold b_X12_goesWith_8
  refine qr_iload o (q_dm dm_X12_goesWith 5 rfl) rfl ?_
  refine qr_iload_n o (q_dm dm_X12_goesWith 6 rfl) rfl ?_
  refine qr_icmp_ge (tgt := 89) o (q_dm dm_X12_goesWith 7 rfl) (by decide) ?_ ?_
  · refine qr_iconst o (q_dm dm_X12_goesWith 53 rfl) ic_1 ?_
    exact qr_iret o rfl (by decide) (q_dm dm_X12_goesWith 54 rfl)
  · refine qr_aload_n o (q_dm dm_X12_goesWith 8 rfl) rfl ?_
    refine qr_getr (kf := 7) o cf_X12 (sh77 j r) rfl (Nat.le_of_ble_eq_true rfl) fl_X12_28 (q_dm dm_X12_goesWith 9 rfl) ?_
    refine qr_aload_n o (q_dm dm_X12_goesWith 10 rfl) rfl ?_
    refine qr_getf (kf := 61) o cf_X12 (sh77 j r) rfl (Nat.le_of_ble_eq_true rfl) fl_X12_454 (q_dm dm_X12_goesWith 11 rfl) ?_
    refine qr_iconst o (q_dm dm_X12_goesWith 12 rfl) ic_2 ?_
    refine qr_iload o (q_dm dm_X12_goesWith 13 rfl) rfl ?_
    refine qr_imul o (q_dm dm_X12_goesWith 14 rfl) ?_
    refine qr_iadd o (q_dm dm_X12_goesWith 15 rfl) ?_
    refine qr_bald o (sh84 j r) (q_dm dm_X12_goesWith 16 rfl) ?_
    refine qr_lt (fun x1 => ?_)
    refine qs_istore (L' := [some (.inr (some 77)), none, some (.inl a2), some (.inl a3), some (.inl a4), some (.inl x1)]) o (q_dm dm_X12_goesWith 17 rfl) (Nat.le_of_ble_eq_true rfl) rfl ?_
    refine qr_aload_n o (q_dm dm_X12_goesWith 18 rfl) rfl ?_
    refine qr_iload o (q_dm dm_X12_goesWith 19 rfl) rfl ?_
    refine qr_iload_n o (q_dm dm_X12_goesWith 20 rfl) rfl ?_
    refine qr_callv_i (As := [.inl x1, .inl a3]) (S := []) o (a_X12_pastCounts g k.2.1 n j r hj hr x1 a3 M) (Nat.le_of_ble_eq_true rfl) zv_X12_pastCounts rfl cf_X12 (sh77 j r) ml_X12_460 (Nat.le_of_ble_eq_true rfl) (q_dm dm_X12_goesWith 21 rfl) (fun r2 m3 => ?_)
    refine qr_aload_n o (q_dm dm_X12_goesWith 22 rfl) rfl ?_
    refine qr_getr (kf := 7) o cf_X12 (sh77 j r) rfl (Nat.le_of_ble_eq_true rfl) fl_X12_28 (q_dm dm_X12_goesWith 23 rfl) ?_
    refine qr_aload_n o (q_dm dm_X12_goesWith 24 rfl) rfl ?_
    refine qr_getf (kf := 61) o cf_X12 (sh77 j r) rfl (Nat.le_of_ble_eq_true rfl) fl_X12_454 (q_dm dm_X12_goesWith 25 rfl) ?_
    refine qr_iconst o (q_dm dm_X12_goesWith 26 rfl) ic_2 ?_
    refine qr_iload o (q_dm dm_X12_goesWith 27 rfl) rfl ?_
    refine qr_imul o (q_dm dm_X12_goesWith 28 rfl) ?_
    refine qr_iadd o (q_dm dm_X12_goesWith 29 rfl) ?_
    refine qr_iconst o (q_dm dm_X12_goesWith 30 rfl) ic_1 ?_
    refine qr_iadd o (q_dm dm_X12_goesWith 31 rfl) ?_
    refine qr_bald o (sh84 j r) (q_dm dm_X12_goesWith 32 rfl) ?_
    refine qr_iconst o (q_dm dm_X12_goesWith 33 rfl) ic_1 ?_
    refine qr_icmp_ne (tgt := 61) o (q_dm dm_X12_goesWith 34 rfl) (by decide) ?_ ?_
    · refine qr_iconst o (q_dm dm_X12_goesWith 37 rfl) ic_0 ?_
      exact qr_loc (q_leS (q_leN (q_leS (q_leS (q_leS (q_leS q_le0)))))) (w_X12_goesWith_62 n j r hj hr o K8 hK8 a2 a3 a4 x1 r2 (0 : Int32) m3)
    · refine qr_iconst o (q_dm dm_X12_goesWith 35 rfl) ic_1 ?_
      refine qr_goto (tgt := 62) o (q_dm dm_X12_goesWith 36 rfl) (by decide) ?_
      exact qr_loc (q_leS (q_leN (q_leS (q_leS (q_leS (q_leS q_le0)))))) (w_X12_goesWith_62 n j r hj hr o K8 hK8 a2 a3 a4 x1 r2 (1 : Int32) m3)

def f_X12_goesWith_8 (n : Nat) : Nat → Int32 → Int32 → Int32 → qM → qR
  | 0, _, _, _, _ => none
  | m + 1, a2, a3, a4, M => b_X12_goesWith_8 n (f_X12_goesWith_8 n m) a2 a3 a4 M
theorem w_X12_goesWith_8 {g : qG} {k : qK} (n : Nat) (j r : Nat) (hj : q_isLaw j) (hr : q_isLaw r) (o : qOk g 2 zX12_goesWith k) : ∀ (m : Nat) (a2 a3 a4 : Int32) (M : qM), qAE g k zX12_goesWith (qL j r) 8 [some (.inr (some 77)), none, some (.inl a2), some (.inl a3), some (.inl a4), none] [] (qL j r, M) (f_X12_goesWith_8 n m a2 a3 a4 M) := by
  intro m
  induction m with
  | zero =>
    intro a2 a3 a4 M
    exact qr_none
  | succ m ih =>
    intro a2 a3 a4 M
    exact wb_X12_goesWith_8 n j r hj hr o (f_X12_goesWith_8 n m) ih a2 a3 a4 M
def f_X12_goesWith (n : Nat) (a1 a2 a3 : Int32) (M : qM) : qR :=
  qc (f_X12_begins n a1 M) (fun _ m1 => f_X12_goesWith_8 n n a2 a3 (0 : Int32) m1)
set_option maxRecDepth 4000 in
theorem w_X12_goesWith {g : qG} {k : qK} (n : Nat) (j r : Nat) (hj : q_isLaw j) (hr : q_isLaw r) (o : qOk g 2 zX12_goesWith k) (a1 a2 a3 : Int32) (M : qM) : qAE g k zX12_goesWith (qL j r) 0 [some (.inr (some 77)), some (.inl a1), some (.inl a2), some (.inl a3), none, none] [] (qL j r, M) (f_X12_goesWith n a1 a2 a3 M) := by
  unfold f_X12_goesWith
  refine qr_aload_n o (q_dm dm_X12_goesWith 0 rfl) rfl ?_
  refine qr_iload_n o (q_dm dm_X12_goesWith 1 rfl) rfl ?_
  refine qr_callv_v (As := [.inl a1]) (S := []) o (a_X12_begins g k.2.1 n j r hj hr a1 M) (Nat.le_of_ble_eq_true rfl) zv_X12_begins rfl cf_X12 (sh77 j r) ml_X12_457 (Nat.le_of_ble_eq_true rfl) (q_dm dm_X12_goesWith 2 rfl) (fun _ m1 => ?_)
  refine qr_iconst o (q_dm dm_X12_goesWith 3 rfl) ic_0 ?_
  refine qs_istore (L' := [some (.inr (some 77)), some (.inl a1), some (.inl a2), some (.inl a3), some (.inl (0 : Int32)), none]) o (q_dm dm_X12_goesWith 4 rfl) (Nat.le_of_ble_eq_true rfl) rfl ?_
  exact qr_loc (q_leS (q_leN (q_leS (q_leS (q_leS (q_leN q_le0)))))) (w_X12_goesWith_8 n j r hj hr o n a2 a3 (0 : Int32) m1)

theorem a_X12_goesWith (g : qG) (l : Launch) (n : Nat) (j r : Nat) (hj : q_isLaw j) (hr : q_isLaw r) (a1 a2 a3 : Int32) (M : qM) : qAM g l 2 zX12_goesWith (qL j r) [.inr (some 77), .inl a1, .inl a2, .inl a3] (qL j r, M) (f_X12_goesWith n a1 a2 a3 M) :=
  qAM.of zv_X12_goesWith.1 (by show 4 ≤ 6; decide) (fun k hk o => w_X12_goesWith n j r hj hr o a1 a2 a3 M)
def tb_X12_max : List (Nat × Instr × Nat) := [(0, (.iload_n 0, 1)), (1, (.iload_n 1, 1)), (2, (.if_icmp .le 7, 3)), (5, (.iload_n 0, 1)), (6, (.goto 4, 3)), (9, (.iload_n 1, 1)), (10, (.ireturn, 1))]
theorem dm_X12_max : ∀ q ∈ tb_X12_max, decode zX12_max.2.1 q.1 = .ok q.2 := by decide +kernel
def f_X12_max (n : Nat) (a0 a1 : Int32) (M : qM) : qR :=
  (if a0 ≤ a1 then some (a1, M) else some (a0, M))
set_option maxRecDepth 4000 in
theorem w_X12_max {g : qG} {k : qK} (n : Nat) (j r : Nat) (hj : q_isLaw j) (hr : q_isLaw r) (o : qOk g 0 zX12_max k) (a0 a1 : Int32) (M : qM) : qAE g k zX12_max (qL j r) 0 [some (.inl a0), some (.inl a1)] [] (qL j r, M) (f_X12_max n a0 a1 M) := by
  unfold f_X12_max
  refine qr_iload_n o (q_dm dm_X12_max 0 rfl) rfl ?_
  refine qr_iload_n o (q_dm dm_X12_max 1 rfl) rfl ?_
  refine qr_icmp_le (tgt := 9) o (q_dm dm_X12_max 2 rfl) (by decide) ?_ ?_
  · refine qr_iload_n o (q_dm dm_X12_max 5 rfl) rfl ?_
    exact qr_iret o rfl rfl (q_dm dm_X12_max 6 rfl)
  · refine qr_iload_n o (q_dm dm_X12_max 3 rfl) rfl ?_
    refine qr_goto (tgt := 10) o (q_dm dm_X12_max 4 rfl) (by decide) ?_
    exact qr_iret o rfl rfl (q_dm dm_X12_max 6 rfl)

theorem a_X12_max (g : qG) (l : Launch) (n : Nat) (j r : Nat) (hj : q_isLaw j) (hr : q_isLaw r) (a0 a1 : Int32) (M : qM) : qAM g l 0 zX12_max (qL j r) [.inl a0, .inl a1] (qL j r, M) (f_X12_max n a0 a1 M) :=
  qAM.of zs_X12_max.1 (by show 2 ≤ 2; decide) (fun k hk o => w_X12_max n j r hj hr o a0 a1 M)
def tb_X12_greaterBy : List (Nat × Instr × Nat) := [(0, (.iconst 0, 1)), (1, (.istore 5, 2)), (3, (.iconst 0, 1)), (4, (.istore 6, 2)), (6, (.iconst 0, 1)), (7, (.istore 7, 2)), (9, (.iload 7, 2)), (11, (.iload_n 2, 1)), (12, (.if_icmp .ge 58, 3)), (15, (.aload_n 0, 1)), (16, (.getfield 136, 3)), (19, (.iload 7, 2)), (21, (.baload, 1)), (22, (.ifCond .ne 6, 3)), (25, (.goto 39, 3)), (28, (.aload_n 0, 1)), (29, (.iload 7, 2)), (31, (.iload_n 3, 1)), (32, (.iload 4, 2)), (34, (.invokevirtual 463, 3)), (37, (.pop, 1)), (38, (.iload 6, 2)), (40, (.iconst 1, 1)), (41, (.iadd, 1)), (42, (.istore 6, 2)), (44, (.iload 5, 2)), (46, (.aload_n 0, 1)), (47, (.iload_n 1, 1)), (48, (.iload 4, 2)), (50, (.invokevirtual 460, 3)), (53, (.ifCond .eq 7, 3)), (56, (.iconst 1, 1)), (57, (.goto 4, 3)), (60, (.iconst 0, 1)), (61, (.iadd, 1)), (62, (.istore 5, 2)), (64, (.iinc 7 1, 3)), (67, (.goto (-58), 3)), (70, (.iload 5, 2)), (72, (.iload 6, 2)), (74, (.iload 5, 2)), (76, (.isub, 1)), (77, (.invokestatic 441, 3)), (80, (.ireturn, 1))]
theorem dm_X12_greaterBy : ∀ q ∈ tb_X12_greaterBy, decode zX12_greaterBy.2.1 q.1 = .ok q.2 := by decide +kernel
def f_X12_greaterBy_61 (n : Nat) (K9 : Int32 → Int32 → Int32 → Int32 → Int32 → Int32 → Int32 → qM → qR) (a1 a2 a3 a4 a6 a7 s0 s1 : Int32) (M : qM) : qR :=
  ql (s0 + s1) (fun x1 => ql (a7 + (1 : Int32)) (fun x2 => K9 a1 a2 a3 a4 x1 a6 x2 M))
set_option maxRecDepth 4000 in
theorem w_X12_greaterBy_61 {g : qG} {k : qK} (n : Nat) (j r : Nat) (hj : q_isLaw j) (hr : q_isLaw r) (o : qOk g 3 zX12_greaterBy k) (K9 : Int32 → Int32 → Int32 → Int32 → Int32 → Int32 → Int32 → qM → qR) (hK9 : ∀ (a1 a2 a3 a4 a5 a6 a7 : Int32) (M : qM), qAE g k zX12_greaterBy (qL j r) 9 [some (.inr (some 77)), some (.inl a1), some (.inl a2), some (.inl a3), some (.inl a4), some (.inl a5), some (.inl a6), some (.inl a7)] [] (qL j r, M) (K9 a1 a2 a3 a4 a5 a6 a7 M)) (a1 a2 a3 a4 a6 a7 s0 s1 : Int32) (M : qM) : qAE g k zX12_greaterBy (qL j r) 61 [some (.inr (some 77)), some (.inl a1), some (.inl a2), some (.inl a3), some (.inl a4), none, some (.inl a6), some (.inl a7)] [.inl s1, .inl s0] (qL j r, M) (f_X12_greaterBy_61 n K9 a1 a2 a3 a4 a6 a7 s0 s1 M) := by
  unfold f_X12_greaterBy_61
  refine qr_iadd o (q_dm dm_X12_greaterBy 34 rfl) ?_
  refine qr_lt (fun x1 => ?_)
  refine qs_istore (L' := [some (.inr (some 77)), some (.inl a1), some (.inl a2), some (.inl a3), some (.inl a4), some (.inl x1), some (.inl a6), some (.inl a7)]) o (q_dm dm_X12_greaterBy 35 rfl) (Nat.le_of_ble_eq_true rfl) rfl ?_
  refine qs_iincl2 (L' := fun x2 => [some (.inr (some 77)), some (.inl a1), some (.inl a2), some (.inl a3), some (.inl a4), some (.inl x1), some (.inl a6), some (.inl x2)]) o (q_dm dm_X12_greaterBy 36 rfl) rfl ic_1 (Nat.le_of_ble_eq_true rfl) (fun _ => rfl) (fun x2 => ?_)
  refine qr_goto (tgt := 9) o (q_dm dm_X12_greaterBy 37 rfl) (by decide) ?_
  exact qr_loc (q_leS (q_leS (q_leS (q_leS (q_leS (q_leS (q_leS (q_leS q_le0)))))))) (hK9 a1 a2 a3 a4 x1 a6 x2 M)

def b_X12_greaterBy_9 (n : Nat) (K9 : Int32 → Int32 → Int32 → Int32 → Int32 → Int32 → Int32 → qM → qR) (a1 a2 a3 a4 a5 a6 a7 : Int32) (M : qM) : qR :=
  (if a2 ≤ a7 then qc (f_X12_max n a5 (a6 - a5) M) (fun r1 m2 => some (r1, m2)) else qg a7 256 ((if (M 119 a7.toNatClampNeg) = (0 : Int32) then ql (a7 + (1 : Int32)) (fun x8 => K9 a1 a2 a3 a4 a5 a6 x8 M) else qc (f_X12_goesWith n a7 a3 a4 M) (fun r3 m4 => ql (a6 + (1 : Int32)) (fun x5 => qc (f_X12_pastCounts n a1 a4 m4) (fun r6 m7 => (if r6 = (0 : Int32) then f_X12_greaterBy_61 n K9 a1 a2 a3 a4 x5 a7 a5 (0 : Int32) m7 else f_X12_greaterBy_61 n K9 a1 a2 a3 a4 x5 a7 a5 (1 : Int32) m7)))))))
set_option maxRecDepth 4000 in
theorem wb_X12_greaterBy_9 {g : qG} {k : qK} (n : Nat) (j r : Nat) (hj : q_isLaw j) (hr : q_isLaw r) (o : qOk g 3 zX12_greaterBy k) (K9 : Int32 → Int32 → Int32 → Int32 → Int32 → Int32 → Int32 → qM → qR) (hK9 : ∀ (a1 a2 a3 a4 a5 a6 a7 : Int32) (M : qM), qAE g k zX12_greaterBy (qL j r) 9 [some (.inr (some 77)), some (.inl a1), some (.inl a2), some (.inl a3), some (.inl a4), some (.inl a5), some (.inl a6), some (.inl a7)] [] (qL j r, M) (K9 a1 a2 a3 a4 a5 a6 a7 M)) (a1 a2 a3 a4 a5 a6 a7 : Int32) (M : qM) : qAE g k zX12_greaterBy (qL j r) 9 [some (.inr (some 77)), some (.inl a1), some (.inl a2), some (.inl a3), some (.inl a4), some (.inl a5), some (.inl a6), some (.inl a7)] [] (qL j r, M) (b_X12_greaterBy_9 n K9 a1 a2 a3 a4 a5 a6 a7 M) := by
  unfold b_X12_greaterBy_9
  refine qr_iload o (q_dm dm_X12_greaterBy 6 rfl) rfl ?_
  refine qr_iload_n o (q_dm dm_X12_greaterBy 7 rfl) rfl ?_
  refine qr_icmp_ge (tgt := 70) o (q_dm dm_X12_greaterBy 8 rfl) (by decide) ?_ ?_
  · refine qr_iload o (q_dm dm_X12_greaterBy 38 rfl) rfl ?_
    refine qr_iload o (q_dm dm_X12_greaterBy 39 rfl) rfl ?_
    refine qr_iload o (q_dm dm_X12_greaterBy 40 rfl) rfl ?_
    refine qr_isub o (q_dm dm_X12_greaterBy 41 rfl) ?_
    refine qr_calls_i (As := [.inl a5, .inl (a6 - a5)]) (S := []) o (a_X12_max g k.2.1 n j r hj hr a5 (a6 - a5) M) (Nat.le_of_ble_eq_true rfl) zs_X12_max rfl ml_X12_441 (Nat.le_of_ble_eq_true rfl) (q_dm dm_X12_greaterBy 42 rfl) (fun r1 m2 => ?_)
    exact qr_iret o rfl rfl (q_dm dm_X12_greaterBy 43 rfl)
  · refine qr_aload_n o (q_dm dm_X12_greaterBy 9 rfl) rfl ?_
    refine qr_getr (kf := 65) o cf_X12 (sh77 j r) rfl (Nat.le_of_ble_eq_true rfl) fl_X12_136 (q_dm dm_X12_greaterBy 10 rfl) ?_
    refine qr_iload o (q_dm dm_X12_greaterBy 11 rfl) rfl ?_
    refine qr_zald o (sh119 j r) (q_dm dm_X12_greaterBy 12 rfl) ?_
    refine qr_if_ne (tgt := 28) o (q_dm dm_X12_greaterBy 13 rfl) (by decide) ?_ ?_
    · refine qr_aload_n o (q_dm dm_X12_greaterBy 15 rfl) rfl ?_
      refine qr_iload o (q_dm dm_X12_greaterBy 16 rfl) rfl ?_
      refine qr_iload_n o (q_dm dm_X12_greaterBy 17 rfl) rfl ?_
      refine qr_iload o (q_dm dm_X12_greaterBy 18 rfl) rfl ?_
      refine qr_callv_i (As := [.inl a7, .inl a3, .inl a4]) (S := []) o (a_X12_goesWith g k.2.1 n j r hj hr a7 a3 a4 M) (Nat.le_of_ble_eq_true rfl) zv_X12_goesWith rfl cf_X12 (sh77 j r) ml_X12_463 (Nat.le_of_ble_eq_true rfl) (q_dm dm_X12_greaterBy 19 rfl) (fun r3 m4 => ?_)
      refine qr_pop o (q_dm dm_X12_greaterBy 20 rfl) ?_
      refine qr_iload o (q_dm dm_X12_greaterBy 21 rfl) rfl ?_
      refine qr_iconst o (q_dm dm_X12_greaterBy 22 rfl) ic_1 ?_
      refine qr_iadd o (q_dm dm_X12_greaterBy 23 rfl) ?_
      refine qr_lt (fun x5 => ?_)
      refine qs_istore (L' := [some (.inr (some 77)), some (.inl a1), some (.inl a2), some (.inl a3), some (.inl a4), some (.inl a5), some (.inl x5), some (.inl a7)]) o (q_dm dm_X12_greaterBy 24 rfl) (Nat.le_of_ble_eq_true rfl) rfl ?_
      refine qr_iload o (q_dm dm_X12_greaterBy 25 rfl) rfl ?_
      refine qr_aload_n o (q_dm dm_X12_greaterBy 26 rfl) rfl ?_
      refine qr_iload_n o (q_dm dm_X12_greaterBy 27 rfl) rfl ?_
      refine qr_iload o (q_dm dm_X12_greaterBy 28 rfl) rfl ?_
      refine qr_callv_i (As := [.inl a1, .inl a4]) (S := [.inl a5]) o (a_X12_pastCounts g k.2.1 n j r hj hr a1 a4 m4) (Nat.le_of_ble_eq_true rfl) zv_X12_pastCounts rfl cf_X12 (sh77 j r) ml_X12_460 (Nat.le_of_ble_eq_true rfl) (q_dm dm_X12_greaterBy 29 rfl) (fun r6 m7 => ?_)
      refine qr_if_eq (tgt := 60) o (q_dm dm_X12_greaterBy 30 rfl) (by decide) ?_ ?_
      · refine qr_iconst o (q_dm dm_X12_greaterBy 33 rfl) ic_0 ?_
        exact qr_loc (q_leS (q_leS (q_leS (q_leS (q_leS (q_leN (q_leS (q_leS q_le0)))))))) (w_X12_greaterBy_61 n j r hj hr o K9 hK9 a1 a2 a3 a4 x5 a7 a5 (0 : Int32) m7)
      · refine qr_iconst o (q_dm dm_X12_greaterBy 31 rfl) ic_1 ?_
        refine qr_goto (tgt := 61) o (q_dm dm_X12_greaterBy 32 rfl) (by decide) ?_
        exact qr_loc (q_leS (q_leS (q_leS (q_leS (q_leS (q_leN (q_leS (q_leS q_le0)))))))) (w_X12_greaterBy_61 n j r hj hr o K9 hK9 a1 a2 a3 a4 x5 a7 a5 (1 : Int32) m7)
    · refine qr_goto (tgt := 64) o (q_dm dm_X12_greaterBy 14 rfl) (by decide) ?_
      refine qs_iincl2 (L' := fun x8 => [some (.inr (some 77)), some (.inl a1), some (.inl a2), some (.inl a3), some (.inl a4), some (.inl a5), some (.inl a6), some (.inl x8)]) o (q_dm dm_X12_greaterBy 36 rfl) rfl ic_1 (Nat.le_of_ble_eq_true rfl) (fun _ => rfl) (fun x8 => ?_)
      refine qr_goto (tgt := 9) o (q_dm dm_X12_greaterBy 37 rfl) (by decide) ?_
      exact qr_loc (q_leS (q_leS (q_leS (q_leS (q_leS (q_leS (q_leS (q_leS q_le0)))))))) (hK9 a1 a2 a3 a4 a5 a6 x8 M)

def f_X12_greaterBy_9 (n : Nat) : Nat → Int32 → Int32 → Int32 → Int32 → Int32 → Int32 → Int32 → qM → qR
  | 0, _, _, _, _, _, _, _, _ => none
  | m + 1, a1, a2, a3, a4, a5, a6, a7, M => b_X12_greaterBy_9 n (f_X12_greaterBy_9 n m) a1 a2 a3 a4 a5 a6 a7 M
theorem w_X12_greaterBy_9 {g : qG} {k : qK} (n : Nat) (j r : Nat) (hj : q_isLaw j) (hr : q_isLaw r) (o : qOk g 3 zX12_greaterBy k) : ∀ (m : Nat) (a1 a2 a3 a4 a5 a6 a7 : Int32) (M : qM), qAE g k zX12_greaterBy (qL j r) 9 [some (.inr (some 77)), some (.inl a1), some (.inl a2), some (.inl a3), some (.inl a4), some (.inl a5), some (.inl a6), some (.inl a7)] [] (qL j r, M) (f_X12_greaterBy_9 n m a1 a2 a3 a4 a5 a6 a7 M) := by
  intro m
  induction m with
  | zero =>
    intro a1 a2 a3 a4 a5 a6 a7 M
    exact qr_none
  | succ m ih =>
    intro a1 a2 a3 a4 a5 a6 a7 M
    exact wb_X12_greaterBy_9 n j r hj hr o (f_X12_greaterBy_9 n m) ih a1 a2 a3 a4 a5 a6 a7 M
def f_X12_greaterBy (n : Nat) (a1 a2 a3 a4 : Int32) (M : qM) : qR :=
  f_X12_greaterBy_9 n n a1 a2 a3 a4 (0 : Int32) (0 : Int32) (0 : Int32) M
set_option maxRecDepth 4000 in
theorem w_X12_greaterBy {g : qG} {k : qK} (n : Nat) (j r : Nat) (hj : q_isLaw j) (hr : q_isLaw r) (o : qOk g 3 zX12_greaterBy k) (a1 a2 a3 a4 : Int32) (M : qM) : qAE g k zX12_greaterBy (qL j r) 0 [some (.inr (some 77)), some (.inl a1), some (.inl a2), some (.inl a3), some (.inl a4), none, none, none] [] (qL j r, M) (f_X12_greaterBy n a1 a2 a3 a4 M) := by
  unfold f_X12_greaterBy
  refine qr_iconst o (q_dm dm_X12_greaterBy 0 rfl) ic_0 ?_
  refine qs_istore (L' := [some (.inr (some 77)), some (.inl a1), some (.inl a2), some (.inl a3), some (.inl a4), some (.inl (0 : Int32)), none, none]) o (q_dm dm_X12_greaterBy 1 rfl) (Nat.le_of_ble_eq_true rfl) rfl ?_
  refine qr_iconst o (q_dm dm_X12_greaterBy 2 rfl) ic_0 ?_
  refine qs_istore (L' := [some (.inr (some 77)), some (.inl a1), some (.inl a2), some (.inl a3), some (.inl a4), some (.inl (0 : Int32)), some (.inl (0 : Int32)), none]) o (q_dm dm_X12_greaterBy 3 rfl) (Nat.le_of_ble_eq_true rfl) rfl ?_
  refine qr_iconst o (q_dm dm_X12_greaterBy 4 rfl) ic_0 ?_
  refine qs_istore (L' := [some (.inr (some 77)), some (.inl a1), some (.inl a2), some (.inl a3), some (.inl a4), some (.inl (0 : Int32)), some (.inl (0 : Int32)), some (.inl (0 : Int32))]) o (q_dm dm_X12_greaterBy 5 rfl) (Nat.le_of_ble_eq_true rfl) rfl ?_
  exact qr_loc (q_leS (q_leS (q_leS (q_leS (q_leS (q_leS (q_leS (q_leS q_le0)))))))) (w_X12_greaterBy_9 n j r hj hr o n a1 a2 a3 a4 (0 : Int32) (0 : Int32) (0 : Int32) M)

theorem a_X12_greaterBy (g : qG) (l : Launch) (n : Nat) (j r : Nat) (hj : q_isLaw j) (hr : q_isLaw r) (a1 a2 a3 a4 : Int32) (M : qM) : qAM g l 3 zX12_greaterBy (qL j r) [.inr (some 77), .inl a1, .inl a2, .inl a3, .inl a4] (qL j r, M) (f_X12_greaterBy n a1 a2 a3 a4 M) :=
  qAM.of zv_X12_greaterBy.1 (by show 5 ≤ 8; decide) (fun k hk o => w_X12_greaterBy n j r hj hr o a1 a2 a3 a4 M)
def tb_X12_has : List (Nat × Instr × Nat) := [(0, (.aload_n 0, 1)), (1, (.iload_n 1, 1)), (2, (.invokevirtual 310, 3)), (5, (.ifCond .eq 20, 3)), (8, (.aload_n 0, 1)), (9, (.iload_n 2, 1)), (10, (.invokevirtual 157, 3)), (13, (.ifCond .eq 12, 3)), (16, (.iload_n 3, 1)), (17, (.iconst 0, 1)), (18, (.iconst 5, 1)), (19, (.invokestatic 153, 3)), (22, (.ifCond .ne 5, 3)), (25, (.iconst (-1), 1)), (26, (.ireturn, 1)), (27, (.iload_n 1, 1)), (28, (.iload_n 2, 1)), (29, (.invokestatic 282, 3)), (32, (.istore 4, 2)), (34, (.iload_n 3, 1)), (35, (.ifCond .ne 13, 3)), (38, (.aload_n 0, 1)), (39, (.getfield 7, 3)), (42, (.iconst 0, 1)), (43, (.iload 4, 2)), (45, (.iadd, 1)), (46, (.iaload, 1)), (47, (.ireturn, 1)), (48, (.iload_n 3, 1)), (49, (.iconst 1, 1)), (50, (.if_icmp .ne 15, 3)), (53, (.aload_n 0, 1)), (54, (.getfield 7, 3)), (57, (.sipush 192, 3)), (60, (.iload 4, 2)), (62, (.iadd, 1)), (63, (.iaload, 1)), (64, (.ireturn, 1)), (65, (.iload_n 3, 1)), (66, (.iconst 2, 1)), (67, (.if_icmp .ne 14, 3)), (70, (.aload_n 0, 1)), (71, (.getfield 7, 3)), (74, (.bipush 96, 2)), (76, (.iload 4, 2)), (78, (.iadd, 1)), (79, (.iaload, 1)), (80, (.ireturn, 1)), (81, (.aload_n 0, 1)), (82, (.getfield 7, 3)), (85, (.aload_n 0, 1)), (86, (.getfield 13, 3)), (89, (.invokestatic 319, 3)), (92, (.aload_n 0, 1)), (93, (.iload_n 1, 1)), (94, (.iload_n 2, 1)), (95, (.invokevirtual 295, 3)), (98, (.aload_n 0, 1)), (99, (.iload_n 1, 1)), (100, (.iload_n 2, 1)), (101, (.invokevirtual 298, 3)), (104, (.istore 5, 2)), (106, (.aload_n 0, 1)), (107, (.iload_n 1, 1)), (108, (.iload_n 2, 1)), (109, (.bipush 8, 2)), (111, (.invokevirtual 301, 3)), (114, (.istore 6, 2)), (116, (.iload 5, 2)), (118, (.iload 6, 2)), (120, (.if_icmp .lt 16, 3)), (123, (.aload_n 0, 1)), (124, (.iload_n 1, 1)), (125, (.iload_n 2, 1)), (126, (.invokevirtual 304, 3)), (129, (.ifCond .eq 7, 3)), (132, (.iconst 1, 1)), (133, (.goto 4, 3)), (136, (.iconst 0, 1)), (137, (.istore 7, 2)), (139, (.aload_n 0, 1)), (140, (.getfield 13, 3)), (143, (.aload_n 0, 1)), (144, (.getfield 7, 3)), (147, (.invokestatic 319, 3)), (150, (.iload_n 3, 1)), (151, (.iconst 3, 1)), (152, (.if_icmp .ne 8, 3)), (155, (.iload 5, 2)), (157, (.goto 23, 3)), (160, (.iload_n 3, 1)), (161, (.iconst 4, 1)), (162, (.if_icmp .ne 8, 3)), (165, (.iload 6, 2)), (167, (.goto 13, 3)), (170, (.iload 7, 2)), (172, (.ifCond .eq 7, 3)), (175, (.iconst 1, 1)), (176, (.goto 4, 3)), (179, (.iconst 0, 1)), (180, (.ireturn, 1))]
theorem dm_X12_has : ∀ q ∈ tb_X12_has, decode zX12_has.2.1 q.1 = .ok q.2 := by decide +kernel
def f_X12_has_137 (n : Nat) (a3 a5 a6 s0 : Int32) (M : qM) : qR :=
  qc (f_X12_copies n 79 78 M) (fun _ m1 => (if a3 = (3 : Int32) then some (a5, m1) else (if a3 = (4 : Int32) then some (a6, m1) else (if s0 = (0 : Int32) then some ((0 : Int32), m1) else some ((1 : Int32), m1)))))
set_option maxRecDepth 4000 in
theorem w_X12_has_137 {g : qG} {k : qK} (n : Nat) (j r : Nat) (hj : q_isLaw j) (hr : q_isLaw r) (o : qOk g 4 zX12_has k) (a3 a5 a6 s0 : Int32) (M : qM) : qAE g k zX12_has (qL j r) 137 [some (.inr (some 77)), none, none, some (.inl a3), none, some (.inl a5), some (.inl a6), none] [.inl s0] (qL j r, M) (f_X12_has_137 n a3 a5 a6 s0 M) := by
  unfold f_X12_has_137
  refine qs_istore (L' := [some (.inr (some 77)), none, none, some (.inl a3), none, some (.inl a5), some (.inl a6), some (.inl s0)]) o (q_dm dm_X12_has 79 rfl) (Nat.le_of_ble_eq_true rfl) rfl ?_
  refine qr_aload_n o (q_dm dm_X12_has 80 rfl) rfl ?_
  refine qr_getr (kf := 1) o cf_X12 (sh77 j r) rfl (Nat.le_of_ble_eq_true rfl) fl_X12_13 (q_dm dm_X12_has 81 rfl) ?_
  refine qr_aload_n o (q_dm dm_X12_has 82 rfl) rfl ?_
  refine qr_getr (kf := 0) o cf_X12 (sh77 j r) rfl (Nat.le_of_ble_eq_true rfl) fl_X12_7 (q_dm dm_X12_has 83 rfl) ?_
  refine qr_calls_v (As := [.inr (some 79), .inr (some 78)]) (S := []) o (a_X12_copies g k.2.1 n j r hj hr (sh79 j r) (sh78 j r) M) (Nat.le_of_ble_eq_true rfl) zs_X12_copies rfl ml_X12_319 (Nat.le_of_ble_eq_true rfl) (q_dm dm_X12_has 84 rfl) (fun _ m1 => ?_)
  refine qr_iload_n o (q_dm dm_X12_has 85 rfl) rfl ?_
  refine qr_iconst o (q_dm dm_X12_has 86 rfl) ic_3 ?_
  refine qr_icmp_ne (tgt := 160) o (q_dm dm_X12_has 87 rfl) (by decide) ?_ ?_
  · refine qr_iload_n o (q_dm dm_X12_has 90 rfl) rfl ?_
    refine qr_iconst o (q_dm dm_X12_has 91 rfl) ic_4 ?_
    refine qr_icmp_ne (tgt := 170) o (q_dm dm_X12_has 92 rfl) (by decide) ?_ ?_
    · refine qr_iload o (q_dm dm_X12_has 95 rfl) rfl ?_
      refine qr_if_eq (tgt := 179) o (q_dm dm_X12_has 96 rfl) (by decide) ?_ ?_
      · refine qr_iconst o (q_dm dm_X12_has 99 rfl) ic_0 ?_
        exact qr_iret o rfl rfl (q_dm dm_X12_has 100 rfl)
      · refine qr_iconst o (q_dm dm_X12_has 97 rfl) ic_1 ?_
        refine qr_goto (tgt := 180) o (q_dm dm_X12_has 98 rfl) (by decide) ?_
        exact qr_iret o rfl rfl (q_dm dm_X12_has 100 rfl)
    · refine qr_iload o (q_dm dm_X12_has 93 rfl) rfl ?_
      refine qr_goto (tgt := 180) o (q_dm dm_X12_has 94 rfl) (by decide) ?_
      exact qr_iret o rfl rfl (q_dm dm_X12_has 100 rfl)
  · refine qr_iload o (q_dm dm_X12_has 88 rfl) rfl ?_
    refine qr_goto (tgt := 180) o (q_dm dm_X12_has 89 rfl) (by decide) ?_
    exact qr_iret o rfl rfl (q_dm dm_X12_has 100 rfl)

def f_X12_has_136 (n : Nat) (a3 a5 a6 : Int32) (M : qM) : qR :=
  f_X12_has_137 n a3 a5 a6 (0 : Int32) M
set_option maxRecDepth 4000 in
theorem w_X12_has_136 {g : qG} {k : qK} (n : Nat) (j r : Nat) (hj : q_isLaw j) (hr : q_isLaw r) (o : qOk g 4 zX12_has k) (a3 a5 a6 : Int32) (M : qM) : qAE g k zX12_has (qL j r) 136 [some (.inr (some 77)), none, none, some (.inl a3), none, some (.inl a5), some (.inl a6), none] [] (qL j r, M) (f_X12_has_136 n a3 a5 a6 M) := by
  unfold f_X12_has_136
  refine qr_iconst o (q_dm dm_X12_has 78 rfl) ic_0 ?_
  exact qr_loc (q_leS (q_leN (q_leN (q_leS (q_leN (q_leS (q_leS (q_leN q_le0)))))))) (w_X12_has_137 n j r hj hr o a3 a5 a6 (0 : Int32) M)

def f_X12_has (n : Nat) (a1 a2 a3 : Int32) (M : qM) : qR :=
  qc (f_X12_isPerson n a1 M) (fun r1 m2 => (if r1 = (0 : Int32) then some ((-1 : Int32), m2) else qc (f_X12_isKind n a2 m2) (fun r3 m4 => (if r3 = (0 : Int32) then some ((-1 : Int32), m4) else qc (f_X12_in n a3 (0 : Int32) (5 : Int32) m4) (fun r5 m6 => (if r5 = (0 : Int32) then some ((-1 : Int32), m6) else qc (f_X12_at n a1 a2 m6) (fun r7 m8 => (if a3 = (0 : Int32) then qg ((0 : Int32) + r7) 954 (some ((m8 78 ((0 : Int32) + r7).toNatClampNeg), m8)) else (if a3 = (1 : Int32) then qg ((192 : Int32) + r7) 954 (some ((m8 78 ((192 : Int32) + r7).toNatClampNeg), m8)) else (if a3 = (2 : Int32) then qg ((96 : Int32) + r7) 954 (some ((m8 78 ((96 : Int32) + r7).toNatClampNeg), m8)) else qc (f_X12_copies n 78 79 m8) (fun _ m9 => qc (f_X12_forgets n a1 a2 m9) (fun _ m10 => qc (f_X12_oldOnes n a1 a2 m10) (fun r11 m12 => qc (f_X12_voidFor n a1 a2 (8 : Int32) m12) (fun r13 m14 => (if r11 < r13 then f_X12_has_136 n a3 r11 r13 m14 else qc (f_X12_hasNeeds n a1 a2 m14) (fun r15 m16 => (if r15 = (0 : Int32) then f_X12_has_136 n a3 r11 r13 m16 else f_X12_has_137 n a3 r11 r13 (1 : Int32) m16)))))))))))))))))
set_option maxRecDepth 4000 in
theorem w_X12_has {g : qG} {k : qK} (n : Nat) (j r : Nat) (hj : q_isLaw j) (hr : q_isLaw r) (o : qOk g 4 zX12_has k) (a1 a2 a3 : Int32) (M : qM) : qAE g k zX12_has (qL j r) 0 [some (.inr (some 77)), some (.inl a1), some (.inl a2), some (.inl a3), none, none, none, none] [] (qL j r, M) (f_X12_has n a1 a2 a3 M) := by
  unfold f_X12_has
  refine qr_aload_n o (q_dm dm_X12_has 0 rfl) rfl ?_
  refine qr_iload_n o (q_dm dm_X12_has 1 rfl) rfl ?_
  refine qr_callv_i (As := [.inl a1]) (S := []) o (a_X12_isPerson g k.2.1 n j r hj hr a1 M) (Nat.le_of_ble_eq_true rfl) zv_X12_isPerson rfl cf_X12 (sh77 j r) ml_X12_310 (Nat.le_of_ble_eq_true rfl) (q_dm dm_X12_has 2 rfl) (fun r1 m2 => ?_)
  refine qr_if_eq (tgt := 25) o (q_dm dm_X12_has 3 rfl) (by decide) ?_ ?_
  · refine qr_iconst o (q_dm dm_X12_has 13 rfl) ic_m1 ?_
    exact qr_iret o rfl rfl (q_dm dm_X12_has 14 rfl)
  · refine qr_aload_n o (q_dm dm_X12_has 4 rfl) rfl ?_
    refine qr_iload_n o (q_dm dm_X12_has 5 rfl) rfl ?_
    refine qr_callv_i (As := [.inl a2]) (S := []) o (a_X12_isKind g k.2.1 n j r hj hr a2 m2) (Nat.le_of_ble_eq_true rfl) zv_X12_isKind rfl cf_X12 (sh77 j r) ml_X12_157 (Nat.le_of_ble_eq_true rfl) (q_dm dm_X12_has 6 rfl) (fun r3 m4 => ?_)
    refine qr_if_eq (tgt := 25) o (q_dm dm_X12_has 7 rfl) (by decide) ?_ ?_
    · refine qr_iconst o (q_dm dm_X12_has 13 rfl) ic_m1 ?_
      exact qr_iret o rfl rfl (q_dm dm_X12_has 14 rfl)
    · refine qr_iload_n o (q_dm dm_X12_has 8 rfl) rfl ?_
      refine qr_iconst o (q_dm dm_X12_has 9 rfl) ic_0 ?_
      refine qr_iconst o (q_dm dm_X12_has 10 rfl) ic_5 ?_
      refine qr_calls_i (As := [.inl a3, .inl (0 : Int32), .inl (5 : Int32)]) (S := []) o (a_X12_in g k.2.1 n j r hj hr a3 (0 : Int32) (5 : Int32) m4) (Nat.le_of_ble_eq_true rfl) zs_X12_in rfl ml_X12_153 (Nat.le_of_ble_eq_true rfl) (q_dm dm_X12_has 11 rfl) (fun r5 m6 => ?_)
      refine qr_if_ne (tgt := 27) o (q_dm dm_X12_has 12 rfl) (by decide) ?_ ?_
      · refine qr_iload_n o (q_dm dm_X12_has 15 rfl) rfl ?_
        refine qr_iload_n o (q_dm dm_X12_has 16 rfl) rfl ?_
        refine qr_calls_i (As := [.inl a1, .inl a2]) (S := []) o (a_X12_at g k.2.1 n j r hj hr a1 a2 m6) (Nat.le_of_ble_eq_true rfl) zs_X12_at rfl ml_X12_282 (Nat.le_of_ble_eq_true rfl) (q_dm dm_X12_has 17 rfl) (fun r7 m8 => ?_)
        refine qs_istore (L' := [some (.inr (some 77)), some (.inl a1), some (.inl a2), some (.inl a3), some (.inl r7), none, none, none]) o (q_dm dm_X12_has 18 rfl) (Nat.le_of_ble_eq_true rfl) rfl ?_
        refine qr_iload_n o (q_dm dm_X12_has 19 rfl) rfl ?_
        refine qr_if_ne (tgt := 48) o (q_dm dm_X12_has 20 rfl) (by decide) ?_ ?_
        · refine qr_iload_n o (q_dm dm_X12_has 28 rfl) rfl ?_
          refine qr_iconst o (q_dm dm_X12_has 29 rfl) ic_1 ?_
          refine qr_icmp_ne (tgt := 65) o (q_dm dm_X12_has 30 rfl) (by decide) ?_ ?_
          · refine qr_iload_n o (q_dm dm_X12_has 38 rfl) rfl ?_
            refine qr_iconst o (q_dm dm_X12_has 39 rfl) ic_2 ?_
            refine qr_icmp_ne (tgt := 81) o (q_dm dm_X12_has 40 rfl) (by decide) ?_ ?_
            · refine qr_aload_n o (q_dm dm_X12_has 48 rfl) rfl ?_
              refine qr_getr (kf := 0) o cf_X12 (sh77 j r) rfl (Nat.le_of_ble_eq_true rfl) fl_X12_7 (q_dm dm_X12_has 49 rfl) ?_
              refine qr_aload_n o (q_dm dm_X12_has 50 rfl) rfl ?_
              refine qr_getr (kf := 1) o cf_X12 (sh77 j r) rfl (Nat.le_of_ble_eq_true rfl) fl_X12_13 (q_dm dm_X12_has 51 rfl) ?_
              refine qr_calls_v (As := [.inr (some 78), .inr (some 79)]) (S := []) o (a_X12_copies g k.2.1 n j r hj hr (sh78 j r) (sh79 j r) m8) (Nat.le_of_ble_eq_true rfl) zs_X12_copies rfl ml_X12_319 (Nat.le_of_ble_eq_true rfl) (q_dm dm_X12_has 52 rfl) (fun _ m9 => ?_)
              refine qr_aload_n o (q_dm dm_X12_has 53 rfl) rfl ?_
              refine qr_iload_n o (q_dm dm_X12_has 54 rfl) rfl ?_
              refine qr_iload_n o (q_dm dm_X12_has 55 rfl) rfl ?_
              refine qr_callv_v (As := [.inl a1, .inl a2]) (S := []) o (a_X12_forgets g k.2.1 n j r hj hr a1 a2 m9) (Nat.le_of_ble_eq_true rfl) zv_X12_forgets rfl cf_X12 (sh77 j r) ml_X12_295 (Nat.le_of_ble_eq_true rfl) (q_dm dm_X12_has 56 rfl) (fun _ m10 => ?_)
              refine qr_aload_n o (q_dm dm_X12_has 57 rfl) rfl ?_
              refine qr_iload_n o (q_dm dm_X12_has 58 rfl) rfl ?_
              refine qr_iload_n o (q_dm dm_X12_has 59 rfl) rfl ?_
              refine qr_callv_i (As := [.inl a1, .inl a2]) (S := []) o (a_X12_oldOnes g k.2.1 n j r hj hr a1 a2 m10) (Nat.le_of_ble_eq_true rfl) zv_X12_oldOnes rfl cf_X12 (sh77 j r) ml_X12_298 (Nat.le_of_ble_eq_true rfl) (q_dm dm_X12_has 60 rfl) (fun r11 m12 => ?_)
              refine qs_istore (L' := [some (.inr (some 77)), some (.inl a1), some (.inl a2), some (.inl a3), some (.inl r7), some (.inl r11), none, none]) o (q_dm dm_X12_has 61 rfl) (Nat.le_of_ble_eq_true rfl) rfl ?_
              refine qr_aload_n o (q_dm dm_X12_has 62 rfl) rfl ?_
              refine qr_iload_n o (q_dm dm_X12_has 63 rfl) rfl ?_
              refine qr_iload_n o (q_dm dm_X12_has 64 rfl) rfl ?_
              refine qr_bipush o (q_dm dm_X12_has 65 rfl) bi_8 ?_
              refine qr_callv_i (As := [.inl a1, .inl a2, .inl (8 : Int32)]) (S := []) o (a_X12_voidFor g k.2.1 n j r hj hr a1 a2 (8 : Int32) m12) (Nat.le_of_ble_eq_true rfl) zv_X12_voidFor rfl cf_X12 (sh77 j r) ml_X12_301 (Nat.le_of_ble_eq_true rfl) (q_dm dm_X12_has 66 rfl) (fun r13 m14 => ?_)
              refine qs_istore (L' := [some (.inr (some 77)), some (.inl a1), some (.inl a2), some (.inl a3), some (.inl r7), some (.inl r11), some (.inl r13), none]) o (q_dm dm_X12_has 67 rfl) (Nat.le_of_ble_eq_true rfl) rfl ?_
              refine qr_iload o (q_dm dm_X12_has 68 rfl) rfl ?_
              refine qr_iload o (q_dm dm_X12_has 69 rfl) rfl ?_
              refine qr_icmp_lt (tgt := 136) o (q_dm dm_X12_has 70 rfl) (by decide) ?_ ?_
              · exact qr_loc (q_leS (q_leN (q_leN (q_leS (q_leN (q_leS (q_leS (q_leN q_le0)))))))) (w_X12_has_136 n j r hj hr o a3 r11 r13 m14)
              · refine qr_aload_n o (q_dm dm_X12_has 71 rfl) rfl ?_
                refine qr_iload_n o (q_dm dm_X12_has 72 rfl) rfl ?_
                refine qr_iload_n o (q_dm dm_X12_has 73 rfl) rfl ?_
                refine qr_callv_i (As := [.inl a1, .inl a2]) (S := []) o (a_X12_hasNeeds g k.2.1 n j r hj hr a1 a2 m14) (Nat.le_of_ble_eq_true rfl) zv_X12_hasNeeds rfl cf_X12 (sh77 j r) ml_X12_304 (Nat.le_of_ble_eq_true rfl) (q_dm dm_X12_has 74 rfl) (fun r15 m16 => ?_)
                refine qr_if_eq (tgt := 136) o (q_dm dm_X12_has 75 rfl) (by decide) ?_ ?_
                · exact qr_loc (q_leS (q_leN (q_leN (q_leS (q_leN (q_leS (q_leS (q_leN q_le0)))))))) (w_X12_has_136 n j r hj hr o a3 r11 r13 m16)
                · refine qr_iconst o (q_dm dm_X12_has 76 rfl) ic_1 ?_
                  refine qr_goto (tgt := 137) o (q_dm dm_X12_has 77 rfl) (by decide) ?_
                  exact qr_loc (q_leS (q_leN (q_leN (q_leS (q_leN (q_leS (q_leS (q_leN q_le0)))))))) (w_X12_has_137 n j r hj hr o a3 r11 r13 (1 : Int32) m16)
            · refine qr_aload_n o (q_dm dm_X12_has 41 rfl) rfl ?_
              refine qr_getr (kf := 0) o cf_X12 (sh77 j r) rfl (Nat.le_of_ble_eq_true rfl) fl_X12_7 (q_dm dm_X12_has 42 rfl) ?_
              refine qr_bipush o (q_dm dm_X12_has 43 rfl) bi_96 ?_
              refine qr_iload o (q_dm dm_X12_has 44 rfl) rfl ?_
              refine qr_iadd o (q_dm dm_X12_has 45 rfl) ?_
              refine qr_iald o (sh78 j r) (q_dm dm_X12_has 46 rfl) ?_
              exact qr_iret o rfl rfl (q_dm dm_X12_has 47 rfl)
          · refine qr_aload_n o (q_dm dm_X12_has 31 rfl) rfl ?_
            refine qr_getr (kf := 0) o cf_X12 (sh77 j r) rfl (Nat.le_of_ble_eq_true rfl) fl_X12_7 (q_dm dm_X12_has 32 rfl) ?_
            refine qr_sipush o (q_dm dm_X12_has 33 rfl) si_192 ?_
            refine qr_iload o (q_dm dm_X12_has 34 rfl) rfl ?_
            refine qr_iadd o (q_dm dm_X12_has 35 rfl) ?_
            refine qr_iald o (sh78 j r) (q_dm dm_X12_has 36 rfl) ?_
            exact qr_iret o rfl rfl (q_dm dm_X12_has 37 rfl)
        · refine qr_aload_n o (q_dm dm_X12_has 21 rfl) rfl ?_
          refine qr_getr (kf := 0) o cf_X12 (sh77 j r) rfl (Nat.le_of_ble_eq_true rfl) fl_X12_7 (q_dm dm_X12_has 22 rfl) ?_
          refine qr_iconst o (q_dm dm_X12_has 23 rfl) ic_0 ?_
          refine qr_iload o (q_dm dm_X12_has 24 rfl) rfl ?_
          refine qr_iadd o (q_dm dm_X12_has 25 rfl) ?_
          refine qr_iald o (sh78 j r) (q_dm dm_X12_has 26 rfl) ?_
          exact qr_iret o rfl rfl (q_dm dm_X12_has 27 rfl)
      · refine qr_iconst o (q_dm dm_X12_has 13 rfl) ic_m1 ?_
        exact qr_iret o rfl rfl (q_dm dm_X12_has 14 rfl)

theorem a_X12_has (g : qG) (l : Launch) (n : Nat) (j r : Nat) (hj : q_isLaw j) (hr : q_isLaw r) (a1 a2 a3 : Int32) (M : qM) : qAM g l 4 zX12_has (qL j r) [.inr (some 77), .inl a1, .inl a2, .inl a3] (qL j r, M) (f_X12_has n a1 a2 a3 M) :=
  qAM.of zv_X12_has.1 (by show 4 ≤ 8; decide) (fun k hk o => w_X12_has n j r hj hr o a1 a2 a3 M)
def tb_X12_hasOpenSum : List (Nat × Instr × Nat) := [(0, (.iload_n 1, 1)), (1, (.istore_n 2, 1)), (2, (.iload_n 2, 1)), (3, (.aload_n 0, 1)), (4, (.getfield 199, 3)), (7, (.if_icmp .ge 25, 3)), (10, (.aload_n 0, 1)), (11, (.getfield 35, 3)), (14, (.iload_n 2, 1)), (15, (.iaload, 1)), (16, (.ldc 195, 2)), (18, (.idiv, 1)), (19, (.bipush 14, 2)), (21, (.if_icmp .ne 5, 3)), (24, (.iconst 1, 1)), (25, (.ireturn, 1)), (26, (.iinc 2 1, 3)), (29, (.goto (-27), 3)), (32, (.iconst 0, 1)), (33, (.ireturn, 1))]
theorem dm_X12_hasOpenSum : ∀ q ∈ tb_X12_hasOpenSum, decode zX12_hasOpenSum.2.1 q.1 = .ok q.2 := by decide +kernel
def b_X12_hasOpenSum_2 (n : Nat) (K2 : Int32 → qM → qR) (a2 : Int32) (M : qM) : qR :=
  (if (M 77 15) ≤ a2 then some ((0 : Int32), M) else qg a2 260 ((if ((M 86 a2.toNatClampNeg) / (1048576 : Int32)) = (14 : Int32) then some ((1 : Int32), M) else ql (a2 + (1 : Int32)) (fun x1 => K2 x1 M))))
set_option maxRecDepth 4000 in
theorem wb_X12_hasOpenSum_2 {g : qG} {k : qK} (n : Nat) (j r : Nat) (hj : q_isLaw j) (hr : q_isLaw r) (o : qOk g 0 zX12_hasOpenSum k) (K2 : Int32 → qM → qR) (hK2 : ∀ (a2 : Int32) (M : qM), qAE g k zX12_hasOpenSum (qL j r) 2 [some (.inr (some 77)), none, some (.inl a2)] [] (qL j r, M) (K2 a2 M)) (a2 : Int32) (M : qM) : qAE g k zX12_hasOpenSum (qL j r) 2 [some (.inr (some 77)), none, some (.inl a2)] [] (qL j r, M) (b_X12_hasOpenSum_2 n K2 a2 M) := by
  unfold b_X12_hasOpenSum_2
  refine qr_iload_n o (q_dm dm_X12_hasOpenSum 2 rfl) rfl ?_
  refine qr_aload_n o (q_dm dm_X12_hasOpenSum 3 rfl) rfl ?_
  refine qr_getf (kf := 15) o cf_X12 (sh77 j r) rfl (Nat.le_of_ble_eq_true rfl) fl_X12_199 (q_dm dm_X12_hasOpenSum 4 rfl) ?_
  refine qr_icmp_ge (tgt := 32) o (q_dm dm_X12_hasOpenSum 5 rfl) (by decide) ?_ ?_
  · refine qr_iconst o (q_dm dm_X12_hasOpenSum 18 rfl) ic_0 ?_
    exact qr_iret o rfl (by decide) (q_dm dm_X12_hasOpenSum 19 rfl)
  · refine qr_aload_n o (q_dm dm_X12_hasOpenSum 6 rfl) rfl ?_
    refine qr_getr (kf := 19) o cf_X12 (sh77 j r) rfl (Nat.le_of_ble_eq_true rfl) fl_X12_35 (q_dm dm_X12_hasOpenSum 7 rfl) ?_
    refine qr_iload_n o (q_dm dm_X12_hasOpenSum 8 rfl) rfl ?_
    refine qr_iald o (sh86 j r) (q_dm dm_X12_hasOpenSum 9 rfl) ?_
    refine qr_ldc o (q_dm dm_X12_hasOpenSum 10 rfl) kc_X12_195 ?_
    refine qr_idivc o (q_dm dm_X12_hasOpenSum 11 rfl) (by decide) ?_
    refine qr_bipush o (q_dm dm_X12_hasOpenSum 12 rfl) bi_14 ?_
    refine qr_icmp_ne (tgt := 26) o (q_dm dm_X12_hasOpenSum 13 rfl) (by decide) ?_ ?_
    · refine qs_iincl2 (L' := fun x1 => [some (.inr (some 77)), none, some (.inl x1)]) o (q_dm dm_X12_hasOpenSum 16 rfl) rfl ic_1 (Nat.le_of_ble_eq_true rfl) (fun _ => rfl) (fun x1 => ?_)
      refine qr_goto (tgt := 2) o (q_dm dm_X12_hasOpenSum 17 rfl) (by decide) ?_
      exact qr_loc (q_leS (q_leN (q_leS q_le0))) (hK2 x1 M)
    · refine qr_iconst o (q_dm dm_X12_hasOpenSum 14 rfl) ic_1 ?_
      exact qr_iret o rfl (by decide) (q_dm dm_X12_hasOpenSum 15 rfl)

def f_X12_hasOpenSum_2 (n : Nat) : Nat → Int32 → qM → qR
  | 0, _, _ => none
  | m + 1, a2, M => b_X12_hasOpenSum_2 n (f_X12_hasOpenSum_2 n m) a2 M
theorem w_X12_hasOpenSum_2 {g : qG} {k : qK} (n : Nat) (j r : Nat) (hj : q_isLaw j) (hr : q_isLaw r) (o : qOk g 0 zX12_hasOpenSum k) : ∀ (m : Nat) (a2 : Int32) (M : qM), qAE g k zX12_hasOpenSum (qL j r) 2 [some (.inr (some 77)), none, some (.inl a2)] [] (qL j r, M) (f_X12_hasOpenSum_2 n m a2 M) := by
  intro m
  induction m with
  | zero =>
    intro a2 M
    exact qr_none
  | succ m ih =>
    intro a2 M
    exact wb_X12_hasOpenSum_2 n j r hj hr o (f_X12_hasOpenSum_2 n m) ih a2 M
def f_X12_hasOpenSum (n : Nat) (a1 : Int32) (M : qM) : qR :=
  f_X12_hasOpenSum_2 n n a1 M
set_option maxRecDepth 4000 in
theorem w_X12_hasOpenSum {g : qG} {k : qK} (n : Nat) (j r : Nat) (hj : q_isLaw j) (hr : q_isLaw r) (o : qOk g 0 zX12_hasOpenSum k) (a1 : Int32) (M : qM) : qAE g k zX12_hasOpenSum (qL j r) 0 [some (.inr (some 77)), some (.inl a1), none] [] (qL j r, M) (f_X12_hasOpenSum n a1 M) := by
  unfold f_X12_hasOpenSum
  refine qr_iload_n o (q_dm dm_X12_hasOpenSum 0 rfl) rfl ?_
  refine qs_istore_n (L' := [some (.inr (some 77)), some (.inl a1), some (.inl a1)]) o (q_dm dm_X12_hasOpenSum 1 rfl) (Nat.le_of_ble_eq_true rfl) rfl ?_
  exact qr_loc (q_leS (q_leN (q_leS q_le0))) (w_X12_hasOpenSum_2 n j r hj hr o n a1 M)

theorem a_X12_hasOpenSum (g : qG) (l : Launch) (n : Nat) (j r : Nat) (hj : q_isLaw j) (hr : q_isLaw r) (a1 : Int32) (M : qM) : qAM g l 0 zX12_hasOpenSum (qL j r) [.inr (some 77), .inl a1] (qL j r, M) (f_X12_hasOpenSum n a1 M) :=
  qAM.of zv_X12_hasOpenSum.1 (by show 2 ≤ 3; decide) (fun k hk o => w_X12_hasOpenSum n j r hj hr o a1 M)
def tb_X12_takesPast : List (Nat × Instr × Nat) := [(0, (.aload_n 0, 1)), (1, (.iload_n 1, 1)), (2, (.putfield 454, 3)), (5, (.iconst 0, 1)), (6, (.istore_n 3, 1)), (7, (.iload_n 3, 1)), (8, (.iload_n 1, 1)), (9, (.if_icmp .ge 69, 3)), (12, (.aload_n 0, 1)), (13, (.getfield 127, 3)), (16, (.iload_n 3, 1)), (17, (.aload_n 0, 1)), (18, (.getfield 28, 3)), (21, (.iload_n 3, 1)), (22, (.baload, 1)), (23, (.iastore, 1)), (24, (.aload_n 0, 1)), (25, (.aload_n 0, 1)), (26, (.getfield 127, 3)), (29, (.iload_n 3, 1)), (30, (.iaload, 1)), (31, (.invokevirtual 157, 3)), (34, (.ifCond .ne 5, 3)), (37, (.iconst 0, 1)), (38, (.ireturn, 1)), (39, (.iconst 0, 1)), (40, (.istore 4, 2)), (42, (.iload 4, 2)), (44, (.iload_n 3, 1)), (45, (.if_icmp .ge 27, 3)), (48, (.aload_n 0, 1)), (49, (.getfield 127, 3)), (52, (.iload 4, 2)), (54, (.iaload, 1)), (55, (.aload_n 0, 1)), (56, (.getfield 127, 3)), (59, (.iload_n 3, 1)), (60, (.iaload, 1)), (61, (.if_icmp .ne 5, 3)), (64, (.iconst 0, 1)), (65, (.ireturn, 1)), (66, (.iinc 4 1, 3)), (69, (.goto (-27), 3)), (72, (.iinc 3 1, 3)), (75, (.goto (-68), 3)), (78, (.iconst 0, 1)), (79, (.istore_n 3, 1)), (80, (.iload_n 3, 1)), (81, (.iload_n 2, 1)), (82, (.if_icmp .ge 51, 3)), (85, (.aload_n 0, 1)), (86, (.getfield 28, 3)), (89, (.iload_n 1, 1)), (90, (.iconst 2, 1)), (91, (.iload_n 3, 1)), (92, (.imul, 1)), (93, (.iadd, 1)), (94, (.baload, 1)), (95, (.iconst 0, 1)), (96, (.iload_n 1, 1)), (97, (.iconst 1, 1)), (98, (.isub, 1)), (99, (.invokestatic 153, 3)), (102, (.ifCond .eq 23, 3)), (105, (.aload_n 0, 1)), (106, (.getfield 28, 3)), (109, (.iload_n 1, 1)), (110, (.iconst 2, 1)), (111, (.iload_n 3, 1)), (112, (.imul, 1)), (113, (.iadd, 1)), (114, (.iconst 1, 1)), (115, (.iadd, 1)), (116, (.baload, 1)), (117, (.iconst 0, 1)), (118, (.iconst 1, 1)), (119, (.invokestatic 153, 3)), (122, (.ifCond .ne 5, 3)), (125, (.iconst 0, 1)), (126, (.ireturn, 1)), (127, (.iinc 3 1, 3)), (130, (.goto (-50), 3)), (133, (.iconst 0, 1)), (134, (.istore_n 3, 1)), (135, (.iload_n 3, 1)), (136, (.iload_n 1, 1)), (137, (.if_icmp .ge 68, 3)), (140, (.aload_n 0, 1)), (141, (.getfield 130, 3)), (144, (.iload_n 3, 1)), (145, (.iconst 0, 1)), (146, (.iastore, 1)), (147, (.iconst 0, 1)), (148, (.istore 4, 2)), (150, (.iload 4, 2)), (152, (.iload_n 1, 1)), (153, (.if_icmp .ge 46, 3)), (156, (.aload_n 0, 1)), (157, (.aload_n 0, 1)), (158, (.getfield 127, 3)), (161, (.iload_n 3, 1)), (162, (.iaload, 1)), (163, (.aload_n 0, 1)), (164, (.getfield 127, 3)), (167, (.iload 4, 2)), (169, (.iaload, 1)), (170, (.invokevirtual 279, 3)), (173, (.ifCond .eq 20, 3)), (176, (.aload_n 0, 1)), (177, (.getfield 130, 3)), (180, (.iload_n 3, 1)), (181, (.aload_n 0, 1)), (182, (.getfield 130, 3)), (185, (.iload_n 3, 1)), (186, (.iaload, 1)), (187, (.iconst 1, 1)), (188, (.iload 4, 2)), (190, (.ishl, 1)), (191, (.ior, 1)), (192, (.iastore, 1)), (193, (.iinc 4 1, 3)), (196, (.goto (-46), 3)), (199, (.iinc 3 1, 3)), (202, (.goto (-67), 3)), (205, (.iconst 1, 1)), (206, (.ireturn, 1))]
theorem dm_X12_takesPast : ∀ q ∈ tb_X12_takesPast, decode zX12_takesPast.2.1 q.1 = .ok q.2 := by decide +kernel
def b_X12_takesPast_150 (n : Nat) (K135 : Int32 → Int32 → qM → qR) (K150 : Int32 → Int32 → Int32 → qM → qR) (a1 a3 a4 : Int32) (M : qM) : qR :=
  (if a1 ≤ a4 then ql (a3 + (1 : Int32)) (fun x1 => K135 a1 x1 M) else qg a3 4 (qg a4 4 (qc (f_X12_isLike n (M 116 a3.toNatClampNeg) (M 116 a4.toNatClampNeg) M) (fun r2 m3 => (if r2 = (0 : Int32) then ql (a4 + (1 : Int32)) (fun x4 => K150 a1 a3 x4 m3) else qg a3 4 (qg a3 4 (qlm (mu m3 117 a3.toNatClampNeg ((m3 117 a3.toNatClampNeg) ||| ((1 : Int32) <<< (a4 &&& 31)))) (fun m5 => ql (a4 + (1 : Int32)) (fun x6 => K150 a1 a3 x6 m5)))))))))
set_option maxRecDepth 4000 in
theorem wb_X12_takesPast_150 {g : qG} {k : qK} (n : Nat) (j r : Nat) (hj : q_isLaw j) (hr : q_isLaw r) (o : qOk g 3 zX12_takesPast k) (K135 : Int32 → Int32 → qM → qR) (hK135 : ∀ (a1 a3 : Int32) (M : qM), qAE g k zX12_takesPast (qL j r) 135 [some (.inr (some 77)), some (.inl a1), none, some (.inl a3), none] [] (qL j r, M) (K135 a1 a3 M)) (K150 : Int32 → Int32 → Int32 → qM → qR) (hK150 : ∀ (a1 a3 a4 : Int32) (M : qM), qAE g k zX12_takesPast (qL j r) 150 [some (.inr (some 77)), some (.inl a1), none, some (.inl a3), some (.inl a4)] [] (qL j r, M) (K150 a1 a3 a4 M)) (a1 a3 a4 : Int32) (M : qM) : qAE g k zX12_takesPast (qL j r) 150 [some (.inr (some 77)), some (.inl a1), none, some (.inl a3), some (.inl a4)] [] (qL j r, M) (b_X12_takesPast_150 n K135 K150 a1 a3 a4 M) := by
  unfold b_X12_takesPast_150
  refine qr_iload o (q_dm dm_X12_takesPast 94 rfl) rfl ?_
  refine qr_iload_n o (q_dm dm_X12_takesPast 95 rfl) rfl ?_
  refine qr_icmp_ge (tgt := 199) o (q_dm dm_X12_takesPast 96 rfl) (by decide) ?_ ?_
  · refine qs_iincl2 (L' := fun x1 => [some (.inr (some 77)), some (.inl a1), none, some (.inl x1), some (.inl a4)]) o (q_dm dm_X12_takesPast 122 rfl) rfl ic_1 (Nat.le_of_ble_eq_true rfl) (fun _ => rfl) (fun x1 => ?_)
    refine qr_goto (tgt := 135) o (q_dm dm_X12_takesPast 123 rfl) (by decide) ?_
    exact qr_loc (q_leS (q_leS (q_leN (q_leS (q_leN q_le0))))) (hK135 a1 x1 M)
  · refine qr_aload_n o (q_dm dm_X12_takesPast 97 rfl) rfl ?_
    refine qr_aload_n o (q_dm dm_X12_takesPast 98 rfl) rfl ?_
    refine qr_getr (kf := 62) o cf_X12 (sh77 j r) rfl (Nat.le_of_ble_eq_true rfl) fl_X12_127 (q_dm dm_X12_takesPast 99 rfl) ?_
    refine qr_iload_n o (q_dm dm_X12_takesPast 100 rfl) rfl ?_
    refine qr_iald o (sh116 j r) (q_dm dm_X12_takesPast 101 rfl) ?_
    refine qr_aload_n o (q_dm dm_X12_takesPast 102 rfl) rfl ?_
    refine qr_getr (kf := 62) o cf_X12 (sh77 j r) rfl (Nat.le_of_ble_eq_true rfl) fl_X12_127 (q_dm dm_X12_takesPast 103 rfl) ?_
    refine qr_iload o (q_dm dm_X12_takesPast 104 rfl) rfl ?_
    refine qr_iald o (sh116 j r) (q_dm dm_X12_takesPast 105 rfl) ?_
    refine qr_callv_i (As := [.inl (M 116 a3.toNatClampNeg), .inl (M 116 a4.toNatClampNeg)]) (S := []) o (a_X12_isLike g k.2.1 n j r hj hr (M 116 a3.toNatClampNeg) (M 116 a4.toNatClampNeg) M) (Nat.le_of_ble_eq_true rfl) zv_X12_isLike rfl cf_X12 (sh77 j r) ml_X12_279 (Nat.le_of_ble_eq_true rfl) (q_dm dm_X12_takesPast 106 rfl) (fun r2 m3 => ?_)
    refine qr_if_eq (tgt := 193) o (q_dm dm_X12_takesPast 107 rfl) (by decide) ?_ ?_
    · refine qs_iincl2 (L' := fun x4 => [some (.inr (some 77)), some (.inl a1), none, some (.inl a3), some (.inl x4)]) o (q_dm dm_X12_takesPast 120 rfl) rfl ic_1 (Nat.le_of_ble_eq_true rfl) (fun _ => rfl) (fun x4 => ?_)
      refine qr_goto (tgt := 150) o (q_dm dm_X12_takesPast 121 rfl) (by decide) ?_
      exact qr_loc (q_leS (q_leS (q_leN (q_leS (q_leS q_le0))))) (hK150 a1 a3 x4 m3)
    · refine qr_aload_n o (q_dm dm_X12_takesPast 108 rfl) rfl ?_
      refine qr_getr (kf := 63) o cf_X12 (sh77 j r) rfl (Nat.le_of_ble_eq_true rfl) fl_X12_130 (q_dm dm_X12_takesPast 109 rfl) ?_
      refine qr_iload_n o (q_dm dm_X12_takesPast 110 rfl) rfl ?_
      refine qr_aload_n o (q_dm dm_X12_takesPast 111 rfl) rfl ?_
      refine qr_getr (kf := 63) o cf_X12 (sh77 j r) rfl (Nat.le_of_ble_eq_true rfl) fl_X12_130 (q_dm dm_X12_takesPast 112 rfl) ?_
      refine qr_iload_n o (q_dm dm_X12_takesPast 113 rfl) rfl ?_
      refine qr_iald o (sh117 j r) (q_dm dm_X12_takesPast 114 rfl) ?_
      refine qr_iconst o (q_dm dm_X12_takesPast 115 rfl) ic_1 ?_
      refine qr_iload o (q_dm dm_X12_takesPast 116 rfl) rfl ?_
      refine qr_ishl o (q_dm dm_X12_takesPast 117 rfl) ?_
      refine qr_ior o (q_dm dm_X12_takesPast 118 rfl) ?_
      refine qr_iast o (sh117 j r) (q_dm dm_X12_takesPast 119 rfl) ?_
      refine qr_letm (fun m5 => ?_)
      refine qs_iincl2 (L' := fun x6 => [some (.inr (some 77)), some (.inl a1), none, some (.inl a3), some (.inl x6)]) o (q_dm dm_X12_takesPast 120 rfl) rfl ic_1 (Nat.le_of_ble_eq_true rfl) (fun _ => rfl) (fun x6 => ?_)
      refine qr_goto (tgt := 150) o (q_dm dm_X12_takesPast 121 rfl) (by decide) ?_
      exact qr_loc (q_leS (q_leS (q_leN (q_leS (q_leS q_le0))))) (hK150 a1 a3 x6 m5)

def f_X12_takesPast_150 (n : Nat) (K135 : Int32 → Int32 → qM → qR) : Nat → Int32 → Int32 → Int32 → qM → qR
  | 0, _, _, _, _ => none
  | m + 1, a1, a3, a4, M => b_X12_takesPast_150 n K135 (f_X12_takesPast_150 n K135 m) a1 a3 a4 M
theorem w_X12_takesPast_150 {g : qG} {k : qK} (n : Nat) (j r : Nat) (hj : q_isLaw j) (hr : q_isLaw r) (o : qOk g 3 zX12_takesPast k) (K135 : Int32 → Int32 → qM → qR) (hK135 : ∀ (a1 a3 : Int32) (M : qM), qAE g k zX12_takesPast (qL j r) 135 [some (.inr (some 77)), some (.inl a1), none, some (.inl a3), none] [] (qL j r, M) (K135 a1 a3 M)) : ∀ (m : Nat) (a1 a3 a4 : Int32) (M : qM), qAE g k zX12_takesPast (qL j r) 150 [some (.inr (some 77)), some (.inl a1), none, some (.inl a3), some (.inl a4)] [] (qL j r, M) (f_X12_takesPast_150 n K135 m a1 a3 a4 M) := by
  intro m
  induction m with
  | zero =>
    intro a1 a3 a4 M
    exact qr_none
  | succ m ih =>
    intro a1 a3 a4 M
    exact wb_X12_takesPast_150 n j r hj hr o K135 hK135 (f_X12_takesPast_150 n K135 m) ih a1 a3 a4 M
def b_X12_takesPast_135 (n : Nat) (K135 : Int32 → Int32 → qM → qR) (a1 a3 : Int32) (M : qM) : qR :=
  (if a1 ≤ a3 then some ((1 : Int32), M) else qg a3 4 (qlm (mu M 117 a3.toNatClampNeg (0 : Int32)) (fun m1 => f_X12_takesPast_150 n K135 n a1 a3 (0 : Int32) m1)))
set_option maxRecDepth 4000 in
theorem wb_X12_takesPast_135 {g : qG} {k : qK} (n : Nat) (j r : Nat) (hj : q_isLaw j) (hr : q_isLaw r) (o : qOk g 3 zX12_takesPast k) (K135 : Int32 → Int32 → qM → qR) (hK135 : ∀ (a1 a3 : Int32) (M : qM), qAE g k zX12_takesPast (qL j r) 135 [some (.inr (some 77)), some (.inl a1), none, some (.inl a3), none] [] (qL j r, M) (K135 a1 a3 M)) (a1 a3 : Int32) (M : qM) : qAE g k zX12_takesPast (qL j r) 135 [some (.inr (some 77)), some (.inl a1), none, some (.inl a3), none] [] (qL j r, M) (b_X12_takesPast_135 n K135 a1 a3 M) := by
  unfold b_X12_takesPast_135
  refine qr_iload_n o (q_dm dm_X12_takesPast 84 rfl) rfl ?_
  refine qr_iload_n o (q_dm dm_X12_takesPast 85 rfl) rfl ?_
  refine qr_icmp_ge (tgt := 205) o (q_dm dm_X12_takesPast 86 rfl) (by decide) ?_ ?_
  · refine qr_iconst o (q_dm dm_X12_takesPast 124 rfl) ic_1 ?_
    exact qr_iret o rfl (by decide) (q_dm dm_X12_takesPast 125 rfl)
  · refine qr_aload_n o (q_dm dm_X12_takesPast 87 rfl) rfl ?_
    refine qr_getr (kf := 63) o cf_X12 (sh77 j r) rfl (Nat.le_of_ble_eq_true rfl) fl_X12_130 (q_dm dm_X12_takesPast 88 rfl) ?_
    refine qr_iload_n o (q_dm dm_X12_takesPast 89 rfl) rfl ?_
    refine qr_iconst o (q_dm dm_X12_takesPast 90 rfl) ic_0 ?_
    refine qr_iast o (sh117 j r) (q_dm dm_X12_takesPast 91 rfl) ?_
    refine qr_letm (fun m1 => ?_)
    refine qr_iconst o (q_dm dm_X12_takesPast 92 rfl) ic_0 ?_
    refine qs_istore (L' := [some (.inr (some 77)), some (.inl a1), none, some (.inl a3), some (.inl (0 : Int32))]) o (q_dm dm_X12_takesPast 93 rfl) (Nat.le_of_ble_eq_true rfl) rfl ?_
    exact qr_loc (q_leS (q_leS (q_leN (q_leS (q_leS q_le0))))) (w_X12_takesPast_150 n j r hj hr o K135 hK135 n a1 a3 (0 : Int32) m1)

def f_X12_takesPast_135 (n : Nat) : Nat → Int32 → Int32 → qM → qR
  | 0, _, _, _ => none
  | m + 1, a1, a3, M => b_X12_takesPast_135 n (f_X12_takesPast_135 n m) a1 a3 M
theorem w_X12_takesPast_135 {g : qG} {k : qK} (n : Nat) (j r : Nat) (hj : q_isLaw j) (hr : q_isLaw r) (o : qOk g 3 zX12_takesPast k) : ∀ (m : Nat) (a1 a3 : Int32) (M : qM), qAE g k zX12_takesPast (qL j r) 135 [some (.inr (some 77)), some (.inl a1), none, some (.inl a3), none] [] (qL j r, M) (f_X12_takesPast_135 n m a1 a3 M) := by
  intro m
  induction m with
  | zero =>
    intro a1 a3 M
    exact qr_none
  | succ m ih =>
    intro a1 a3 M
    exact wb_X12_takesPast_135 n j r hj hr o (f_X12_takesPast_135 n m) ih a1 a3 M
def b_X12_takesPast_80 (n : Nat) (K80 : Int32 → Int32 → Int32 → qM → qR) (a1 a2 a3 : Int32) (M : qM) : qR :=
  (if a2 ≤ a3 then f_X12_takesPast_135 n n a1 (0 : Int32) M else qg (a1 + ((2 : Int32) * a3)) 260 (qc (f_X12_in n (M 84 (a1 + ((2 : Int32) * a3)).toNatClampNeg) (0 : Int32) (a1 - (1 : Int32)) M) (fun r1 m2 => (if r1 = (0 : Int32) then some ((0 : Int32), m2) else qg ((a1 + ((2 : Int32) * a3)) + (1 : Int32)) 260 (qc (f_X12_in n (m2 84 ((a1 + ((2 : Int32) * a3)) + (1 : Int32)).toNatClampNeg) (0 : Int32) (1 : Int32) m2) (fun r3 m4 => (if r3 = (0 : Int32) then some ((0 : Int32), m4) else ql (a3 + (1 : Int32)) (fun x5 => K80 a1 a2 x5 m4))))))))
set_option maxRecDepth 4000 in
theorem wb_X12_takesPast_80 {g : qG} {k : qK} (n : Nat) (j r : Nat) (hj : q_isLaw j) (hr : q_isLaw r) (o : qOk g 3 zX12_takesPast k) (K80 : Int32 → Int32 → Int32 → qM → qR) (hK80 : ∀ (a1 a2 a3 : Int32) (M : qM), qAE g k zX12_takesPast (qL j r) 80 [some (.inr (some 77)), some (.inl a1), some (.inl a2), some (.inl a3), none] [] (qL j r, M) (K80 a1 a2 a3 M)) (a1 a2 a3 : Int32) (M : qM) : qAE g k zX12_takesPast (qL j r) 80 [some (.inr (some 77)), some (.inl a1), some (.inl a2), some (.inl a3), none] [] (qL j r, M) (b_X12_takesPast_80 n K80 a1 a2 a3 M) := by
  unfold b_X12_takesPast_80
  refine qr_iload_n o (q_dm dm_X12_takesPast 47 rfl) rfl ?_
  refine qr_iload_n o (q_dm dm_X12_takesPast 48 rfl) rfl ?_
  refine qr_icmp_ge (tgt := 133) o (q_dm dm_X12_takesPast 49 rfl) (by decide) ?_ ?_
  · refine qr_iconst o (q_dm dm_X12_takesPast 82 rfl) ic_0 ?_
    refine qs_istore_n (L' := [some (.inr (some 77)), some (.inl a1), some (.inl a2), some (.inl (0 : Int32)), none]) o (q_dm dm_X12_takesPast 83 rfl) (Nat.le_of_ble_eq_true rfl) rfl ?_
    exact qr_loc (q_leS (q_leS (q_leN (q_leS (q_leN q_le0))))) (w_X12_takesPast_135 n j r hj hr o n a1 (0 : Int32) M)
  · refine qr_aload_n o (q_dm dm_X12_takesPast 50 rfl) rfl ?_
    refine qr_getr (kf := 7) o cf_X12 (sh77 j r) rfl (Nat.le_of_ble_eq_true rfl) fl_X12_28 (q_dm dm_X12_takesPast 51 rfl) ?_
    refine qr_iload_n o (q_dm dm_X12_takesPast 52 rfl) rfl ?_
    refine qr_iconst o (q_dm dm_X12_takesPast 53 rfl) ic_2 ?_
    refine qr_iload_n o (q_dm dm_X12_takesPast 54 rfl) rfl ?_
    refine qr_imul o (q_dm dm_X12_takesPast 55 rfl) ?_
    refine qr_iadd o (q_dm dm_X12_takesPast 56 rfl) ?_
    refine qr_bald o (sh84 j r) (q_dm dm_X12_takesPast 57 rfl) ?_
    refine qr_iconst o (q_dm dm_X12_takesPast 58 rfl) ic_0 ?_
    refine qr_iload_n o (q_dm dm_X12_takesPast 59 rfl) rfl ?_
    refine qr_iconst o (q_dm dm_X12_takesPast 60 rfl) ic_1 ?_
    refine qr_isub o (q_dm dm_X12_takesPast 61 rfl) ?_
    refine qr_calls_i (As := [.inl (M 84 (a1 + ((2 : Int32) * a3)).toNatClampNeg), .inl (0 : Int32), .inl (a1 - (1 : Int32))]) (S := []) o (a_X12_in g k.2.1 n j r hj hr (M 84 (a1 + ((2 : Int32) * a3)).toNatClampNeg) (0 : Int32) (a1 - (1 : Int32)) M) (Nat.le_of_ble_eq_true rfl) zs_X12_in rfl ml_X12_153 (Nat.le_of_ble_eq_true rfl) (q_dm dm_X12_takesPast 62 rfl) (fun r1 m2 => ?_)
    refine qr_if_eq (tgt := 125) o (q_dm dm_X12_takesPast 63 rfl) (by decide) ?_ ?_
    · refine qr_iconst o (q_dm dm_X12_takesPast 78 rfl) ic_0 ?_
      exact qr_iret o rfl (by decide) (q_dm dm_X12_takesPast 79 rfl)
    · refine qr_aload_n o (q_dm dm_X12_takesPast 64 rfl) rfl ?_
      refine qr_getr (kf := 7) o cf_X12 (sh77 j r) rfl (Nat.le_of_ble_eq_true rfl) fl_X12_28 (q_dm dm_X12_takesPast 65 rfl) ?_
      refine qr_iload_n o (q_dm dm_X12_takesPast 66 rfl) rfl ?_
      refine qr_iconst o (q_dm dm_X12_takesPast 67 rfl) ic_2 ?_
      refine qr_iload_n o (q_dm dm_X12_takesPast 68 rfl) rfl ?_
      refine qr_imul o (q_dm dm_X12_takesPast 69 rfl) ?_
      refine qr_iadd o (q_dm dm_X12_takesPast 70 rfl) ?_
      refine qr_iconst o (q_dm dm_X12_takesPast 71 rfl) ic_1 ?_
      refine qr_iadd o (q_dm dm_X12_takesPast 72 rfl) ?_
      refine qr_bald o (sh84 j r) (q_dm dm_X12_takesPast 73 rfl) ?_
      refine qr_iconst o (q_dm dm_X12_takesPast 74 rfl) ic_0 ?_
      refine qr_iconst o (q_dm dm_X12_takesPast 75 rfl) ic_1 ?_
      refine qr_calls_i (As := [.inl (m2 84 ((a1 + ((2 : Int32) * a3)) + (1 : Int32)).toNatClampNeg), .inl (0 : Int32), .inl (1 : Int32)]) (S := []) o (a_X12_in g k.2.1 n j r hj hr (m2 84 ((a1 + ((2 : Int32) * a3)) + (1 : Int32)).toNatClampNeg) (0 : Int32) (1 : Int32) m2) (Nat.le_of_ble_eq_true rfl) zs_X12_in rfl ml_X12_153 (Nat.le_of_ble_eq_true rfl) (q_dm dm_X12_takesPast 76 rfl) (fun r3 m4 => ?_)
      refine qr_if_ne (tgt := 127) o (q_dm dm_X12_takesPast 77 rfl) (by decide) ?_ ?_
      · refine qs_iincl2 (L' := fun x5 => [some (.inr (some 77)), some (.inl a1), some (.inl a2), some (.inl x5), none]) o (q_dm dm_X12_takesPast 80 rfl) rfl ic_1 (Nat.le_of_ble_eq_true rfl) (fun _ => rfl) (fun x5 => ?_)
        refine qr_goto (tgt := 80) o (q_dm dm_X12_takesPast 81 rfl) (by decide) ?_
        exact qr_loc (q_leS (q_leS (q_leS (q_leS (q_leN q_le0))))) (hK80 a1 a2 x5 m4)
      · refine qr_iconst o (q_dm dm_X12_takesPast 78 rfl) ic_0 ?_
        exact qr_iret o rfl (by decide) (q_dm dm_X12_takesPast 79 rfl)

def f_X12_takesPast_80 (n : Nat) : Nat → Int32 → Int32 → Int32 → qM → qR
  | 0, _, _, _, _ => none
  | m + 1, a1, a2, a3, M => b_X12_takesPast_80 n (f_X12_takesPast_80 n m) a1 a2 a3 M
theorem w_X12_takesPast_80 {g : qG} {k : qK} (n : Nat) (j r : Nat) (hj : q_isLaw j) (hr : q_isLaw r) (o : qOk g 3 zX12_takesPast k) : ∀ (m : Nat) (a1 a2 a3 : Int32) (M : qM), qAE g k zX12_takesPast (qL j r) 80 [some (.inr (some 77)), some (.inl a1), some (.inl a2), some (.inl a3), none] [] (qL j r, M) (f_X12_takesPast_80 n m a1 a2 a3 M) := by
  intro m
  induction m with
  | zero =>
    intro a1 a2 a3 M
    exact qr_none
  | succ m ih =>
    intro a1 a2 a3 M
    exact wb_X12_takesPast_80 n j r hj hr o (f_X12_takesPast_80 n m) ih a1 a2 a3 M
def b_X12_takesPast_42 (n : Nat) (K7 : Int32 → Int32 → Int32 → qM → qR) (K42 : Int32 → Int32 → Int32 → Int32 → qM → qR) (a1 a2 a3 a4 : Int32) (M : qM) : qR :=
  (if a3 ≤ a4 then ql (a3 + (1 : Int32)) (fun x1 => K7 a1 a2 x1 M) else qg a4 4 (qg a3 4 ((if (M 116 a4.toNatClampNeg) = (M 116 a3.toNatClampNeg) then some ((0 : Int32), M) else ql (a4 + (1 : Int32)) (fun x2 => K42 a1 a2 a3 x2 M)))))
set_option maxRecDepth 4000 in
theorem wb_X12_takesPast_42 {g : qG} {k : qK} (n : Nat) (j r : Nat) (hj : q_isLaw j) (hr : q_isLaw r) (o : qOk g 3 zX12_takesPast k) (K7 : Int32 → Int32 → Int32 → qM → qR) (hK7 : ∀ (a1 a2 a3 : Int32) (M : qM), qAE g k zX12_takesPast (qL j r) 7 [some (.inr (some 77)), some (.inl a1), some (.inl a2), some (.inl a3), none] [] (qL j r, M) (K7 a1 a2 a3 M)) (K42 : Int32 → Int32 → Int32 → Int32 → qM → qR) (hK42 : ∀ (a1 a2 a3 a4 : Int32) (M : qM), qAE g k zX12_takesPast (qL j r) 42 [some (.inr (some 77)), some (.inl a1), some (.inl a2), some (.inl a3), some (.inl a4)] [] (qL j r, M) (K42 a1 a2 a3 a4 M)) (a1 a2 a3 a4 : Int32) (M : qM) : qAE g k zX12_takesPast (qL j r) 42 [some (.inr (some 77)), some (.inl a1), some (.inl a2), some (.inl a3), some (.inl a4)] [] (qL j r, M) (b_X12_takesPast_42 n K7 K42 a1 a2 a3 a4 M) := by
  unfold b_X12_takesPast_42
  refine qr_iload o (q_dm dm_X12_takesPast 27 rfl) rfl ?_
  refine qr_iload_n o (q_dm dm_X12_takesPast 28 rfl) rfl ?_
  refine qr_icmp_ge (tgt := 72) o (q_dm dm_X12_takesPast 29 rfl) (by decide) ?_ ?_
  · refine qs_iincl2 (L' := fun x1 => [some (.inr (some 77)), some (.inl a1), some (.inl a2), some (.inl x1), some (.inl a4)]) o (q_dm dm_X12_takesPast 43 rfl) rfl ic_1 (Nat.le_of_ble_eq_true rfl) (fun _ => rfl) (fun x1 => ?_)
    refine qr_goto (tgt := 7) o (q_dm dm_X12_takesPast 44 rfl) (by decide) ?_
    exact qr_loc (q_leS (q_leS (q_leS (q_leS (q_leN q_le0))))) (hK7 a1 a2 x1 M)
  · refine qr_aload_n o (q_dm dm_X12_takesPast 30 rfl) rfl ?_
    refine qr_getr (kf := 62) o cf_X12 (sh77 j r) rfl (Nat.le_of_ble_eq_true rfl) fl_X12_127 (q_dm dm_X12_takesPast 31 rfl) ?_
    refine qr_iload o (q_dm dm_X12_takesPast 32 rfl) rfl ?_
    refine qr_iald o (sh116 j r) (q_dm dm_X12_takesPast 33 rfl) ?_
    refine qr_aload_n o (q_dm dm_X12_takesPast 34 rfl) rfl ?_
    refine qr_getr (kf := 62) o cf_X12 (sh77 j r) rfl (Nat.le_of_ble_eq_true rfl) fl_X12_127 (q_dm dm_X12_takesPast 35 rfl) ?_
    refine qr_iload_n o (q_dm dm_X12_takesPast 36 rfl) rfl ?_
    refine qr_iald o (sh116 j r) (q_dm dm_X12_takesPast 37 rfl) ?_
    refine qr_icmp_ne (tgt := 66) o (q_dm dm_X12_takesPast 38 rfl) (by decide) ?_ ?_
    · refine qs_iincl2 (L' := fun x2 => [some (.inr (some 77)), some (.inl a1), some (.inl a2), some (.inl a3), some (.inl x2)]) o (q_dm dm_X12_takesPast 41 rfl) rfl ic_1 (Nat.le_of_ble_eq_true rfl) (fun _ => rfl) (fun x2 => ?_)
      refine qr_goto (tgt := 42) o (q_dm dm_X12_takesPast 42 rfl) (by decide) ?_
      exact qr_loc (q_leS (q_leS (q_leS (q_leS (q_leS q_le0))))) (hK42 a1 a2 a3 x2 M)
    · refine qr_iconst o (q_dm dm_X12_takesPast 39 rfl) ic_0 ?_
      exact qr_iret o rfl (by decide) (q_dm dm_X12_takesPast 40 rfl)

def f_X12_takesPast_42 (n : Nat) (K7 : Int32 → Int32 → Int32 → qM → qR) : Nat → Int32 → Int32 → Int32 → Int32 → qM → qR
  | 0, _, _, _, _, _ => none
  | m + 1, a1, a2, a3, a4, M => b_X12_takesPast_42 n K7 (f_X12_takesPast_42 n K7 m) a1 a2 a3 a4 M
theorem w_X12_takesPast_42 {g : qG} {k : qK} (n : Nat) (j r : Nat) (hj : q_isLaw j) (hr : q_isLaw r) (o : qOk g 3 zX12_takesPast k) (K7 : Int32 → Int32 → Int32 → qM → qR) (hK7 : ∀ (a1 a2 a3 : Int32) (M : qM), qAE g k zX12_takesPast (qL j r) 7 [some (.inr (some 77)), some (.inl a1), some (.inl a2), some (.inl a3), none] [] (qL j r, M) (K7 a1 a2 a3 M)) : ∀ (m : Nat) (a1 a2 a3 a4 : Int32) (M : qM), qAE g k zX12_takesPast (qL j r) 42 [some (.inr (some 77)), some (.inl a1), some (.inl a2), some (.inl a3), some (.inl a4)] [] (qL j r, M) (f_X12_takesPast_42 n K7 m a1 a2 a3 a4 M) := by
  intro m
  induction m with
  | zero =>
    intro a1 a2 a3 a4 M
    exact qr_none
  | succ m ih =>
    intro a1 a2 a3 a4 M
    exact wb_X12_takesPast_42 n j r hj hr o K7 hK7 (f_X12_takesPast_42 n K7 m) ih a1 a2 a3 a4 M
def b_X12_takesPast_7 (n : Nat) (K7 : Int32 → Int32 → Int32 → qM → qR) (a1 a2 a3 : Int32) (M : qM) : qR :=
  (if a1 ≤ a3 then f_X12_takesPast_80 n n a1 a2 (0 : Int32) M else qg a3 260 (qg a3 4 (qlm (mu M 116 a3.toNatClampNeg (M 84 a3.toNatClampNeg)) (fun m1 => qg a3 4 (qc (f_X12_isKind n (m1 116 a3.toNatClampNeg) m1) (fun r2 m3 => (if r2 = (0 : Int32) then some ((0 : Int32), m3) else f_X12_takesPast_42 n K7 n a1 a2 a3 (0 : Int32) m3)))))))
set_option maxRecDepth 4000 in
theorem wb_X12_takesPast_7 {g : qG} {k : qK} (n : Nat) (j r : Nat) (hj : q_isLaw j) (hr : q_isLaw r) (o : qOk g 3 zX12_takesPast k) (K7 : Int32 → Int32 → Int32 → qM → qR) (hK7 : ∀ (a1 a2 a3 : Int32) (M : qM), qAE g k zX12_takesPast (qL j r) 7 [some (.inr (some 77)), some (.inl a1), some (.inl a2), some (.inl a3), none] [] (qL j r, M) (K7 a1 a2 a3 M)) (a1 a2 a3 : Int32) (M : qM) : qAE g k zX12_takesPast (qL j r) 7 [some (.inr (some 77)), some (.inl a1), some (.inl a2), some (.inl a3), none] [] (qL j r, M) (b_X12_takesPast_7 n K7 a1 a2 a3 M) := by
  unfold b_X12_takesPast_7
  refine qr_iload_n o (q_dm dm_X12_takesPast 5 rfl) rfl ?_
  refine qr_iload_n o (q_dm dm_X12_takesPast 6 rfl) rfl ?_
  refine qr_icmp_ge (tgt := 78) o (q_dm dm_X12_takesPast 7 rfl) (by decide) ?_ ?_
  · refine qr_iconst o (q_dm dm_X12_takesPast 45 rfl) ic_0 ?_
    refine qs_istore_n (L' := [some (.inr (some 77)), some (.inl a1), some (.inl a2), some (.inl (0 : Int32)), none]) o (q_dm dm_X12_takesPast 46 rfl) (Nat.le_of_ble_eq_true rfl) rfl ?_
    exact qr_loc (q_leS (q_leS (q_leS (q_leS (q_leN q_le0))))) (w_X12_takesPast_80 n j r hj hr o n a1 a2 (0 : Int32) M)
  · refine qr_aload_n o (q_dm dm_X12_takesPast 8 rfl) rfl ?_
    refine qr_getr (kf := 62) o cf_X12 (sh77 j r) rfl (Nat.le_of_ble_eq_true rfl) fl_X12_127 (q_dm dm_X12_takesPast 9 rfl) ?_
    refine qr_iload_n o (q_dm dm_X12_takesPast 10 rfl) rfl ?_
    refine qr_aload_n o (q_dm dm_X12_takesPast 11 rfl) rfl ?_
    refine qr_getr (kf := 7) o cf_X12 (sh77 j r) rfl (Nat.le_of_ble_eq_true rfl) fl_X12_28 (q_dm dm_X12_takesPast 12 rfl) ?_
    refine qr_iload_n o (q_dm dm_X12_takesPast 13 rfl) rfl ?_
    refine qr_bald o (sh84 j r) (q_dm dm_X12_takesPast 14 rfl) ?_
    refine qr_iast o (sh116 j r) (q_dm dm_X12_takesPast 15 rfl) ?_
    refine qr_letm (fun m1 => ?_)
    refine qr_aload_n o (q_dm dm_X12_takesPast 16 rfl) rfl ?_
    refine qr_aload_n o (q_dm dm_X12_takesPast 17 rfl) rfl ?_
    refine qr_getr (kf := 62) o cf_X12 (sh77 j r) rfl (Nat.le_of_ble_eq_true rfl) fl_X12_127 (q_dm dm_X12_takesPast 18 rfl) ?_
    refine qr_iload_n o (q_dm dm_X12_takesPast 19 rfl) rfl ?_
    refine qr_iald o (sh116 j r) (q_dm dm_X12_takesPast 20 rfl) ?_
    refine qr_callv_i (As := [.inl (m1 116 a3.toNatClampNeg)]) (S := []) o (a_X12_isKind g k.2.1 n j r hj hr (m1 116 a3.toNatClampNeg) m1) (Nat.le_of_ble_eq_true rfl) zv_X12_isKind rfl cf_X12 (sh77 j r) ml_X12_157 (Nat.le_of_ble_eq_true rfl) (q_dm dm_X12_takesPast 21 rfl) (fun r2 m3 => ?_)
    refine qr_if_ne (tgt := 39) o (q_dm dm_X12_takesPast 22 rfl) (by decide) ?_ ?_
    · refine qr_iconst o (q_dm dm_X12_takesPast 25 rfl) ic_0 ?_
      refine qs_istore (L' := [some (.inr (some 77)), some (.inl a1), some (.inl a2), some (.inl a3), some (.inl (0 : Int32))]) o (q_dm dm_X12_takesPast 26 rfl) (Nat.le_of_ble_eq_true rfl) rfl ?_
      exact qr_loc (q_leS (q_leS (q_leS (q_leS (q_leS q_le0))))) (w_X12_takesPast_42 n j r hj hr o K7 hK7 n a1 a2 a3 (0 : Int32) m3)
    · refine qr_iconst o (q_dm dm_X12_takesPast 23 rfl) ic_0 ?_
      exact qr_iret o rfl (by decide) (q_dm dm_X12_takesPast 24 rfl)

def f_X12_takesPast_7 (n : Nat) : Nat → Int32 → Int32 → Int32 → qM → qR
  | 0, _, _, _, _ => none
  | m + 1, a1, a2, a3, M => b_X12_takesPast_7 n (f_X12_takesPast_7 n m) a1 a2 a3 M
theorem w_X12_takesPast_7 {g : qG} {k : qK} (n : Nat) (j r : Nat) (hj : q_isLaw j) (hr : q_isLaw r) (o : qOk g 3 zX12_takesPast k) : ∀ (m : Nat) (a1 a2 a3 : Int32) (M : qM), qAE g k zX12_takesPast (qL j r) 7 [some (.inr (some 77)), some (.inl a1), some (.inl a2), some (.inl a3), none] [] (qL j r, M) (f_X12_takesPast_7 n m a1 a2 a3 M) := by
  intro m
  induction m with
  | zero =>
    intro a1 a2 a3 M
    exact qr_none
  | succ m ih =>
    intro a1 a2 a3 M
    exact wb_X12_takesPast_7 n j r hj hr o (f_X12_takesPast_7 n m) ih a1 a2 a3 M
def f_X12_takesPast (n : Nat) (a1 a2 : Int32) (M : qM) : qR :=
  qlm (mu M 77 61 a1) (fun m1 => f_X12_takesPast_7 n n a1 a2 (0 : Int32) m1)
set_option maxRecDepth 4000 in
theorem w_X12_takesPast {g : qG} {k : qK} (n : Nat) (j r : Nat) (hj : q_isLaw j) (hr : q_isLaw r) (o : qOk g 3 zX12_takesPast k) (a1 a2 : Int32) (M : qM) : qAE g k zX12_takesPast (qL j r) 0 [some (.inr (some 77)), some (.inl a1), some (.inl a2), none, none] [] (qL j r, M) (f_X12_takesPast n a1 a2 M) := by
  unfold f_X12_takesPast
  refine qr_aload_n o (q_dm dm_X12_takesPast 0 rfl) rfl ?_
  refine qr_iload_n o (q_dm dm_X12_takesPast 1 rfl) rfl ?_
  refine qr_putf (kf := 61) o cf_X12 (sh77 j r) rfl (Nat.le_of_ble_eq_true rfl) fl_X12_454 rfl (by decide +kernel) (q_dm dm_X12_takesPast 2 rfl) ?_
  refine qr_letm (fun m1 => ?_)
  refine qr_iconst o (q_dm dm_X12_takesPast 3 rfl) ic_0 ?_
  refine qs_istore_n (L' := [some (.inr (some 77)), some (.inl a1), some (.inl a2), some (.inl (0 : Int32)), none]) o (q_dm dm_X12_takesPast 4 rfl) (Nat.le_of_ble_eq_true rfl) rfl ?_
  exact qr_loc (q_leS (q_leS (q_leS (q_leS (q_leN q_le0))))) (w_X12_takesPast_7 n j r hj hr o n a1 a2 (0 : Int32) m1)

theorem a_X12_takesPast (g : qG) (l : Launch) (n : Nat) (j r : Nat) (hj : q_isLaw j) (hr : q_isLaw r) (a1 a2 : Int32) (M : qM) : qAM g l 3 zX12_takesPast (qL j r) [.inr (some 77), .inl a1, .inl a2] (qL j r, M) (f_X12_takesPast n a1 a2 M) :=
  qAM.of zv_X12_takesPast.1 (by show 3 ≤ 5; decide) (fun k hk o => w_X12_takesPast n j r hj hr o a1 a2 M)
