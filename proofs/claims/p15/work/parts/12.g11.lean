def tb_X11_undo : List (Nat × Instr × Nat) := [(0, (.aload_n 0, 1)), (1, (.getfield 95, 3)), (4, (.ifCond .ne 5, 3)), (7, (.iconst 0, 1)), (8, (.ireturn, 1)), (9, (.aload_n 0, 1)), (10, (.getfield 26, 3)), (13, (.aload_n 0, 1)), (14, (.getfield 30, 3)), (17, (.invokevirtual 159, 3)), (20, (.iconst 1, 1)), (21, (.ireturn, 1))]
theorem dm_X11_undo : ∀ q ∈ tb_X11_undo, decode zX11_undo.2.1 q.1 = .ok q.2 := by decide +kernel
def f_X11_undo (n : Nat) (M : qM) : qR :=
  (if (M 0 12) = (0 : Int32) then some ((0 : Int32), M) else qc (f_X10_copy n 7 16 M) (fun _ m1 => some ((1 : Int32), m1)))
set_option maxRecDepth 4000 in
theorem w_X11_undo {g : qG} {k : qK} (n : Nat) (j r : Nat) (hj : q_isLaw j) (hr : q_isLaw r) (o : qOk g 2 zX11_undo k) (M : qM) : qAE g k zX11_undo (qL j r) 0 [some (.inr (some 0))] [] (qL j r, M) (f_X11_undo n  M) := by
  unfold f_X11_undo
  refine qr_aload_n o (q_dm dm_X11_undo 0 rfl) rfl ?_
  refine qr_getf (kf := 12) o cf_X11 (sh0 j r) rfl (Nat.le_of_ble_eq_true rfl) fl_X11_95 (q_dm dm_X11_undo 1 rfl) ?_
  refine qr_if_ne (tgt := 9) o (q_dm dm_X11_undo 2 rfl) (by decide) ?_ ?_
  · refine qr_aload_n o (q_dm dm_X11_undo 5 rfl) rfl ?_
    refine qr_getr (kf := 2) o cf_X11 (sh0 j r) rfl (Nat.le_of_ble_eq_true rfl) fl_X11_26 (q_dm dm_X11_undo 6 rfl) ?_
    refine qr_aload_n o (q_dm dm_X11_undo 7 rfl) rfl ?_
    refine qr_getr (kf := 3) o cf_X11 (sh0 j r) rfl (Nat.le_of_ble_eq_true rfl) fl_X11_30 (q_dm dm_X11_undo 8 rfl) ?_
    refine qr_callv_v (As := [.inr (some 16)]) (S := []) o (a_X10_copy g k.2.1 n j r hj hr (Or.inl rfl) (Or.inr (Or.inl rfl)) M) (Nat.le_of_ble_eq_true rfl) zv_X10_copy rfl cf_X10 (sh7 j r) ml_X11_159 (Nat.le_of_ble_eq_true rfl) (q_dm dm_X11_undo 9 rfl) (fun _ m1 => ?_)
    refine qr_iconst o (q_dm dm_X11_undo 10 rfl) ic_1 ?_
    exact qr_iret o rfl (by decide) (q_dm dm_X11_undo 11 rfl)
  · refine qr_iconst o (q_dm dm_X11_undo 3 rfl) ic_0 ?_
    exact qr_iret o rfl (by decide) (q_dm dm_X11_undo 4 rfl)

theorem a_X11_undo (g : qG) (l : Launch) (n : Nat) (j r : Nat) (hj : q_isLaw j) (hr : q_isLaw r) (M : qM) : qAM g l 2 zX11_undo (qL j r) [.inr (some 0)] (qL j r, M) (f_X11_undo n  M) :=
  qAM.of zv_X11_undo.1 (by show 1 ≤ 1; decide) (fun k hk o => w_X11_undo n j r hj hr o  M)
def tb_X12_has0 : List (Nat × Instr × Nat) := [(0, (.iload_n 0, 1)), (1, (.iload_n 1, 1)), (2, (.ishr, 1)), (3, (.iconst 1, 1)), (4, (.iand, 1)), (5, (.iconst 1, 1)), (6, (.if_icmp .ne 7, 3)), (9, (.iconst 1, 1)), (10, (.goto 4, 3)), (13, (.iconst 0, 1)), (14, (.ireturn, 1))]
theorem dm_X12_has0 : ∀ q ∈ tb_X12_has0, decode zX12_has0.2.1 q.1 = .ok q.2 := by decide +kernel
def f_X12_has0 (n : Nat) (a0 a1 : Int32) (M : qM) : qR :=
  (if ((a0 >>> (a1 &&& 31)) &&& (1 : Int32)) = (1 : Int32) then some ((1 : Int32), M) else some ((0 : Int32), M))
set_option maxRecDepth 4000 in
theorem w_X12_has0 {g : qG} {k : qK} (n : Nat) (j r : Nat) (hj : q_isLaw j) (hr : q_isLaw r) (o : qOk g 0 zX12_has0 k) (a0 a1 : Int32) (M : qM) : qAE g k zX12_has0 (qL j r) 0 [some (.inl a0), some (.inl a1)] [] (qL j r, M) (f_X12_has0 n a0 a1 M) := by
  unfold f_X12_has0
  refine qr_iload_n o (q_dm dm_X12_has0 0 rfl) rfl ?_
  refine qr_iload_n o (q_dm dm_X12_has0 1 rfl) rfl ?_
  refine qr_ishr o (q_dm dm_X12_has0 2 rfl) ?_
  refine qr_iconst o (q_dm dm_X12_has0 3 rfl) ic_1 ?_
  refine qr_iand o (q_dm dm_X12_has0 4 rfl) ?_
  refine qr_iconst o (q_dm dm_X12_has0 5 rfl) ic_1 ?_
  refine qr_icmp_ne (tgt := 13) o (q_dm dm_X12_has0 6 rfl) (by decide) ?_ ?_
  · refine qr_iconst o (q_dm dm_X12_has0 9 rfl) ic_0 ?_
    exact qr_iret o rfl (by decide) (q_dm dm_X12_has0 10 rfl)
  · refine qr_iconst o (q_dm dm_X12_has0 7 rfl) ic_1 ?_
    refine qr_goto (tgt := 14) o (q_dm dm_X12_has0 8 rfl) (by decide) ?_
    exact qr_iret o rfl (by decide) (q_dm dm_X12_has0 10 rfl)

theorem a_X12_has0 (g : qG) (l : Launch) (n : Nat) (j r : Nat) (hj : q_isLaw j) (hr : q_isLaw r) (a0 a1 : Int32) (M : qM) : qAM g l 0 zX12_has0 (qL j r) [.inl a0, .inl a1] (qL j r, M) (f_X12_has0 n a0 a1 M) :=
  qAM.of zs_X12_has0.1 (by show 2 ≤ 2; decide) (fun k hk o => w_X12_has0 n j r hj hr o a0 a1 M)
def tb_X12_isKind : List (Nat × Instr × Nat) := [(0, (.iload_n 1, 1)), (1, (.ifCond .lt 24, 3)), (4, (.iload_n 1, 1)), (5, (.bipush 12, 2)), (7, (.if_icmp .ge 18, 3)), (10, (.aload_n 0, 1)), (11, (.getfield 145, 3)), (14, (.iload_n 1, 1)), (15, (.invokestatic 149, 3)), (18, (.ifCond .eq 7, 3)), (21, (.iconst 1, 1)), (22, (.goto 4, 3)), (25, (.iconst 0, 1)), (26, (.ireturn, 1))]
theorem dm_X12_isKind : ∀ q ∈ tb_X12_isKind, decode zX12_isKind.2.1 q.1 = .ok q.2 := by decide +kernel
def f_X12_isKind (n : Nat) (a1 : Int32) (M : qM) : qR :=
  (if a1 < (0 : Int32) then some ((0 : Int32), M) else (if (12 : Int32) ≤ a1 then some ((0 : Int32), M) else qc (f_X12_has0 n (M 77 6) a1 M) (fun r1 m2 => (if r1 = (0 : Int32) then some ((0 : Int32), m2) else some ((1 : Int32), m2)))))
set_option maxRecDepth 4000 in
theorem w_X12_isKind {g : qG} {k : qK} (n : Nat) (j r : Nat) (hj : q_isLaw j) (hr : q_isLaw r) (o : qOk g 1 zX12_isKind k) (a1 : Int32) (M : qM) : qAE g k zX12_isKind (qL j r) 0 [some (.inr (some 77)), some (.inl a1)] [] (qL j r, M) (f_X12_isKind n a1 M) := by
  unfold f_X12_isKind
  refine qr_iload_n o (q_dm dm_X12_isKind 0 rfl) rfl ?_
  refine qr_if_lt (tgt := 25) o (q_dm dm_X12_isKind 1 rfl) (by decide) ?_ ?_
  · refine qr_iconst o (q_dm dm_X12_isKind 12 rfl) ic_0 ?_
    exact qr_iret o rfl (by decide) (q_dm dm_X12_isKind 13 rfl)
  · refine qr_iload_n o (q_dm dm_X12_isKind 2 rfl) rfl ?_
    refine qr_bipush o (q_dm dm_X12_isKind 3 rfl) bi_12 ?_
    refine qr_icmp_ge (tgt := 25) o (q_dm dm_X12_isKind 4 rfl) (by decide) ?_ ?_
    · refine qr_iconst o (q_dm dm_X12_isKind 12 rfl) ic_0 ?_
      exact qr_iret o rfl (by decide) (q_dm dm_X12_isKind 13 rfl)
    · refine qr_aload_n o (q_dm dm_X12_isKind 5 rfl) rfl ?_
      refine qr_getf (kf := 6) o cf_X12 (sh77 j r) rfl (Nat.le_of_ble_eq_true rfl) fl_X12_145 (q_dm dm_X12_isKind 6 rfl) ?_
      refine qr_iload_n o (q_dm dm_X12_isKind 7 rfl) rfl ?_
      refine qr_calls_i (As := [.inl (M 77 6), .inl a1]) (S := []) o (a_X12_has0 g k.2.1 n j r hj hr (M 77 6) a1 M) (Nat.le_of_ble_eq_true rfl) zs_X12_has0 rfl ml_X12_149 (Nat.le_of_ble_eq_true rfl) (q_dm dm_X12_isKind 8 rfl) (fun r1 m2 => ?_)
      refine qr_if_eq (tgt := 25) o (q_dm dm_X12_isKind 9 rfl) (by decide) ?_ ?_
      · refine qr_iconst o (q_dm dm_X12_isKind 12 rfl) ic_0 ?_
        exact qr_iret o rfl (by decide) (q_dm dm_X12_isKind 13 rfl)
      · refine qr_iconst o (q_dm dm_X12_isKind 10 rfl) ic_1 ?_
        refine qr_goto (tgt := 26) o (q_dm dm_X12_isKind 11 rfl) (by decide) ?_
        exact qr_iret o rfl (by decide) (q_dm dm_X12_isKind 13 rfl)

theorem a_X12_isKind (g : qG) (l : Launch) (n : Nat) (j r : Nat) (hj : q_isLaw j) (hr : q_isLaw r) (a1 : Int32) (M : qM) : qAM g l 1 zX12_isKind (qL j r) [.inr (some 77), .inl a1] (qL j r, M) (f_X12_isKind n a1 M) :=
  qAM.of zv_X12_isKind.1 (by show 2 ≤ 2; decide) (fun k hk o => w_X12_isKind n j r hj hr o a1 M)
def tb_X12_bits : List (Nat × Instr × Nat) := [(0, (.iconst 0, 1)), (1, (.istore_n 1, 1)), (2, (.iconst 0, 1)), (3, (.istore_n 2, 1)), (4, (.iload_n 2, 1)), (5, (.bipush 12, 2)), (7, (.if_icmp .ge 17, 3)), (10, (.iload_n 1, 1)), (11, (.iload_n 0, 1)), (12, (.iload_n 2, 1)), (13, (.ishr, 1)), (14, (.iconst 1, 1)), (15, (.iand, 1)), (16, (.iadd, 1)), (17, (.istore_n 1, 1)), (18, (.iinc 2 1, 3)), (21, (.goto (-17), 3)), (24, (.iload_n 1, 1)), (25, (.ireturn, 1))]
theorem dm_X12_bits : ∀ q ∈ tb_X12_bits, decode zX12_bits.2.1 q.1 = .ok q.2 := by decide +kernel
def b_X12_bits_4 (n : Nat) (K4 : Int32 → Int32 → Int32 → qM → qR) (a0 a1 a2 : Int32) (M : qM) : qR :=
  (if (12 : Int32) ≤ a2 then some (a1, M) else ql (a1 + ((a0 >>> (a2 &&& 31)) &&& (1 : Int32))) (fun x1 => ql (a2 + (1 : Int32)) (fun x2 => K4 a0 x1 x2 M)))
set_option maxRecDepth 4000 in
theorem wb_X12_bits_4 {g : qG} {k : qK} (n : Nat) (j r : Nat) (hj : q_isLaw j) (hr : q_isLaw r) (o : qOk g 0 zX12_bits k) (K4 : Int32 → Int32 → Int32 → qM → qR) (hK4 : ∀ (a0 a1 a2 : Int32) (M : qM), qAE g k zX12_bits (qL j r) 4 [some (.inl a0), some (.inl a1), some (.inl a2)] [] (qL j r, M) (K4 a0 a1 a2 M)) (a0 a1 a2 : Int32) (M : qM) : qAE g k zX12_bits (qL j r) 4 [some (.inl a0), some (.inl a1), some (.inl a2)] [] (qL j r, M) (b_X12_bits_4 n K4 a0 a1 a2 M) := by
  unfold b_X12_bits_4
  refine qr_iload_n o (q_dm dm_X12_bits 4 rfl) rfl ?_
  refine qr_bipush o (q_dm dm_X12_bits 5 rfl) bi_12 ?_
  refine qr_icmp_ge (tgt := 24) o (q_dm dm_X12_bits 6 rfl) (by decide) ?_ ?_
  · refine qr_iload_n o (q_dm dm_X12_bits 17 rfl) rfl ?_
    exact qr_iret o rfl rfl (q_dm dm_X12_bits 18 rfl)
  · refine qr_iload_n o (q_dm dm_X12_bits 7 rfl) rfl ?_
    refine qr_iload_n o (q_dm dm_X12_bits 8 rfl) rfl ?_
    refine qr_iload_n o (q_dm dm_X12_bits 9 rfl) rfl ?_
    refine qr_ishr o (q_dm dm_X12_bits 10 rfl) ?_
    refine qr_iconst o (q_dm dm_X12_bits 11 rfl) ic_1 ?_
    refine qr_iand o (q_dm dm_X12_bits 12 rfl) ?_
    refine qr_iadd o (q_dm dm_X12_bits 13 rfl) ?_
    refine qr_lt (fun x1 => ?_)
    refine qs_istore_n (L' := [some (.inl a0), some (.inl x1), some (.inl a2)]) o (q_dm dm_X12_bits 14 rfl) (Nat.le_of_ble_eq_true rfl) rfl ?_
    refine qs_iincl2 (L' := fun x2 => [some (.inl a0), some (.inl x1), some (.inl x2)]) o (q_dm dm_X12_bits 15 rfl) rfl ic_1 (Nat.le_of_ble_eq_true rfl) (fun _ => rfl) (fun x2 => ?_)
    refine qr_goto (tgt := 4) o (q_dm dm_X12_bits 16 rfl) (by decide) ?_
    exact qr_loc (q_leS (q_leS (q_leS q_le0))) (hK4 a0 x1 x2 M)

def f_X12_bits_4 (n : Nat) : Nat → Int32 → Int32 → Int32 → qM → qR
  | 0, _, _, _, _ => none
  | m + 1, a0, a1, a2, M => b_X12_bits_4 n (f_X12_bits_4 n m) a0 a1 a2 M
theorem w_X12_bits_4 {g : qG} {k : qK} (n : Nat) (j r : Nat) (hj : q_isLaw j) (hr : q_isLaw r) (o : qOk g 0 zX12_bits k) : ∀ (m : Nat) (a0 a1 a2 : Int32) (M : qM), qAE g k zX12_bits (qL j r) 4 [some (.inl a0), some (.inl a1), some (.inl a2)] [] (qL j r, M) (f_X12_bits_4 n m a0 a1 a2 M) := by
  intro m
  induction m with
  | zero =>
    intro a0 a1 a2 M
    exact qr_none
  | succ m ih =>
    intro a0 a1 a2 M
    exact wb_X12_bits_4 n j r hj hr o (f_X12_bits_4 n m) ih a0 a1 a2 M
def f_X12_bits (n : Nat) (a0 : Int32) (M : qM) : qR :=
  f_X12_bits_4 n n a0 (0 : Int32) (0 : Int32) M
set_option maxRecDepth 4000 in
theorem w_X12_bits {g : qG} {k : qK} (n : Nat) (j r : Nat) (hj : q_isLaw j) (hr : q_isLaw r) (o : qOk g 0 zX12_bits k) (a0 : Int32) (M : qM) : qAE g k zX12_bits (qL j r) 0 [some (.inl a0), none, none] [] (qL j r, M) (f_X12_bits n a0 M) := by
  unfold f_X12_bits
  refine qr_iconst o (q_dm dm_X12_bits 0 rfl) ic_0 ?_
  refine qs_istore_n (L' := [some (.inl a0), some (.inl (0 : Int32)), none]) o (q_dm dm_X12_bits 1 rfl) (Nat.le_of_ble_eq_true rfl) rfl ?_
  refine qr_iconst o (q_dm dm_X12_bits 2 rfl) ic_0 ?_
  refine qs_istore_n (L' := [some (.inl a0), some (.inl (0 : Int32)), some (.inl (0 : Int32))]) o (q_dm dm_X12_bits 3 rfl) (Nat.le_of_ble_eq_true rfl) rfl ?_
  exact qr_loc (q_leS (q_leS (q_leS q_le0))) (w_X12_bits_4 n j r hj hr o n a0 (0 : Int32) (0 : Int32) M)

theorem a_X12_bits (g : qG) (l : Launch) (n : Nat) (j r : Nat) (hj : q_isLaw j) (hr : q_isLaw r) (a0 : Int32) (M : qM) : qAM g l 0 zX12_bits (qL j r) [.inl a0] (qL j r, M) (f_X12_bits n a0 M) :=
  qAM.of zs_X12_bits.1 (by show 1 ≤ 3; decide) (fun k hk o => w_X12_bits n j r hj hr o a0 M)
def tb_X12_reckon : List (Nat × Instr × Nat) := [(0, (.iload_n 0, 1)), (1, (.tableswitch 85 2 8 #[43, 47, 51, 55, 59, 63, 74], 43)), (44, (.iload_n 1, 1)), (45, (.iload_n 2, 1)), (46, (.iadd, 1)), (47, (.ireturn, 1)), (48, (.iload_n 1, 1)), (49, (.iload_n 2, 1)), (50, (.isub, 1)), (51, (.ireturn, 1)), (52, (.iload_n 1, 1)), (53, (.iload_n 2, 1)), (54, (.imul, 1)), (55, (.ireturn, 1)), (56, (.iload_n 1, 1)), (57, (.iload_n 2, 1)), (58, (.idiv, 1)), (59, (.ireturn, 1)), (60, (.iload_n 1, 1)), (61, (.iload_n 2, 1)), (62, (.irem, 1)), (63, (.ireturn, 1)), (64, (.iload_n 1, 1)), (65, (.iload_n 2, 1)), (66, (.if_icmp .ge 7, 3)), (69, (.iconst 1, 1)), (70, (.goto 4, 3)), (73, (.iconst 0, 1)), (74, (.ireturn, 1)), (75, (.iload_n 1, 1)), (76, (.iload_n 2, 1)), (77, (.if_icmp .le 7, 3)), (80, (.iconst 1, 1)), (81, (.goto 4, 3)), (84, (.iconst 0, 1)), (85, (.ireturn, 1)), (86, (.iload_n 1, 1)), (87, (.iload_n 2, 1)), (88, (.if_icmp .ne 7, 3)), (91, (.iconst 1, 1)), (92, (.goto 4, 3)), (95, (.iconst 0, 1)), (96, (.ireturn, 1))]
theorem dm_X12_reckon : ∀ q ∈ tb_X12_reckon, decode zX12_reckon.2.1 q.1 = .ok q.2 := by decide +kernel
def f_X12_reckon (n : Nat) (a0 a1 a2 : Int32) (M : qM) : qR :=
  qsw a0 [((2 : Int32), some ((a1 + a2), M)), ((3 : Int32), some ((a1 - a2), M)), ((4 : Int32), some ((a1 * a2), M)), ((5 : Int32), qd a2 (some ((a1 / a2), M))), ((6 : Int32), qd a2 (some ((a1 - a1 / a2 * a2), M))), ((7 : Int32), (if a2 ≤ a1 then some ((0 : Int32), M) else some ((1 : Int32), M))), ((8 : Int32), (if a1 ≤ a2 then some ((0 : Int32), M) else some ((1 : Int32), M)))] ((if a1 = a2 then some ((1 : Int32), M) else some ((0 : Int32), M)))
set_option maxRecDepth 4000 in
theorem w_X12_reckon {g : qG} {k : qK} (n : Nat) (j r : Nat) (hj : q_isLaw j) (hr : q_isLaw r) (o : qOk g 0 zX12_reckon k) (a0 a1 a2 : Int32) (M : qM) : qAE g k zX12_reckon (qL j r) 0 [some (.inl a0), some (.inl a1), some (.inl a2)] [] (qL j r, M) (f_X12_reckon n a0 a1 a2 M) := by
  unfold f_X12_reckon
  refine qr_iload_n o (q_dm dm_X12_reckon 0 rfl) rfl ?_
  refine qr_tablep (tgt := 86) o (q_dm dm_X12_reckon 1 rfl) (by show (_ : Int) + (7 : Nat) = _; decide) (by decide) ?_ (q_tbc (43) 44 (by decide) rfl (by decide) ?_ (q_tbc (47) 48 (by decide) rfl (by decide) ?_ (q_tbc (51) 52 (by decide) rfl (by decide) ?_ (q_tbc (55) 56 (by decide) rfl (by decide) ?_ (q_tbc (59) 60 (by decide) rfl (by decide) ?_ (q_tbc (63) 64 (by decide) rfl (by decide) ?_ (q_tbc (74) 75 (by decide) rfl (by decide) ?_ q_tbn)))))))
  · refine qr_iload_n o (q_dm dm_X12_reckon 36 rfl) rfl ?_
    refine qr_iload_n o (q_dm dm_X12_reckon 37 rfl) rfl ?_
    refine qr_icmp_ne (tgt := 95) o (q_dm dm_X12_reckon 38 rfl) (by decide) ?_ ?_
    · refine qr_iconst o (q_dm dm_X12_reckon 41 rfl) ic_0 ?_
      exact qr_iret o rfl rfl (q_dm dm_X12_reckon 42 rfl)
    · refine qr_iconst o (q_dm dm_X12_reckon 39 rfl) ic_1 ?_
      refine qr_goto (tgt := 96) o (q_dm dm_X12_reckon 40 rfl) (by decide) ?_
      exact qr_iret o rfl rfl (q_dm dm_X12_reckon 42 rfl)
  · refine qr_iload_n o (q_dm dm_X12_reckon 2 rfl) rfl ?_
    refine qr_iload_n o (q_dm dm_X12_reckon 3 rfl) rfl ?_
    refine qr_iadd o (q_dm dm_X12_reckon 4 rfl) ?_
    exact qr_iret o rfl rfl (q_dm dm_X12_reckon 5 rfl)
  · refine qr_iload_n o (q_dm dm_X12_reckon 6 rfl) rfl ?_
    refine qr_iload_n o (q_dm dm_X12_reckon 7 rfl) rfl ?_
    refine qr_isub o (q_dm dm_X12_reckon 8 rfl) ?_
    exact qr_iret o rfl rfl (q_dm dm_X12_reckon 9 rfl)
  · refine qr_iload_n o (q_dm dm_X12_reckon 10 rfl) rfl ?_
    refine qr_iload_n o (q_dm dm_X12_reckon 11 rfl) rfl ?_
    refine qr_imul o (q_dm dm_X12_reckon 12 rfl) ?_
    exact qr_iret o rfl rfl (q_dm dm_X12_reckon 13 rfl)
  · refine qr_iload_n o (q_dm dm_X12_reckon 14 rfl) rfl ?_
    refine qr_iload_n o (q_dm dm_X12_reckon 15 rfl) rfl ?_
    refine qr_idiv o (q_dm dm_X12_reckon 16 rfl) ?_
    exact qr_iret o rfl rfl (q_dm dm_X12_reckon 17 rfl)
  · refine qr_iload_n o (q_dm dm_X12_reckon 18 rfl) rfl ?_
    refine qr_iload_n o (q_dm dm_X12_reckon 19 rfl) rfl ?_
    refine qr_irem o (q_dm dm_X12_reckon 20 rfl) ?_
    exact qr_iret o rfl rfl (q_dm dm_X12_reckon 21 rfl)
  · refine qr_iload_n o (q_dm dm_X12_reckon 22 rfl) rfl ?_
    refine qr_iload_n o (q_dm dm_X12_reckon 23 rfl) rfl ?_
    refine qr_icmp_ge (tgt := 73) o (q_dm dm_X12_reckon 24 rfl) (by decide) ?_ ?_
    · refine qr_iconst o (q_dm dm_X12_reckon 27 rfl) ic_0 ?_
      exact qr_iret o rfl rfl (q_dm dm_X12_reckon 28 rfl)
    · refine qr_iconst o (q_dm dm_X12_reckon 25 rfl) ic_1 ?_
      refine qr_goto (tgt := 74) o (q_dm dm_X12_reckon 26 rfl) (by decide) ?_
      exact qr_iret o rfl rfl (q_dm dm_X12_reckon 28 rfl)
  · refine qr_iload_n o (q_dm dm_X12_reckon 29 rfl) rfl ?_
    refine qr_iload_n o (q_dm dm_X12_reckon 30 rfl) rfl ?_
    refine qr_icmp_le (tgt := 84) o (q_dm dm_X12_reckon 31 rfl) (by decide) ?_ ?_
    · refine qr_iconst o (q_dm dm_X12_reckon 34 rfl) ic_0 ?_
      exact qr_iret o rfl rfl (q_dm dm_X12_reckon 35 rfl)
    · refine qr_iconst o (q_dm dm_X12_reckon 32 rfl) ic_1 ?_
      refine qr_goto (tgt := 85) o (q_dm dm_X12_reckon 33 rfl) (by decide) ?_
      exact qr_iret o rfl rfl (q_dm dm_X12_reckon 35 rfl)

theorem a_X12_reckon (g : qG) (l : Launch) (n : Nat) (j r : Nat) (hj : q_isLaw j) (hr : q_isLaw r) (a0 a1 a2 : Int32) (M : qM) : qAM g l 0 zX12_reckon (qL j r) [.inl a0, .inl a1, .inl a2] (qL j r, M) (f_X12_reckon n a0 a1 a2 M) :=
  qAM.of zs_X12_reckon.1 (by show 3 ≤ 3; decide) (fun k hk o => w_X12_reckon n j r hj hr o a0 a1 a2 M)
def tb_X12_comesTo : List (Nat × Instr × Nat) := [(0, (.iconst 0, 1)), (1, (.istore_n 3, 1)), (2, (.sipush 260, 3)), (5, (.iload_n 1, 1)), (6, (.sipush 260, 3)), (9, (.idiv, 1)), (10, (.imul, 1)), (11, (.istore 4, 2)), (13, (.iload_n 1, 1)), (14, (.istore 5, 2)), (16, (.iload 5, 2)), (18, (.iload_n 2, 1)), (19, (.if_icmp .ge 214, 3)), (22, (.aload_n 0, 1)), (23, (.getfield 50, 3)), (26, (.iload 5, 2)), (28, (.iaload, 1)), (29, (.ldc 195, 2)), (31, (.idiv, 1)), (32, (.istore 6, 2)), (34, (.aload_n 0, 1)), (35, (.getfield 50, 3)), (38, (.iload 5, 2)), (40, (.iaload, 1)), (41, (.ldc 195, 2)), (43, (.irem, 1)), (44, (.istore 7, 2)), (46, (.iload 5, 2)), (48, (.iconst 1, 1)), (49, (.iadd, 1)), (50, (.istore 5, 2)), (52, (.iload 6, 2)), (54, (.ifCond .eq 9, 3)), (57, (.iload 6, 2)), (59, (.iconst 1, 1)), (60, (.if_icmp .ne 33, 3)), (63, (.aload_n 0, 1)), (64, (.getfield 65, 3)), (67, (.iload_n 3, 1)), (68, (.iload 6, 2)), (70, (.ifCond .ne 8, 3)), (73, (.iload 7, 2)), (75, (.goto 10, 3)), (78, (.aload_n 0, 1)), (79, (.getfield 68, 3)), (82, (.iload 7, 2)), (84, (.iaload, 1)), (85, (.iastore, 1)), (86, (.iload_n 3, 1)), (87, (.iconst 1, 1)), (88, (.iadd, 1)), (89, (.istore_n 3, 1)), (90, (.goto 140, 3)), (93, (.iload 6, 2)), (95, (.bipush 10, 2)), (97, (.if_icmp .ne 24, 3)), (100, (.aload_n 0, 1)), (101, (.getfield 65, 3)), (104, (.iload_n 3, 1)), (105, (.iconst 1, 1)), (106, (.isub, 1)), (107, (.iconst 1, 1)), (108, (.aload_n 0, 1)), (109, (.getfield 65, 3)), (112, (.iload_n 3, 1)), (113, (.iconst 1, 1)), (114, (.isub, 1)), (115, (.iaload, 1)), (116, (.isub, 1)), (117, (.iastore, 1)), (118, (.goto 112, 3)), (121, (.iload 6, 2)), (123, (.bipush 11, 2)), (125, (.if_icmp .eq 10, 3)), (128, (.iload 6, 2)), (130, (.bipush 12, 2)), (132, (.if_icmp .ne 43, 3)), (135, (.aload_n 0, 1)), (136, (.getfield 65, 3)), (139, (.iload_n 3, 1)), (140, (.iconst 1, 1)), (141, (.isub, 1)), (142, (.iaload, 1)), (143, (.iload 6, 2)), (145, (.bipush 12, 2)), (147, (.if_icmp .ne 7, 3)), (150, (.iconst 1, 1)), (151, (.goto 4, 3)), (154, (.iconst 0, 1)), (155, (.if_icmp .ne 13, 3)), (158, (.iload 4, 2)), (160, (.iload 7, 2)), (162, (.iadd, 1)), (163, (.istore 5, 2)), (165, (.goto 65, 3)), (168, (.iload_n 3, 1)), (169, (.iconst 1, 1)), (170, (.isub, 1)), (171, (.istore_n 3, 1)), (172, (.goto 58, 3)), (175, (.iload_n 3, 1)), (176, (.iconst 1, 1)), (177, (.isub, 1)), (178, (.istore_n 3, 1)), (179, (.iload 6, 2)), (181, (.iconst 5, 1)), (182, (.if_icmp .eq 10, 3)), (185, (.iload 6, 2)), (187, (.bipush 6, 2)), (189, (.if_icmp .ne 14, 3)), (192, (.aload_n 0, 1)), (193, (.getfield 65, 3)), (196, (.iload_n 3, 1)), (197, (.iaload, 1)), (198, (.ifCond .ne 5, 3)), (201, (.iconst 0, 1)), (202, (.ireturn, 1)), (203, (.aload_n 0, 1)), (204, (.getfield 65, 3)), (207, (.iload_n 3, 1)), (208, (.iconst 1, 1)), (209, (.isub, 1)), (210, (.iload 6, 2)), (212, (.aload_n 0, 1)), (213, (.getfield 65, 3)), (216, (.iload_n 3, 1)), (217, (.iconst 1, 1)), (218, (.isub, 1)), (219, (.iaload, 1)), (220, (.aload_n 0, 1)), (221, (.getfield 65, 3)), (224, (.iload_n 3, 1)), (225, (.iaload, 1)), (226, (.invokestatic 265, 3)), (229, (.iastore, 1)), (230, (.goto (-214), 3)), (233, (.aload_n 0, 1)), (234, (.getfield 65, 3)), (237, (.iconst 0, 1)), (238, (.iaload, 1)), (239, (.ireturn, 1))]
theorem dm_X12_comesTo : ∀ q ∈ tb_X12_comesTo, decode zX12_comesTo.2.1 q.1 = .ok q.2 := by decide +kernel
def f_X12_comesTo_203 (n : Nat) (K16 : Int32 → Int32 → Int32 → Int32 → qM → qR) (a2 a3 a4 a5 a6 : Int32) (M : qM) : qR :=
  qg (a3 - (1 : Int32)) 260 (qg a3 260 (qc (f_X12_reckon n a6 (M 96 (a3 - (1 : Int32)).toNatClampNeg) (M 96 a3.toNatClampNeg) M) (fun r1 m2 => qg (a3 - (1 : Int32)) 260 (qlm (mu m2 96 (a3 - (1 : Int32)).toNatClampNeg r1) (fun m3 => K16 a2 a3 a4 a5 m3)))))
set_option maxRecDepth 4000 in
theorem w_X12_comesTo_203 {g : qG} {k : qK} (n : Nat) (j r : Nat) (hj : q_isLaw j) (hr : q_isLaw r) (o : qOk g 1 zX12_comesTo k) (K16 : Int32 → Int32 → Int32 → Int32 → qM → qR) (hK16 : ∀ (a2 a3 a4 a5 : Int32) (M : qM), qAE g k zX12_comesTo (qL j r) 16 [some (.inr (some 77)), none, some (.inl a2), some (.inl a3), some (.inl a4), some (.inl a5), none, none] [] (qL j r, M) (K16 a2 a3 a4 a5 M)) (a2 a3 a4 a5 a6 : Int32) (M : qM) : qAE g k zX12_comesTo (qL j r) 203 [some (.inr (some 77)), none, some (.inl a2), some (.inl a3), some (.inl a4), some (.inl a5), some (.inl a6), none] [] (qL j r, M) (f_X12_comesTo_203 n K16 a2 a3 a4 a5 a6 M) := by
  unfold f_X12_comesTo_203
  refine qr_aload_n o (q_dm dm_X12_comesTo 117 rfl) rfl ?_
  refine qr_getr (kf := 29) o cf_X12 (sh77 j r) rfl (Nat.le_of_ble_eq_true rfl) fl_X12_65 (q_dm dm_X12_comesTo 118 rfl) ?_
  refine qr_iload_n o (q_dm dm_X12_comesTo 119 rfl) rfl ?_
  refine qr_iconst o (q_dm dm_X12_comesTo 120 rfl) ic_1 ?_
  refine qr_isub o (q_dm dm_X12_comesTo 121 rfl) ?_
  refine qr_iload o (q_dm dm_X12_comesTo 122 rfl) rfl ?_
  refine qr_aload_n o (q_dm dm_X12_comesTo 123 rfl) rfl ?_
  refine qr_getr (kf := 29) o cf_X12 (sh77 j r) rfl (Nat.le_of_ble_eq_true rfl) fl_X12_65 (q_dm dm_X12_comesTo 124 rfl) ?_
  refine qr_iload_n o (q_dm dm_X12_comesTo 125 rfl) rfl ?_
  refine qr_iconst o (q_dm dm_X12_comesTo 126 rfl) ic_1 ?_
  refine qr_isub o (q_dm dm_X12_comesTo 127 rfl) ?_
  refine qr_iald o (sh96 j r) (q_dm dm_X12_comesTo 128 rfl) ?_
  refine qr_aload_n o (q_dm dm_X12_comesTo 129 rfl) rfl ?_
  refine qr_getr (kf := 29) o cf_X12 (sh77 j r) rfl (Nat.le_of_ble_eq_true rfl) fl_X12_65 (q_dm dm_X12_comesTo 130 rfl) ?_
  refine qr_iload_n o (q_dm dm_X12_comesTo 131 rfl) rfl ?_
  refine qr_iald o (sh96 j r) (q_dm dm_X12_comesTo 132 rfl) ?_
  refine qr_calls_i (As := [.inl a6, .inl (M 96 (a3 - (1 : Int32)).toNatClampNeg), .inl (M 96 a3.toNatClampNeg)]) (S := [.inl (a3 - (1 : Int32)), .inr (some 96)]) o (a_X12_reckon g k.2.1 n j r hj hr a6 (M 96 (a3 - (1 : Int32)).toNatClampNeg) (M 96 a3.toNatClampNeg) M) (Nat.le_of_ble_eq_true rfl) zs_X12_reckon rfl ml_X12_265 (Nat.le_of_ble_eq_true rfl) (q_dm dm_X12_comesTo 133 rfl) (fun r1 m2 => ?_)
  refine qr_iast o (sh96 j r) (q_dm dm_X12_comesTo 134 rfl) ?_
  refine qr_letm (fun m3 => ?_)
  refine qr_goto (tgt := 16) o (q_dm dm_X12_comesTo 135 rfl) (by decide) ?_
  exact qr_loc (q_leS (q_leN (q_leS (q_leS (q_leS (q_leS (q_leN (q_leN q_le0)))))))) (hK16 a2 a3 a4 a5 m3)

def f_X12_comesTo_192 (n : Nat) (K16 : Int32 → Int32 → Int32 → Int32 → qM → qR) (a2 a3 a4 a5 a6 : Int32) (M : qM) : qR :=
  qg a3 260 ((if (M 96 a3.toNatClampNeg) = (0 : Int32) then some ((0 : Int32), M) else f_X12_comesTo_203 n K16 a2 a3 a4 a5 a6 M))
set_option maxRecDepth 4000 in
theorem w_X12_comesTo_192 {g : qG} {k : qK} (n : Nat) (j r : Nat) (hj : q_isLaw j) (hr : q_isLaw r) (o : qOk g 1 zX12_comesTo k) (K16 : Int32 → Int32 → Int32 → Int32 → qM → qR) (hK16 : ∀ (a2 a3 a4 a5 : Int32) (M : qM), qAE g k zX12_comesTo (qL j r) 16 [some (.inr (some 77)), none, some (.inl a2), some (.inl a3), some (.inl a4), some (.inl a5), none, none] [] (qL j r, M) (K16 a2 a3 a4 a5 M)) (a2 a3 a4 a5 a6 : Int32) (M : qM) : qAE g k zX12_comesTo (qL j r) 192 [some (.inr (some 77)), none, some (.inl a2), some (.inl a3), some (.inl a4), some (.inl a5), some (.inl a6), none] [] (qL j r, M) (f_X12_comesTo_192 n K16 a2 a3 a4 a5 a6 M) := by
  unfold f_X12_comesTo_192
  refine qr_aload_n o (q_dm dm_X12_comesTo 110 rfl) rfl ?_
  refine qr_getr (kf := 29) o cf_X12 (sh77 j r) rfl (Nat.le_of_ble_eq_true rfl) fl_X12_65 (q_dm dm_X12_comesTo 111 rfl) ?_
  refine qr_iload_n o (q_dm dm_X12_comesTo 112 rfl) rfl ?_
  refine qr_iald o (sh96 j r) (q_dm dm_X12_comesTo 113 rfl) ?_
  refine qr_if_ne (tgt := 203) o (q_dm dm_X12_comesTo 114 rfl) (by decide) ?_ ?_
  · exact qr_loc (q_leS (q_leN (q_leS (q_leS (q_leS (q_leS (q_leS (q_leN q_le0)))))))) (w_X12_comesTo_203 n j r hj hr o K16 hK16 a2 a3 a4 a5 a6 M)
  · refine qr_iconst o (q_dm dm_X12_comesTo 115 rfl) ic_0 ?_
    exact qr_iret o rfl rfl (q_dm dm_X12_comesTo 116 rfl)

def f_X12_comesTo_155 (n : Nat) (K16 : Int32 → Int32 → Int32 → Int32 → qM → qR) (a2 a3 a4 a5 a7 s0 s1 : Int32) (M : qM) : qR :=
  (if s0 = s1 then ql (a4 + a7) (fun x2 => K16 a2 a3 a4 x2 M) else ql (a3 - (1 : Int32)) (fun x1 => K16 a2 x1 a4 a5 M))
set_option maxRecDepth 4000 in
theorem w_X12_comesTo_155 {g : qG} {k : qK} (n : Nat) (j r : Nat) (hj : q_isLaw j) (hr : q_isLaw r) (o : qOk g 1 zX12_comesTo k) (K16 : Int32 → Int32 → Int32 → Int32 → qM → qR) (hK16 : ∀ (a2 a3 a4 a5 : Int32) (M : qM), qAE g k zX12_comesTo (qL j r) 16 [some (.inr (some 77)), none, some (.inl a2), some (.inl a3), some (.inl a4), some (.inl a5), none, none] [] (qL j r, M) (K16 a2 a3 a4 a5 M)) (a2 a3 a4 a5 a7 s0 s1 : Int32) (M : qM) : qAE g k zX12_comesTo (qL j r) 155 [some (.inr (some 77)), none, some (.inl a2), some (.inl a3), some (.inl a4), some (.inl a5), none, some (.inl a7)] [.inl s1, .inl s0] (qL j r, M) (f_X12_comesTo_155 n K16 a2 a3 a4 a5 a7 s0 s1 M) := by
  unfold f_X12_comesTo_155
  refine qr_icmp_ne (tgt := 168) o (q_dm dm_X12_comesTo 89 rfl) (by decide) ?_ ?_
  · refine qr_iload_n o (q_dm dm_X12_comesTo 95 rfl) rfl ?_
    refine qr_iconst o (q_dm dm_X12_comesTo 96 rfl) ic_1 ?_
    refine qr_isub o (q_dm dm_X12_comesTo 97 rfl) ?_
    refine qr_lt (fun x1 => ?_)
    refine qs_istore_n (L' := [some (.inr (some 77)), none, some (.inl a2), some (.inl x1), some (.inl a4), some (.inl a5), none, some (.inl a7)]) o (q_dm dm_X12_comesTo 98 rfl) (Nat.le_of_ble_eq_true rfl) rfl ?_
    refine qr_goto (tgt := 230) o (q_dm dm_X12_comesTo 99 rfl) (by decide) ?_
    refine qr_goto (tgt := 16) o (q_dm dm_X12_comesTo 135 rfl) (by decide) ?_
    exact qr_loc (q_leS (q_leN (q_leS (q_leS (q_leS (q_leS (q_leN (q_leN q_le0)))))))) (hK16 a2 x1 a4 a5 M)
  · refine qr_iload o (q_dm dm_X12_comesTo 90 rfl) rfl ?_
    refine qr_iload o (q_dm dm_X12_comesTo 91 rfl) rfl ?_
    refine qr_iadd o (q_dm dm_X12_comesTo 92 rfl) ?_
    refine qr_lt (fun x2 => ?_)
    refine qs_istore (L' := [some (.inr (some 77)), none, some (.inl a2), some (.inl a3), some (.inl a4), some (.inl x2), none, some (.inl a7)]) o (q_dm dm_X12_comesTo 93 rfl) (Nat.le_of_ble_eq_true rfl) rfl ?_
    refine qr_goto (tgt := 230) o (q_dm dm_X12_comesTo 94 rfl) (by decide) ?_
    refine qr_goto (tgt := 16) o (q_dm dm_X12_comesTo 135 rfl) (by decide) ?_
    exact qr_loc (q_leS (q_leN (q_leS (q_leS (q_leS (q_leS (q_leN (q_leN q_le0)))))))) (hK16 a2 a3 a4 x2 M)

def f_X12_comesTo_135 (n : Nat) (K16 : Int32 → Int32 → Int32 → Int32 → qM → qR) (a2 a3 a4 a5 a6 a7 : Int32) (M : qM) : qR :=
  qg (a3 - (1 : Int32)) 260 ((if a6 = (12 : Int32) then f_X12_comesTo_155 n K16 a2 a3 a4 a5 a7 (M 96 (a3 - (1 : Int32)).toNatClampNeg) (1 : Int32) M else f_X12_comesTo_155 n K16 a2 a3 a4 a5 a7 (M 96 (a3 - (1 : Int32)).toNatClampNeg) (0 : Int32) M))
set_option maxRecDepth 4000 in
theorem w_X12_comesTo_135 {g : qG} {k : qK} (n : Nat) (j r : Nat) (hj : q_isLaw j) (hr : q_isLaw r) (o : qOk g 1 zX12_comesTo k) (K16 : Int32 → Int32 → Int32 → Int32 → qM → qR) (hK16 : ∀ (a2 a3 a4 a5 : Int32) (M : qM), qAE g k zX12_comesTo (qL j r) 16 [some (.inr (some 77)), none, some (.inl a2), some (.inl a3), some (.inl a4), some (.inl a5), none, none] [] (qL j r, M) (K16 a2 a3 a4 a5 M)) (a2 a3 a4 a5 a6 a7 : Int32) (M : qM) : qAE g k zX12_comesTo (qL j r) 135 [some (.inr (some 77)), none, some (.inl a2), some (.inl a3), some (.inl a4), some (.inl a5), some (.inl a6), some (.inl a7)] [] (qL j r, M) (f_X12_comesTo_135 n K16 a2 a3 a4 a5 a6 a7 M) := by
  unfold f_X12_comesTo_135
  refine qr_aload_n o (q_dm dm_X12_comesTo 77 rfl) rfl ?_
  refine qr_getr (kf := 29) o cf_X12 (sh77 j r) rfl (Nat.le_of_ble_eq_true rfl) fl_X12_65 (q_dm dm_X12_comesTo 78 rfl) ?_
  refine qr_iload_n o (q_dm dm_X12_comesTo 79 rfl) rfl ?_
  refine qr_iconst o (q_dm dm_X12_comesTo 80 rfl) ic_1 ?_
  refine qr_isub o (q_dm dm_X12_comesTo 81 rfl) ?_
  refine qr_iald o (sh96 j r) (q_dm dm_X12_comesTo 82 rfl) ?_
  refine qr_iload o (q_dm dm_X12_comesTo 83 rfl) rfl ?_
  refine qr_bipush o (q_dm dm_X12_comesTo 84 rfl) bi_12 ?_
  refine qr_icmp_ne (tgt := 154) o (q_dm dm_X12_comesTo 85 rfl) (by decide) ?_ ?_
  · refine qr_iconst o (q_dm dm_X12_comesTo 88 rfl) ic_0 ?_
    exact qr_loc (q_leS (q_leN (q_leS (q_leS (q_leS (q_leS (q_leN (q_leS q_le0)))))))) (w_X12_comesTo_155 n j r hj hr o K16 hK16 a2 a3 a4 a5 a7 (M 96 (a3 - (1 : Int32)).toNatClampNeg) (0 : Int32) M)
  · refine qr_iconst o (q_dm dm_X12_comesTo 86 rfl) ic_1 ?_
    refine qr_goto (tgt := 155) o (q_dm dm_X12_comesTo 87 rfl) (by decide) ?_
    exact qr_loc (q_leS (q_leN (q_leS (q_leS (q_leS (q_leS (q_leN (q_leS q_le0)))))))) (w_X12_comesTo_155 n j r hj hr o K16 hK16 a2 a3 a4 a5 a7 (M 96 (a3 - (1 : Int32)).toNatClampNeg) (1 : Int32) M)

def f_X12_comesTo_85 (n : Nat) (K16 : Int32 → Int32 → Int32 → Int32 → qM → qR) (a2 a3 a4 a5 s1 s2 : Int32) (M : qM) : qR :=
  qg s1 260 (qlm (mu M 96 s1.toNatClampNeg s2) (fun m1 => ql (a3 + (1 : Int32)) (fun x2 => K16 a2 x2 a4 a5 m1)))
set_option maxRecDepth 4000 in
theorem w_X12_comesTo_85 {g : qG} {k : qK} (n : Nat) (j r : Nat) (hj : q_isLaw j) (hr : q_isLaw r) (o : qOk g 1 zX12_comesTo k) (K16 : Int32 → Int32 → Int32 → Int32 → qM → qR) (hK16 : ∀ (a2 a3 a4 a5 : Int32) (M : qM), qAE g k zX12_comesTo (qL j r) 16 [some (.inr (some 77)), none, some (.inl a2), some (.inl a3), some (.inl a4), some (.inl a5), none, none] [] (qL j r, M) (K16 a2 a3 a4 a5 M)) (a2 a3 a4 a5 s1 s2 : Int32) (M : qM) : qAE g k zX12_comesTo (qL j r) 85 [some (.inr (some 77)), none, some (.inl a2), some (.inl a3), some (.inl a4), some (.inl a5), none, none] [.inl s2, .inl s1, .inr (some 96)] (qL j r, M) (f_X12_comesTo_85 n K16 a2 a3 a4 a5 s1 s2 M) := by
  unfold f_X12_comesTo_85
  refine qr_iast o (sh96 j r) (q_dm dm_X12_comesTo 47 rfl) ?_
  refine qr_letm (fun m1 => ?_)
  refine qr_iload_n o (q_dm dm_X12_comesTo 48 rfl) rfl ?_
  refine qr_iconst o (q_dm dm_X12_comesTo 49 rfl) ic_1 ?_
  refine qr_iadd o (q_dm dm_X12_comesTo 50 rfl) ?_
  refine qr_lt (fun x2 => ?_)
  refine qs_istore_n (L' := [some (.inr (some 77)), none, some (.inl a2), some (.inl x2), some (.inl a4), some (.inl a5), none, none]) o (q_dm dm_X12_comesTo 51 rfl) (Nat.le_of_ble_eq_true rfl) rfl ?_
  refine qr_goto (tgt := 230) o (q_dm dm_X12_comesTo 52 rfl) (by decide) ?_
  refine qr_goto (tgt := 16) o (q_dm dm_X12_comesTo 135 rfl) (by decide) ?_
  exact qr_loc (q_leS (q_leN (q_leS (q_leS (q_leS (q_leS (q_leN (q_leN q_le0)))))))) (hK16 a2 x2 a4 a5 m1)

def f_X12_comesTo_63 (n : Nat) (K16 : Int32 → Int32 → Int32 → Int32 → qM → qR) (a2 a3 a4 a5 a6 a7 : Int32) (M : qM) : qR :=
  (if a6 = (0 : Int32) then f_X12_comesTo_85 n K16 a2 a3 a4 a5 a3 a7 M else qg a7 12 (f_X12_comesTo_85 n K16 a2 a3 a4 a5 a3 (M 97 a7.toNatClampNeg) M))
set_option maxRecDepth 4000 in
theorem w_X12_comesTo_63 {g : qG} {k : qK} (n : Nat) (j r : Nat) (hj : q_isLaw j) (hr : q_isLaw r) (o : qOk g 1 zX12_comesTo k) (K16 : Int32 → Int32 → Int32 → Int32 → qM → qR) (hK16 : ∀ (a2 a3 a4 a5 : Int32) (M : qM), qAE g k zX12_comesTo (qL j r) 16 [some (.inr (some 77)), none, some (.inl a2), some (.inl a3), some (.inl a4), some (.inl a5), none, none] [] (qL j r, M) (K16 a2 a3 a4 a5 M)) (a2 a3 a4 a5 a6 a7 : Int32) (M : qM) : qAE g k zX12_comesTo (qL j r) 63 [some (.inr (some 77)), none, some (.inl a2), some (.inl a3), some (.inl a4), some (.inl a5), some (.inl a6), some (.inl a7)] [] (qL j r, M) (f_X12_comesTo_63 n K16 a2 a3 a4 a5 a6 a7 M) := by
  unfold f_X12_comesTo_63
  refine qr_aload_n o (q_dm dm_X12_comesTo 36 rfl) rfl ?_
  refine qr_getr (kf := 29) o cf_X12 (sh77 j r) rfl (Nat.le_of_ble_eq_true rfl) fl_X12_65 (q_dm dm_X12_comesTo 37 rfl) ?_
  refine qr_iload_n o (q_dm dm_X12_comesTo 38 rfl) rfl ?_
  refine qr_iload o (q_dm dm_X12_comesTo 39 rfl) rfl ?_
  refine qr_if_ne (tgt := 78) o (q_dm dm_X12_comesTo 40 rfl) (by decide) ?_ ?_
  · refine qr_aload_n o (q_dm dm_X12_comesTo 43 rfl) rfl ?_
    refine qr_getr (kf := 30) o cf_X12 (sh77 j r) rfl (Nat.le_of_ble_eq_true rfl) fl_X12_68 (q_dm dm_X12_comesTo 44 rfl) ?_
    refine qr_iload o (q_dm dm_X12_comesTo 45 rfl) rfl ?_
    refine qr_iald o (sh97 j r) (q_dm dm_X12_comesTo 46 rfl) ?_
    exact qr_loc (q_leS (q_leN (q_leS (q_leS (q_leS (q_leS (q_leN (q_leN q_le0)))))))) (w_X12_comesTo_85 n j r hj hr o K16 hK16 a2 a3 a4 a5 a3 (M 97 a7.toNatClampNeg) M)
  · refine qr_iload o (q_dm dm_X12_comesTo 41 rfl) rfl ?_
    refine qr_goto (tgt := 85) o (q_dm dm_X12_comesTo 42 rfl) (by decide) ?_
    exact qr_loc (q_leS (q_leN (q_leS (q_leS (q_leS (q_leS (q_leN (q_leN q_le0)))))))) (w_X12_comesTo_85 n j r hj hr o K16 hK16 a2 a3 a4 a5 a3 a7 M)

def b_X12_comesTo_16 (n : Nat) (K16 : Int32 → Int32 → Int32 → Int32 → qM → qR) (a2 a3 a4 a5 : Int32) (M : qM) : qR :=
  (if a2 ≤ a5 then some ((M 96 0), M) else qg a5 260 (ql ((M 91 a5.toNatClampNeg) / (1048576 : Int32)) (fun x1 => qg a5 260 (ql ((M 91 a5.toNatClampNeg) - (M 91 a5.toNatClampNeg) / (1048576 : Int32) * (1048576 : Int32)) (fun x2 => ql (a5 + (1 : Int32)) (fun x3 => (if x1 = (0 : Int32) then f_X12_comesTo_63 n K16 a2 a3 a4 x3 x1 x2 M else (if x1 = (1 : Int32) then f_X12_comesTo_63 n K16 a2 a3 a4 x3 x1 x2 M else (if x1 = (10 : Int32) then qg (a3 - (1 : Int32)) 260 (qg (a3 - (1 : Int32)) 260 (qlm (mu M 96 (a3 - (1 : Int32)).toNatClampNeg ((1 : Int32) - (M 96 (a3 - (1 : Int32)).toNatClampNeg))) (fun m5 => K16 a2 a3 a4 x3 m5))) else (if x1 = (11 : Int32) then f_X12_comesTo_135 n K16 a2 a3 a4 x3 x1 x2 M else (if x1 = (12 : Int32) then f_X12_comesTo_135 n K16 a2 a3 a4 x3 x1 x2 M else ql (a3 - (1 : Int32)) (fun x4 => (if x1 = (5 : Int32) then f_X12_comesTo_192 n K16 a2 x4 a4 x3 x1 M else (if x1 = (6 : Int32) then f_X12_comesTo_192 n K16 a2 x4 a4 x3 x1 M else f_X12_comesTo_203 n K16 a2 x4 a4 x3 x1 M))))))))))))))
set_option maxRecDepth 4000 in
theorem wb_X12_comesTo_16 {g : qG} {k : qK} (n : Nat) (j r : Nat) (hj : q_isLaw j) (hr : q_isLaw r) (o : qOk g 1 zX12_comesTo k) (K16 : Int32 → Int32 → Int32 → Int32 → qM → qR) (hK16 : ∀ (a2 a3 a4 a5 : Int32) (M : qM), qAE g k zX12_comesTo (qL j r) 16 [some (.inr (some 77)), none, some (.inl a2), some (.inl a3), some (.inl a4), some (.inl a5), none, none] [] (qL j r, M) (K16 a2 a3 a4 a5 M)) (a2 a3 a4 a5 : Int32) (M : qM) : qAE g k zX12_comesTo (qL j r) 16 [some (.inr (some 77)), none, some (.inl a2), some (.inl a3), some (.inl a4), some (.inl a5), none, none] [] (qL j r, M) (b_X12_comesTo_16 n K16 a2 a3 a4 a5 M) := by
  unfold b_X12_comesTo_16
  refine qr_iload o (q_dm dm_X12_comesTo 10 rfl) rfl ?_
  refine qr_iload_n o (q_dm dm_X12_comesTo 11 rfl) rfl ?_
  refine qr_icmp_ge (tgt := 233) o (q_dm dm_X12_comesTo 12 rfl) (by decide) ?_ ?_
  · refine qr_aload_n o (q_dm dm_X12_comesTo 136 rfl) rfl ?_
    refine qr_getr (kf := 29) o cf_X12 (sh77 j r) rfl (Nat.le_of_ble_eq_true rfl) fl_X12_65 (q_dm dm_X12_comesTo 137 rfl) ?_
    refine qr_iconst o (q_dm dm_X12_comesTo 138 rfl) ic_0 ?_
    refine qr_iald0 (c := 0) o (sh96 j r) (by decide) (by decide) (q_dm dm_X12_comesTo 139 rfl) ?_
    exact qr_iret o rfl rfl (q_dm dm_X12_comesTo 140 rfl)
  · refine qr_aload_n o (q_dm dm_X12_comesTo 13 rfl) rfl ?_
    refine qr_getr (kf := 24) o cf_X12 (sh77 j r) rfl (Nat.le_of_ble_eq_true rfl) fl_X12_50 (q_dm dm_X12_comesTo 14 rfl) ?_
    refine qr_iload o (q_dm dm_X12_comesTo 15 rfl) rfl ?_
    refine qr_iald o (sh91 j r) (q_dm dm_X12_comesTo 16 rfl) ?_
    refine qr_ldc o (q_dm dm_X12_comesTo 17 rfl) kc_X12_195 ?_
    refine qr_idivc o (q_dm dm_X12_comesTo 18 rfl) (by decide) ?_
    refine qr_lt (fun x1 => ?_)
    refine qs_istore (L' := [some (.inr (some 77)), none, some (.inl a2), some (.inl a3), some (.inl a4), some (.inl a5), some (.inl x1), none]) o (q_dm dm_X12_comesTo 19 rfl) (Nat.le_of_ble_eq_true rfl) rfl ?_
    refine qr_aload_n o (q_dm dm_X12_comesTo 20 rfl) rfl ?_
    refine qr_getr (kf := 24) o cf_X12 (sh77 j r) rfl (Nat.le_of_ble_eq_true rfl) fl_X12_50 (q_dm dm_X12_comesTo 21 rfl) ?_
    refine qr_iload o (q_dm dm_X12_comesTo 22 rfl) rfl ?_
    refine qr_iald o (sh91 j r) (q_dm dm_X12_comesTo 23 rfl) ?_
    refine qr_ldc o (q_dm dm_X12_comesTo 24 rfl) kc_X12_195 ?_
    refine qr_iremc o (q_dm dm_X12_comesTo 25 rfl) (by decide) ?_
    refine qr_lt (fun x2 => ?_)
    refine qs_istore (L' := [some (.inr (some 77)), none, some (.inl a2), some (.inl a3), some (.inl a4), some (.inl a5), some (.inl x1), some (.inl x2)]) o (q_dm dm_X12_comesTo 26 rfl) (Nat.le_of_ble_eq_true rfl) rfl ?_
    refine qr_iload o (q_dm dm_X12_comesTo 27 rfl) rfl ?_
    refine qr_iconst o (q_dm dm_X12_comesTo 28 rfl) ic_1 ?_
    refine qr_iadd o (q_dm dm_X12_comesTo 29 rfl) ?_
    refine qr_lt (fun x3 => ?_)
    refine qs_istore (L' := [some (.inr (some 77)), none, some (.inl a2), some (.inl a3), some (.inl a4), some (.inl x3), some (.inl x1), some (.inl x2)]) o (q_dm dm_X12_comesTo 30 rfl) (Nat.le_of_ble_eq_true rfl) rfl ?_
    refine qr_iload o (q_dm dm_X12_comesTo 31 rfl) rfl ?_
    refine qr_if_eq (tgt := 63) o (q_dm dm_X12_comesTo 32 rfl) (by decide) ?_ ?_
    · exact qr_loc (q_leS (q_leN (q_leS (q_leS (q_leS (q_leS (q_leS (q_leS q_le0)))))))) (w_X12_comesTo_63 n j r hj hr o K16 hK16 a2 a3 a4 x3 x1 x2 M)
    · refine qr_iload o (q_dm dm_X12_comesTo 33 rfl) rfl ?_
      refine qr_iconst o (q_dm dm_X12_comesTo 34 rfl) ic_1 ?_
      refine qr_icmp_ne (tgt := 93) o (q_dm dm_X12_comesTo 35 rfl) (by decide) ?_ ?_
      · refine qr_iload o (q_dm dm_X12_comesTo 53 rfl) rfl ?_
        refine qr_bipush o (q_dm dm_X12_comesTo 54 rfl) bi_10 ?_
        refine qr_icmp_ne (tgt := 121) o (q_dm dm_X12_comesTo 55 rfl) (by decide) ?_ ?_
        · refine qr_iload o (q_dm dm_X12_comesTo 71 rfl) rfl ?_
          refine qr_bipush o (q_dm dm_X12_comesTo 72 rfl) bi_11 ?_
          refine qr_icmp_eq (tgt := 135) o (q_dm dm_X12_comesTo 73 rfl) (by decide) ?_ ?_
          · exact qr_loc (q_leS (q_leN (q_leS (q_leS (q_leS (q_leS (q_leS (q_leS q_le0)))))))) (w_X12_comesTo_135 n j r hj hr o K16 hK16 a2 a3 a4 x3 x1 x2 M)
          · refine qr_iload o (q_dm dm_X12_comesTo 74 rfl) rfl ?_
            refine qr_bipush o (q_dm dm_X12_comesTo 75 rfl) bi_12 ?_
            refine qr_icmp_ne (tgt := 175) o (q_dm dm_X12_comesTo 76 rfl) (by decide) ?_ ?_
            · refine qr_iload_n o (q_dm dm_X12_comesTo 100 rfl) rfl ?_
              refine qr_iconst o (q_dm dm_X12_comesTo 101 rfl) ic_1 ?_
              refine qr_isub o (q_dm dm_X12_comesTo 102 rfl) ?_
              refine qr_lt (fun x4 => ?_)
              refine qs_istore_n (L' := [some (.inr (some 77)), none, some (.inl a2), some (.inl x4), some (.inl a4), some (.inl x3), some (.inl x1), some (.inl x2)]) o (q_dm dm_X12_comesTo 103 rfl) (Nat.le_of_ble_eq_true rfl) rfl ?_
              refine qr_iload o (q_dm dm_X12_comesTo 104 rfl) rfl ?_
              refine qr_iconst o (q_dm dm_X12_comesTo 105 rfl) ic_5 ?_
              refine qr_icmp_eq (tgt := 192) o (q_dm dm_X12_comesTo 106 rfl) (by decide) ?_ ?_
              · exact qr_loc (q_leS (q_leN (q_leS (q_leS (q_leS (q_leS (q_leS (q_leN q_le0)))))))) (w_X12_comesTo_192 n j r hj hr o K16 hK16 a2 x4 a4 x3 x1 M)
              · refine qr_iload o (q_dm dm_X12_comesTo 107 rfl) rfl ?_
                refine qr_bipush o (q_dm dm_X12_comesTo 108 rfl) bi_6 ?_
                refine qr_icmp_ne (tgt := 203) o (q_dm dm_X12_comesTo 109 rfl) (by decide) ?_ ?_
                · exact qr_loc (q_leS (q_leN (q_leS (q_leS (q_leS (q_leS (q_leS (q_leN q_le0)))))))) (w_X12_comesTo_203 n j r hj hr o K16 hK16 a2 x4 a4 x3 x1 M)
                · exact qr_loc (q_leS (q_leN (q_leS (q_leS (q_leS (q_leS (q_leS (q_leN q_le0)))))))) (w_X12_comesTo_192 n j r hj hr o K16 hK16 a2 x4 a4 x3 x1 M)
            · exact qr_loc (q_leS (q_leN (q_leS (q_leS (q_leS (q_leS (q_leS (q_leS q_le0)))))))) (w_X12_comesTo_135 n j r hj hr o K16 hK16 a2 a3 a4 x3 x1 x2 M)
        · refine qr_aload_n o (q_dm dm_X12_comesTo 56 rfl) rfl ?_
          refine qr_getr (kf := 29) o cf_X12 (sh77 j r) rfl (Nat.le_of_ble_eq_true rfl) fl_X12_65 (q_dm dm_X12_comesTo 57 rfl) ?_
          refine qr_iload_n o (q_dm dm_X12_comesTo 58 rfl) rfl ?_
          refine qr_iconst o (q_dm dm_X12_comesTo 59 rfl) ic_1 ?_
          refine qr_isub o (q_dm dm_X12_comesTo 60 rfl) ?_
          refine qr_iconst o (q_dm dm_X12_comesTo 61 rfl) ic_1 ?_
          refine qr_aload_n o (q_dm dm_X12_comesTo 62 rfl) rfl ?_
          refine qr_getr (kf := 29) o cf_X12 (sh77 j r) rfl (Nat.le_of_ble_eq_true rfl) fl_X12_65 (q_dm dm_X12_comesTo 63 rfl) ?_
          refine qr_iload_n o (q_dm dm_X12_comesTo 64 rfl) rfl ?_
          refine qr_iconst o (q_dm dm_X12_comesTo 65 rfl) ic_1 ?_
          refine qr_isub o (q_dm dm_X12_comesTo 66 rfl) ?_
          refine qr_iald o (sh96 j r) (q_dm dm_X12_comesTo 67 rfl) ?_
          refine qr_isub o (q_dm dm_X12_comesTo 68 rfl) ?_
          refine qr_iast o (sh96 j r) (q_dm dm_X12_comesTo 69 rfl) ?_
          refine qr_letm (fun m5 => ?_)
          refine qr_goto (tgt := 230) o (q_dm dm_X12_comesTo 70 rfl) (by decide) ?_
          refine qr_goto (tgt := 16) o (q_dm dm_X12_comesTo 135 rfl) (by decide) ?_
          exact qr_loc (q_leS (q_leN (q_leS (q_leS (q_leS (q_leS (q_leN (q_leN q_le0)))))))) (hK16 a2 a3 a4 x3 m5)
      · exact qr_loc (q_leS (q_leN (q_leS (q_leS (q_leS (q_leS (q_leS (q_leS q_le0)))))))) (w_X12_comesTo_63 n j r hj hr o K16 hK16 a2 a3 a4 x3 x1 x2 M)

def f_X12_comesTo_16 (n : Nat) : Nat → Int32 → Int32 → Int32 → Int32 → qM → qR
  | 0, _, _, _, _, _ => none
  | m + 1, a2, a3, a4, a5, M => b_X12_comesTo_16 n (f_X12_comesTo_16 n m) a2 a3 a4 a5 M
theorem w_X12_comesTo_16 {g : qG} {k : qK} (n : Nat) (j r : Nat) (hj : q_isLaw j) (hr : q_isLaw r) (o : qOk g 1 zX12_comesTo k) : ∀ (m : Nat) (a2 a3 a4 a5 : Int32) (M : qM), qAE g k zX12_comesTo (qL j r) 16 [some (.inr (some 77)), none, some (.inl a2), some (.inl a3), some (.inl a4), some (.inl a5), none, none] [] (qL j r, M) (f_X12_comesTo_16 n m a2 a3 a4 a5 M) := by
  intro m
  induction m with
  | zero =>
    intro a2 a3 a4 a5 M
    exact qr_none
  | succ m ih =>
    intro a2 a3 a4 a5 M
    exact wb_X12_comesTo_16 n j r hj hr o (f_X12_comesTo_16 n m) ih a2 a3 a4 a5 M
def f_X12_comesTo (n : Nat) (a1 a2 : Int32) (M : qM) : qR :=
  ql ((260 : Int32) * (a1 / (260 : Int32))) (fun x1 => f_X12_comesTo_16 n n a2 (0 : Int32) x1 a1 M)
set_option maxRecDepth 4000 in
theorem w_X12_comesTo {g : qG} {k : qK} (n : Nat) (j r : Nat) (hj : q_isLaw j) (hr : q_isLaw r) (o : qOk g 1 zX12_comesTo k) (a1 a2 : Int32) (M : qM) : qAE g k zX12_comesTo (qL j r) 0 [some (.inr (some 77)), some (.inl a1), some (.inl a2), none, none, none, none, none] [] (qL j r, M) (f_X12_comesTo n a1 a2 M) := by
  unfold f_X12_comesTo
  refine qr_iconst o (q_dm dm_X12_comesTo 0 rfl) ic_0 ?_
  refine qs_istore_n (L' := [some (.inr (some 77)), some (.inl a1), some (.inl a2), some (.inl (0 : Int32)), none, none, none, none]) o (q_dm dm_X12_comesTo 1 rfl) (Nat.le_of_ble_eq_true rfl) rfl ?_
  refine qr_sipush o (q_dm dm_X12_comesTo 2 rfl) si_260 ?_
  refine qr_iload_n o (q_dm dm_X12_comesTo 3 rfl) rfl ?_
  refine qr_sipush o (q_dm dm_X12_comesTo 4 rfl) si_260 ?_
  refine qr_idivc o (q_dm dm_X12_comesTo 5 rfl) (by decide) ?_
  refine qr_imul o (q_dm dm_X12_comesTo 6 rfl) ?_
  refine qr_lt (fun x1 => ?_)
  refine qs_istore (L' := [some (.inr (some 77)), some (.inl a1), some (.inl a2), some (.inl (0 : Int32)), some (.inl x1), none, none, none]) o (q_dm dm_X12_comesTo 7 rfl) (Nat.le_of_ble_eq_true rfl) rfl ?_
  refine qr_iload_n o (q_dm dm_X12_comesTo 8 rfl) rfl ?_
  refine qs_istore (L' := [some (.inr (some 77)), some (.inl a1), some (.inl a2), some (.inl (0 : Int32)), some (.inl x1), some (.inl a1), none, none]) o (q_dm dm_X12_comesTo 9 rfl) (Nat.le_of_ble_eq_true rfl) rfl ?_
  exact qr_loc (q_leS (q_leN (q_leS (q_leS (q_leS (q_leS (q_leN (q_leN q_le0)))))))) (w_X12_comesTo_16 n j r hj hr o n a2 (0 : Int32) x1 a1 M)

theorem a_X12_comesTo (g : qG) (l : Launch) (n : Nat) (j r : Nat) (hj : q_isLaw j) (hr : q_isLaw r) (a1 a2 : Int32) (M : qM) : qAM g l 1 zX12_comesTo (qL j r) [.inr (some 77), .inl a1, .inl a2] (qL j r, M) (f_X12_comesTo n a1 a2 M) :=
  qAM.of zv_X12_comesTo.1 (by show 3 ≤ 8; decide) (fun k hk o => w_X12_comesTo n j r hj hr o a1 a2 M)
def tb_X12_feelsKind : List (Nat × Instr × Nat) := [(0, (.iconst 0, 1)), (1, (.istore_n 2, 1)), (2, (.iload_n 2, 1)), (3, (.bipush 12, 2)), (5, (.if_icmp .ge 16, 3)), (8, (.aload_n 0, 1)), (9, (.getfield 68, 3)), (12, (.iload_n 2, 1)), (13, (.iconst 0, 1)), (14, (.iastore, 1)), (15, (.iinc 2 1, 3)), (18, (.goto (-16), 3)), (21, (.aload_n 0, 1)), (22, (.getfield 68, 3)), (25, (.iconst 0, 1)), (26, (.iload_n 1, 1)), (27, (.iastore, 1)), (28, (.aload_n 0, 1)), (29, (.getfield 68, 3)), (32, (.iconst 1, 1)), (33, (.aload_n 0, 1)), (34, (.getfield 19, 3)), (37, (.iload_n 1, 1)), (38, (.iaload, 1)), (39, (.iastore, 1)), (40, (.aload_n 0, 1)), (41, (.getfield 68, 3)), (44, (.iconst 2, 1)), (45, (.aload_n 0, 1)), (46, (.getfield 22, 3)), (49, (.iload_n 1, 1)), (50, (.iaload, 1)), (51, (.iastore, 1)), (52, (.aload_n 0, 1)), (53, (.getfield 68, 3)), (56, (.bipush 6, 2)), (58, (.aload_n 0, 1)), (59, (.getfield 7, 3)), (62, (.sipush 313, 3)), (65, (.iaload, 1)), (66, (.iastore, 1)), (67, (.return_, 1))]
theorem dm_X12_feelsKind : ∀ q ∈ tb_X12_feelsKind, decode zX12_feelsKind.2.1 q.1 = .ok q.2 := by decide +kernel
def b_X12_feelsKind_2 (n : Nat) (K2 : Int32 → Int32 → qM → qR) (a1 a2 : Int32) (M : qM) : qR :=
  (if (12 : Int32) ≤ a2 then qlm (mu M 97 0 a1) (fun m1 => qg a1 13 (qlm (mu m1 97 1 (m1 81 a1.toNatClampNeg)) (fun m2 => qg a1 13 (qlm (mu m2 97 2 (m2 82 a1.toNatClampNeg)) (fun m3 => qlm (mu m3 97 6 (m3 78 313)) (fun m4 => some (0, m4))))))) else qg a2 12 (qlm (mu M 97 a2.toNatClampNeg (0 : Int32)) (fun m5 => ql (a2 + (1 : Int32)) (fun x6 => K2 a1 x6 m5))))
set_option maxRecDepth 4000 in
theorem wb_X12_feelsKind_2 {g : qG} {k : qK} (n : Nat) (j r : Nat) (hj : q_isLaw j) (hr : q_isLaw r) (o : qOk g 0 zX12_feelsKind k) (K2 : Int32 → Int32 → qM → qR) (hK2 : ∀ (a1 a2 : Int32) (M : qM), qAE g k zX12_feelsKind (qL j r) 2 [some (.inr (some 77)), some (.inl a1), some (.inl a2)] [] (qL j r, M) (K2 a1 a2 M)) (a1 a2 : Int32) (M : qM) : qAE g k zX12_feelsKind (qL j r) 2 [some (.inr (some 77)), some (.inl a1), some (.inl a2)] [] (qL j r, M) (b_X12_feelsKind_2 n K2 a1 a2 M) := by
  unfold b_X12_feelsKind_2
  refine qr_iload_n o (q_dm dm_X12_feelsKind 2 rfl) rfl ?_
  refine qr_bipush o (q_dm dm_X12_feelsKind 3 rfl) bi_12 ?_
  refine qr_icmp_ge (tgt := 21) o (q_dm dm_X12_feelsKind 4 rfl) (by decide) ?_ ?_
  · refine qr_aload_n o (q_dm dm_X12_feelsKind 12 rfl) rfl ?_
    refine qr_getr (kf := 30) o cf_X12 (sh77 j r) rfl (Nat.le_of_ble_eq_true rfl) fl_X12_68 (q_dm dm_X12_feelsKind 13 rfl) ?_
    refine qr_iconst o (q_dm dm_X12_feelsKind 14 rfl) ic_0 ?_
    refine qr_iload_n o (q_dm dm_X12_feelsKind 15 rfl) rfl ?_
    refine qr_iast0 (c := 0) o (sh97 j r) (by decide) (by decide) (q_dm dm_X12_feelsKind 16 rfl) ?_
    refine qr_letm (fun m1 => ?_)
    refine qr_aload_n o (q_dm dm_X12_feelsKind 17 rfl) rfl ?_
    refine qr_getr (kf := 30) o cf_X12 (sh77 j r) rfl (Nat.le_of_ble_eq_true rfl) fl_X12_68 (q_dm dm_X12_feelsKind 18 rfl) ?_
    refine qr_iconst o (q_dm dm_X12_feelsKind 19 rfl) ic_1 ?_
    refine qr_aload_n o (q_dm dm_X12_feelsKind 20 rfl) rfl ?_
    refine qr_getr (kf := 3) o cf_X12 (sh77 j r) rfl (Nat.le_of_ble_eq_true rfl) fl_X12_19 (q_dm dm_X12_feelsKind 21 rfl) ?_
    refine qr_iload_n o (q_dm dm_X12_feelsKind 22 rfl) rfl ?_
    refine qr_iald o (sh81 j r) (q_dm dm_X12_feelsKind 23 rfl) ?_
    refine qr_iast0 (c := 1) o (sh97 j r) (by decide) (by decide) (q_dm dm_X12_feelsKind 24 rfl) ?_
    refine qr_letm (fun m2 => ?_)
    refine qr_aload_n o (q_dm dm_X12_feelsKind 25 rfl) rfl ?_
    refine qr_getr (kf := 30) o cf_X12 (sh77 j r) rfl (Nat.le_of_ble_eq_true rfl) fl_X12_68 (q_dm dm_X12_feelsKind 26 rfl) ?_
    refine qr_iconst o (q_dm dm_X12_feelsKind 27 rfl) ic_2 ?_
    refine qr_aload_n o (q_dm dm_X12_feelsKind 28 rfl) rfl ?_
    refine qr_getr (kf := 4) o cf_X12 (sh77 j r) rfl (Nat.le_of_ble_eq_true rfl) fl_X12_22 (q_dm dm_X12_feelsKind 29 rfl) ?_
    refine qr_iload_n o (q_dm dm_X12_feelsKind 30 rfl) rfl ?_
    refine qr_iald o (sh82 j r) (q_dm dm_X12_feelsKind 31 rfl) ?_
    refine qr_iast0 (c := 2) o (sh97 j r) (by decide) (by decide) (q_dm dm_X12_feelsKind 32 rfl) ?_
    refine qr_letm (fun m3 => ?_)
    refine qr_aload_n o (q_dm dm_X12_feelsKind 33 rfl) rfl ?_
    refine qr_getr (kf := 30) o cf_X12 (sh77 j r) rfl (Nat.le_of_ble_eq_true rfl) fl_X12_68 (q_dm dm_X12_feelsKind 34 rfl) ?_
    refine qr_bipush o (q_dm dm_X12_feelsKind 35 rfl) bi_6 ?_
    refine qr_aload_n o (q_dm dm_X12_feelsKind 36 rfl) rfl ?_
    refine qr_getr (kf := 0) o cf_X12 (sh77 j r) rfl (Nat.le_of_ble_eq_true rfl) fl_X12_7 (q_dm dm_X12_feelsKind 37 rfl) ?_
    refine qr_sipush o (q_dm dm_X12_feelsKind 38 rfl) si_313 ?_
    refine qr_iald0 (c := 313) o (sh78 j r) (by decide) (by decide) (q_dm dm_X12_feelsKind 39 rfl) ?_
    refine qr_iast0 (c := 6) o (sh97 j r) (by decide) (by decide) (q_dm dm_X12_feelsKind 40 rfl) ?_
    refine qr_letm (fun m4 => ?_)
    exact qr_vret o rfl (q_dm dm_X12_feelsKind 41 rfl)
  · refine qr_aload_n o (q_dm dm_X12_feelsKind 5 rfl) rfl ?_
    refine qr_getr (kf := 30) o cf_X12 (sh77 j r) rfl (Nat.le_of_ble_eq_true rfl) fl_X12_68 (q_dm dm_X12_feelsKind 6 rfl) ?_
    refine qr_iload_n o (q_dm dm_X12_feelsKind 7 rfl) rfl ?_
    refine qr_iconst o (q_dm dm_X12_feelsKind 8 rfl) ic_0 ?_
    refine qr_iast o (sh97 j r) (q_dm dm_X12_feelsKind 9 rfl) ?_
    refine qr_letm (fun m5 => ?_)
    refine qs_iincl2 (L' := fun x6 => [some (.inr (some 77)), some (.inl a1), some (.inl x6)]) o (q_dm dm_X12_feelsKind 10 rfl) rfl ic_1 (Nat.le_of_ble_eq_true rfl) (fun _ => rfl) (fun x6 => ?_)
    refine qr_goto (tgt := 2) o (q_dm dm_X12_feelsKind 11 rfl) (by decide) ?_
    exact qr_loc (q_leS (q_leS (q_leS q_le0))) (hK2 a1 x6 m5)

def f_X12_feelsKind_2 (n : Nat) : Nat → Int32 → Int32 → qM → qR
  | 0, _, _, _ => none
  | m + 1, a1, a2, M => b_X12_feelsKind_2 n (f_X12_feelsKind_2 n m) a1 a2 M
theorem w_X12_feelsKind_2 {g : qG} {k : qK} (n : Nat) (j r : Nat) (hj : q_isLaw j) (hr : q_isLaw r) (o : qOk g 0 zX12_feelsKind k) : ∀ (m : Nat) (a1 a2 : Int32) (M : qM), qAE g k zX12_feelsKind (qL j r) 2 [some (.inr (some 77)), some (.inl a1), some (.inl a2)] [] (qL j r, M) (f_X12_feelsKind_2 n m a1 a2 M) := by
  intro m
  induction m with
  | zero =>
    intro a1 a2 M
    exact qr_none
  | succ m ih =>
    intro a1 a2 M
    exact wb_X12_feelsKind_2 n j r hj hr o (f_X12_feelsKind_2 n m) ih a1 a2 M
def f_X12_feelsKind (n : Nat) (a1 : Int32) (M : qM) : qR :=
  f_X12_feelsKind_2 n n a1 (0 : Int32) M
set_option maxRecDepth 4000 in
theorem w_X12_feelsKind {g : qG} {k : qK} (n : Nat) (j r : Nat) (hj : q_isLaw j) (hr : q_isLaw r) (o : qOk g 0 zX12_feelsKind k) (a1 : Int32) (M : qM) : qAE g k zX12_feelsKind (qL j r) 0 [some (.inr (some 77)), some (.inl a1), none] [] (qL j r, M) (f_X12_feelsKind n a1 M) := by
  unfold f_X12_feelsKind
  refine qr_iconst o (q_dm dm_X12_feelsKind 0 rfl) ic_0 ?_
  refine qs_istore_n (L' := [some (.inr (some 77)), some (.inl a1), some (.inl (0 : Int32))]) o (q_dm dm_X12_feelsKind 1 rfl) (Nat.le_of_ble_eq_true rfl) rfl ?_
  exact qr_loc (q_leS (q_leS (q_leS q_le0))) (w_X12_feelsKind_2 n j r hj hr o n a1 (0 : Int32) M)

theorem a_X12_feelsKind (g : qG) (l : Launch) (n : Nat) (j r : Nat) (hj : q_isLaw j) (hr : q_isLaw r) (a1 : Int32) (M : qM) : qAM g l 0 zX12_feelsKind (qL j r) [.inr (some 77), .inl a1] (qL j r, M) (f_X12_feelsKind n a1 M) :=
  qAM.of zv_X12_feelsKind.1 (by show 2 ≤ 3; decide) (fun k hk o => w_X12_feelsKind n j r hj hr o a1 M)
def tb_X12_isLike : List (Nat × Instr × Nat) := [(0, (.iload_n 1, 1)), (1, (.iload_n 2, 1)), (2, (.if_icmp .ne 5, 3)), (5, (.iconst 1, 1)), (6, (.ireturn, 1)), (7, (.aload_n 0, 1)), (8, (.iload_n 1, 1)), (9, (.invokevirtual 273, 3)), (12, (.aload_n 0, 1)), (13, (.getfield 68, 3)), (16, (.iconst 3, 1)), (17, (.iload_n 2, 1)), (18, (.iastore, 1)), (19, (.aload_n 0, 1)), (20, (.getfield 68, 3)), (23, (.iconst 4, 1)), (24, (.aload_n 0, 1)), (25, (.getfield 22, 3)), (28, (.iload_n 2, 1)), (29, (.iaload, 1)), (30, (.iastore, 1)), (31, (.aload_n 0, 1)), (32, (.getfield 68, 3)), (35, (.iconst 5, 1)), (36, (.aload_n 0, 1)), (37, (.getfield 22, 3)), (40, (.iload_n 1, 1)), (41, (.iaload, 1)), (42, (.aload_n 0, 1)), (43, (.getfield 22, 3)), (46, (.iload_n 2, 1)), (47, (.iaload, 1)), (48, (.iand, 1)), (49, (.invokestatic 276, 3)), (52, (.iastore, 1)), (53, (.iconst 0, 1)), (54, (.istore_n 3, 1)), (55, (.iload_n 3, 1)), (56, (.aload_n 0, 1)), (57, (.getfield 262, 3)), (60, (.if_icmp .ge 42, 3)), (63, (.aload_n 0, 1)), (64, (.getfield 53, 3)), (67, (.iload_n 3, 1)), (68, (.iaload, 1)), (69, (.bipush 97, 2)), (71, (.if_icmp .ne 25, 3)), (74, (.aload_n 0, 1)), (75, (.aload_n 0, 1)), (76, (.getfield 59, 3)), (79, (.iload_n 3, 1)), (80, (.iaload, 1)), (81, (.aload_n 0, 1)), (82, (.getfield 62, 3)), (85, (.iload_n 3, 1)), (86, (.iaload, 1)), (87, (.invokevirtual 269, 3)), (90, (.iconst 1, 1)), (91, (.if_icmp .ne 5, 3)), (94, (.iconst 1, 1)), (95, (.ireturn, 1)), (96, (.iinc 3 1, 3)), (99, (.goto (-44), 3)), (102, (.iconst 0, 1)), (103, (.ireturn, 1))]
theorem dm_X12_isLike : ∀ q ∈ tb_X12_isLike, decode zX12_isLike.2.1 q.1 = .ok q.2 := by decide +kernel
def b_X12_isLike_55 (n : Nat) (K55 : Int32 → qM → qR) (a3 : Int32) (M : qM) : qR :=
  (if (M 77 17) ≤ a3 then some ((0 : Int32), M) else qg a3 16 ((if (M 92 a3.toNatClampNeg) = (97 : Int32) then qg a3 16 (qg a3 16 (qc (f_X12_comesTo n (M 94 a3.toNatClampNeg) (M 95 a3.toNatClampNeg) M) (fun r2 m3 => (if r2 = (1 : Int32) then some ((1 : Int32), m3) else ql (a3 + (1 : Int32)) (fun x4 => K55 x4 m3))))) else ql (a3 + (1 : Int32)) (fun x1 => K55 x1 M))))
set_option maxRecDepth 4000 in
theorem wb_X12_isLike_55 {g : qG} {k : qK} (n : Nat) (j r : Nat) (hj : q_isLaw j) (hr : q_isLaw r) (o : qOk g 2 zX12_isLike k) (K55 : Int32 → qM → qR) (hK55 : ∀ (a3 : Int32) (M : qM), qAE g k zX12_isLike (qL j r) 55 [some (.inr (some 77)), none, none, some (.inl a3)] [] (qL j r, M) (K55 a3 M)) (a3 : Int32) (M : qM) : qAE g k zX12_isLike (qL j r) 55 [some (.inr (some 77)), none, none, some (.inl a3)] [] (qL j r, M) (b_X12_isLike_55 n K55 a3 M) := by
  unfold b_X12_isLike_55
  refine qr_iload_n o (q_dm dm_X12_isLike 37 rfl) rfl ?_
  refine qr_aload_n o (q_dm dm_X12_isLike 38 rfl) rfl ?_
  refine qr_getf (kf := 17) o cf_X12 (sh77 j r) rfl (Nat.le_of_ble_eq_true rfl) fl_X12_262 (q_dm dm_X12_isLike 39 rfl) ?_
  refine qr_icmp_ge (tgt := 102) o (q_dm dm_X12_isLike 40 rfl) (by decide) ?_ ?_
  · refine qr_iconst o (q_dm dm_X12_isLike 63 rfl) ic_0 ?_
    exact qr_iret o rfl (by decide) (q_dm dm_X12_isLike 64 rfl)
  · refine qr_aload_n o (q_dm dm_X12_isLike 41 rfl) rfl ?_
    refine qr_getr (kf := 25) o cf_X12 (sh77 j r) rfl (Nat.le_of_ble_eq_true rfl) fl_X12_53 (q_dm dm_X12_isLike 42 rfl) ?_
    refine qr_iload_n o (q_dm dm_X12_isLike 43 rfl) rfl ?_
    refine qr_iald o (sh92 j r) (q_dm dm_X12_isLike 44 rfl) ?_
    refine qr_bipush o (q_dm dm_X12_isLike 45 rfl) bi_97 ?_
    refine qr_icmp_ne (tgt := 96) o (q_dm dm_X12_isLike 46 rfl) (by decide) ?_ ?_
    · refine qs_iincl2 (L' := fun x1 => [some (.inr (some 77)), none, none, some (.inl x1)]) o (q_dm dm_X12_isLike 61 rfl) rfl ic_1 (Nat.le_of_ble_eq_true rfl) (fun _ => rfl) (fun x1 => ?_)
      refine qr_goto (tgt := 55) o (q_dm dm_X12_isLike 62 rfl) (by decide) ?_
      exact qr_loc (q_leS (q_leN (q_leN (q_leS q_le0)))) (hK55 x1 M)
    · refine qr_aload_n o (q_dm dm_X12_isLike 47 rfl) rfl ?_
      refine qr_aload_n o (q_dm dm_X12_isLike 48 rfl) rfl ?_
      refine qr_getr (kf := 27) o cf_X12 (sh77 j r) rfl (Nat.le_of_ble_eq_true rfl) fl_X12_59 (q_dm dm_X12_isLike 49 rfl) ?_
      refine qr_iload_n o (q_dm dm_X12_isLike 50 rfl) rfl ?_
      refine qr_iald o (sh94 j r) (q_dm dm_X12_isLike 51 rfl) ?_
      refine qr_aload_n o (q_dm dm_X12_isLike 52 rfl) rfl ?_
      refine qr_getr (kf := 28) o cf_X12 (sh77 j r) rfl (Nat.le_of_ble_eq_true rfl) fl_X12_62 (q_dm dm_X12_isLike 53 rfl) ?_
      refine qr_iload_n o (q_dm dm_X12_isLike 54 rfl) rfl ?_
      refine qr_iald o (sh95 j r) (q_dm dm_X12_isLike 55 rfl) ?_
      refine qr_callv_i (As := [.inl (M 94 a3.toNatClampNeg), .inl (M 95 a3.toNatClampNeg)]) (S := []) o (a_X12_comesTo g k.2.1 n j r hj hr (M 94 a3.toNatClampNeg) (M 95 a3.toNatClampNeg) M) (Nat.le_of_ble_eq_true rfl) zv_X12_comesTo rfl cf_X12 (sh77 j r) ml_X12_269 (Nat.le_of_ble_eq_true rfl) (q_dm dm_X12_isLike 56 rfl) (fun r2 m3 => ?_)
      refine qr_iconst o (q_dm dm_X12_isLike 57 rfl) ic_1 ?_
      refine qr_icmp_ne (tgt := 96) o (q_dm dm_X12_isLike 58 rfl) (by decide) ?_ ?_
      · refine qs_iincl2 (L' := fun x4 => [some (.inr (some 77)), none, none, some (.inl x4)]) o (q_dm dm_X12_isLike 61 rfl) rfl ic_1 (Nat.le_of_ble_eq_true rfl) (fun _ => rfl) (fun x4 => ?_)
        refine qr_goto (tgt := 55) o (q_dm dm_X12_isLike 62 rfl) (by decide) ?_
        exact qr_loc (q_leS (q_leN (q_leN (q_leS q_le0)))) (hK55 x4 m3)
      · refine qr_iconst o (q_dm dm_X12_isLike 59 rfl) ic_1 ?_
        exact qr_iret o rfl (by decide) (q_dm dm_X12_isLike 60 rfl)

def f_X12_isLike_55 (n : Nat) : Nat → Int32 → qM → qR
  | 0, _, _ => none
  | m + 1, a3, M => b_X12_isLike_55 n (f_X12_isLike_55 n m) a3 M
theorem w_X12_isLike_55 {g : qG} {k : qK} (n : Nat) (j r : Nat) (hj : q_isLaw j) (hr : q_isLaw r) (o : qOk g 2 zX12_isLike k) : ∀ (m : Nat) (a3 : Int32) (M : qM), qAE g k zX12_isLike (qL j r) 55 [some (.inr (some 77)), none, none, some (.inl a3)] [] (qL j r, M) (f_X12_isLike_55 n m a3 M) := by
  intro m
  induction m with
  | zero =>
    intro a3 M
    exact qr_none
  | succ m ih =>
    intro a3 M
    exact wb_X12_isLike_55 n j r hj hr o (f_X12_isLike_55 n m) ih a3 M
def f_X12_isLike (n : Nat) (a1 a2 : Int32) (M : qM) : qR :=
  (if a1 = a2 then some ((1 : Int32), M) else qc (f_X12_feelsKind n a1 M) (fun _ m1 => qlm (mu m1 97 3 a2) (fun m2 => qg a2 13 (qlm (mu m2 97 4 (m2 82 a2.toNatClampNeg)) (fun m3 => qg a1 13 (qg a2 13 (qc (f_X12_bits n ((m3 82 a1.toNatClampNeg) &&& (m3 82 a2.toNatClampNeg)) m3) (fun r4 m5 => qlm (mu m5 97 5 r4) (fun m6 => f_X12_isLike_55 n n (0 : Int32) m6)))))))))
set_option maxRecDepth 4000 in
theorem w_X12_isLike {g : qG} {k : qK} (n : Nat) (j r : Nat) (hj : q_isLaw j) (hr : q_isLaw r) (o : qOk g 2 zX12_isLike k) (a1 a2 : Int32) (M : qM) : qAE g k zX12_isLike (qL j r) 0 [some (.inr (some 77)), some (.inl a1), some (.inl a2), none] [] (qL j r, M) (f_X12_isLike n a1 a2 M) := by
  unfold f_X12_isLike
  refine qr_iload_n o (q_dm dm_X12_isLike 0 rfl) rfl ?_
  refine qr_iload_n o (q_dm dm_X12_isLike 1 rfl) rfl ?_
  refine qr_icmp_ne (tgt := 7) o (q_dm dm_X12_isLike 2 rfl) (by decide) ?_ ?_
  · refine qr_aload_n o (q_dm dm_X12_isLike 5 rfl) rfl ?_
    refine qr_iload_n o (q_dm dm_X12_isLike 6 rfl) rfl ?_
    refine qr_callv_v (As := [.inl a1]) (S := []) o (a_X12_feelsKind g k.2.1 n j r hj hr a1 M) (Nat.le_of_ble_eq_true rfl) zv_X12_feelsKind rfl cf_X12 (sh77 j r) ml_X12_273 (Nat.le_of_ble_eq_true rfl) (q_dm dm_X12_isLike 7 rfl) (fun _ m1 => ?_)
    refine qr_aload_n o (q_dm dm_X12_isLike 8 rfl) rfl ?_
    refine qr_getr (kf := 30) o cf_X12 (sh77 j r) rfl (Nat.le_of_ble_eq_true rfl) fl_X12_68 (q_dm dm_X12_isLike 9 rfl) ?_
    refine qr_iconst o (q_dm dm_X12_isLike 10 rfl) ic_3 ?_
    refine qr_iload_n o (q_dm dm_X12_isLike 11 rfl) rfl ?_
    refine qr_iast0 (c := 3) o (sh97 j r) (by decide) (by decide) (q_dm dm_X12_isLike 12 rfl) ?_
    refine qr_letm (fun m2 => ?_)
    refine qr_aload_n o (q_dm dm_X12_isLike 13 rfl) rfl ?_
    refine qr_getr (kf := 30) o cf_X12 (sh77 j r) rfl (Nat.le_of_ble_eq_true rfl) fl_X12_68 (q_dm dm_X12_isLike 14 rfl) ?_
    refine qr_iconst o (q_dm dm_X12_isLike 15 rfl) ic_4 ?_
    refine qr_aload_n o (q_dm dm_X12_isLike 16 rfl) rfl ?_
    refine qr_getr (kf := 4) o cf_X12 (sh77 j r) rfl (Nat.le_of_ble_eq_true rfl) fl_X12_22 (q_dm dm_X12_isLike 17 rfl) ?_
    refine qr_iload_n o (q_dm dm_X12_isLike 18 rfl) rfl ?_
    refine qr_iald o (sh82 j r) (q_dm dm_X12_isLike 19 rfl) ?_
    refine qr_iast0 (c := 4) o (sh97 j r) (by decide) (by decide) (q_dm dm_X12_isLike 20 rfl) ?_
    refine qr_letm (fun m3 => ?_)
    refine qr_aload_n o (q_dm dm_X12_isLike 21 rfl) rfl ?_
    refine qr_getr (kf := 30) o cf_X12 (sh77 j r) rfl (Nat.le_of_ble_eq_true rfl) fl_X12_68 (q_dm dm_X12_isLike 22 rfl) ?_
    refine qr_iconst o (q_dm dm_X12_isLike 23 rfl) ic_5 ?_
    refine qr_aload_n o (q_dm dm_X12_isLike 24 rfl) rfl ?_
    refine qr_getr (kf := 4) o cf_X12 (sh77 j r) rfl (Nat.le_of_ble_eq_true rfl) fl_X12_22 (q_dm dm_X12_isLike 25 rfl) ?_
    refine qr_iload_n o (q_dm dm_X12_isLike 26 rfl) rfl ?_
    refine qr_iald o (sh82 j r) (q_dm dm_X12_isLike 27 rfl) ?_
    refine qr_aload_n o (q_dm dm_X12_isLike 28 rfl) rfl ?_
    refine qr_getr (kf := 4) o cf_X12 (sh77 j r) rfl (Nat.le_of_ble_eq_true rfl) fl_X12_22 (q_dm dm_X12_isLike 29 rfl) ?_
    refine qr_iload_n o (q_dm dm_X12_isLike 30 rfl) rfl ?_
    refine qr_iald o (sh82 j r) (q_dm dm_X12_isLike 31 rfl) ?_
    refine qr_iand o (q_dm dm_X12_isLike 32 rfl) ?_
    refine qr_calls_i (As := [.inl ((m3 82 a1.toNatClampNeg) &&& (m3 82 a2.toNatClampNeg))]) (S := [.inl (5 : Int32), .inr (some 97)]) o (a_X12_bits g k.2.1 n j r hj hr ((m3 82 a1.toNatClampNeg) &&& (m3 82 a2.toNatClampNeg)) m3) (Nat.le_of_ble_eq_true rfl) zs_X12_bits rfl ml_X12_276 (Nat.le_of_ble_eq_true rfl) (q_dm dm_X12_isLike 33 rfl) (fun r4 m5 => ?_)
    refine qr_iast0 (c := 5) o (sh97 j r) (by decide) (by decide) (q_dm dm_X12_isLike 34 rfl) ?_
    refine qr_letm (fun m6 => ?_)
    refine qr_iconst o (q_dm dm_X12_isLike 35 rfl) ic_0 ?_
    refine qs_istore_n (L' := [some (.inr (some 77)), some (.inl a1), some (.inl a2), some (.inl (0 : Int32))]) o (q_dm dm_X12_isLike 36 rfl) (Nat.le_of_ble_eq_true rfl) rfl ?_
    exact qr_loc (q_leS (q_leN (q_leN (q_leS q_le0)))) (w_X12_isLike_55 n j r hj hr o n (0 : Int32) m6)
  · refine qr_iconst o (q_dm dm_X12_isLike 3 rfl) ic_1 ?_
    exact qr_iret o rfl (by decide) (q_dm dm_X12_isLike 4 rfl)

theorem a_X12_isLike (g : qG) (l : Launch) (n : Nat) (j r : Nat) (hj : q_isLaw j) (hr : q_isLaw r) (a1 a2 : Int32) (M : qM) : qAM g l 2 zX12_isLike (qL j r) [.inr (some 77), .inl a1, .inl a2] (qL j r, M) (f_X12_isLike n a1 a2 M) :=
  qAM.of zv_X12_isLike.1 (by show 3 ≤ 4; decide) (fun k hk o => w_X12_isLike n j r hj hr o a1 a2 M)
def tb_X12_alike : List (Nat × Instr × Nat) := [(0, (.aload_n 0, 1)), (1, (.iload_n 1, 1)), (2, (.invokevirtual 157, 3)), (5, (.ifCond .eq 11, 3)), (8, (.aload_n 0, 1)), (9, (.iload_n 2, 1)), (10, (.invokevirtual 157, 3)), (13, (.ifCond .ne 5, 3)), (16, (.iconst (-1), 1)), (17, (.ireturn, 1)), (18, (.aload_n 0, 1)), (19, (.iload_n 1, 1)), (20, (.iload_n 2, 1)), (21, (.invokevirtual 279, 3)), (24, (.ifCond .eq 7, 3)), (27, (.iconst 1, 1)), (28, (.goto 4, 3)), (31, (.iconst 0, 1)), (32, (.ireturn, 1))]
theorem dm_X12_alike : ∀ q ∈ tb_X12_alike, decode zX12_alike.2.1 q.1 = .ok q.2 := by decide +kernel
def f_X12_alike (n : Nat) (a1 a2 : Int32) (M : qM) : qR :=
  qc (f_X12_isKind n a1 M) (fun r1 m2 => (if r1 = (0 : Int32) then some ((-1 : Int32), m2) else qc (f_X12_isKind n a2 m2) (fun r3 m4 => (if r3 = (0 : Int32) then some ((-1 : Int32), m4) else qc (f_X12_isLike n a1 a2 m4) (fun r5 m6 => (if r5 = (0 : Int32) then some ((0 : Int32), m6) else some ((1 : Int32), m6)))))))
set_option maxRecDepth 4000 in
theorem w_X12_alike {g : qG} {k : qK} (n : Nat) (j r : Nat) (hj : q_isLaw j) (hr : q_isLaw r) (o : qOk g 3 zX12_alike k) (a1 a2 : Int32) (M : qM) : qAE g k zX12_alike (qL j r) 0 [some (.inr (some 77)), some (.inl a1), some (.inl a2)] [] (qL j r, M) (f_X12_alike n a1 a2 M) := by
  unfold f_X12_alike
  refine qr_aload_n o (q_dm dm_X12_alike 0 rfl) rfl ?_
  refine qr_iload_n o (q_dm dm_X12_alike 1 rfl) rfl ?_
  refine qr_callv_i (As := [.inl a1]) (S := []) o (a_X12_isKind g k.2.1 n j r hj hr a1 M) (Nat.le_of_ble_eq_true rfl) zv_X12_isKind rfl cf_X12 (sh77 j r) ml_X12_157 (Nat.le_of_ble_eq_true rfl) (q_dm dm_X12_alike 2 rfl) (fun r1 m2 => ?_)
  refine qr_if_eq (tgt := 16) o (q_dm dm_X12_alike 3 rfl) (by decide) ?_ ?_
  · refine qr_iconst o (q_dm dm_X12_alike 8 rfl) ic_m1 ?_
    exact qr_iret o rfl rfl (q_dm dm_X12_alike 9 rfl)
  · refine qr_aload_n o (q_dm dm_X12_alike 4 rfl) rfl ?_
    refine qr_iload_n o (q_dm dm_X12_alike 5 rfl) rfl ?_
    refine qr_callv_i (As := [.inl a2]) (S := []) o (a_X12_isKind g k.2.1 n j r hj hr a2 m2) (Nat.le_of_ble_eq_true rfl) zv_X12_isKind rfl cf_X12 (sh77 j r) ml_X12_157 (Nat.le_of_ble_eq_true rfl) (q_dm dm_X12_alike 6 rfl) (fun r3 m4 => ?_)
    refine qr_if_ne (tgt := 18) o (q_dm dm_X12_alike 7 rfl) (by decide) ?_ ?_
    · refine qr_aload_n o (q_dm dm_X12_alike 10 rfl) rfl ?_
      refine qr_iload_n o (q_dm dm_X12_alike 11 rfl) rfl ?_
      refine qr_iload_n o (q_dm dm_X12_alike 12 rfl) rfl ?_
      refine qr_callv_i (As := [.inl a1, .inl a2]) (S := []) o (a_X12_isLike g k.2.1 n j r hj hr a1 a2 m4) (Nat.le_of_ble_eq_true rfl) zv_X12_isLike rfl cf_X12 (sh77 j r) ml_X12_279 (Nat.le_of_ble_eq_true rfl) (q_dm dm_X12_alike 13 rfl) (fun r5 m6 => ?_)
      refine qr_if_eq (tgt := 31) o (q_dm dm_X12_alike 14 rfl) (by decide) ?_ ?_
      · refine qr_iconst o (q_dm dm_X12_alike 17 rfl) ic_0 ?_
        exact qr_iret o rfl rfl (q_dm dm_X12_alike 18 rfl)
      · refine qr_iconst o (q_dm dm_X12_alike 15 rfl) ic_1 ?_
        refine qr_goto (tgt := 32) o (q_dm dm_X12_alike 16 rfl) (by decide) ?_
        exact qr_iret o rfl rfl (q_dm dm_X12_alike 18 rfl)
    · refine qr_iconst o (q_dm dm_X12_alike 8 rfl) ic_m1 ?_
      exact qr_iret o rfl rfl (q_dm dm_X12_alike 9 rfl)

theorem a_X12_alike (g : qG) (l : Launch) (n : Nat) (j r : Nat) (hj : q_isLaw j) (hr : q_isLaw r) (a1 a2 : Int32) (M : qM) : qAM g l 3 zX12_alike (qL j r) [.inr (some 77), .inl a1, .inl a2] (qL j r, M) (f_X12_alike n a1 a2 M) :=
  qAM.of zv_X12_alike.1 (by show 3 ≤ 3; decide) (fun k hk o => w_X12_alike n j r hj hr o a1 a2 M)
def tb_X12_at : List (Nat × Instr × Nat) := [(0, (.bipush 12, 2)), (2, (.iload_n 0, 1)), (3, (.imul, 1)), (4, (.iload_n 1, 1)), (5, (.iadd, 1)), (6, (.ireturn, 1))]
theorem dm_X12_at : ∀ q ∈ tb_X12_at, decode zX12_at.2.1 q.1 = .ok q.2 := by decide +kernel
def f_X12_at (n : Nat) (a0 a1 : Int32) (M : qM) : qR :=
  some ((((12 : Int32) * a0) + a1), M)
set_option maxRecDepth 4000 in
theorem w_X12_at {g : qG} {k : qK} (n : Nat) (j r : Nat) (hj : q_isLaw j) (hr : q_isLaw r) (o : qOk g 0 zX12_at k) (a0 a1 : Int32) (M : qM) : qAE g k zX12_at (qL j r) 0 [some (.inl a0), some (.inl a1)] [] (qL j r, M) (f_X12_at n a0 a1 M) := by
  unfold f_X12_at
  refine qr_bipush o (q_dm dm_X12_at 0 rfl) bi_12 ?_
  refine qr_iload_n o (q_dm dm_X12_at 1 rfl) rfl ?_
  refine qr_imul o (q_dm dm_X12_at 2 rfl) ?_
  refine qr_iload_n o (q_dm dm_X12_at 3 rfl) rfl ?_
  refine qr_iadd o (q_dm dm_X12_at 4 rfl) ?_
  exact qr_iret o rfl rfl (q_dm dm_X12_at 5 rfl)

theorem a_X12_at (g : qG) (l : Launch) (n : Nat) (j r : Nat) (hj : q_isLaw j) (hr : q_isLaw r) (a0 a1 : Int32) (M : qM) : qAM g l 0 zX12_at (qL j r) [.inl a0, .inl a1] (qL j r, M) (f_X12_at n a0 a1 M) :=
  qAM.of zs_X12_at.1 (by show 2 ≤ 2; decide) (fun k hk o => w_X12_at n j r hj hr o a0 a1 M)
def tb_X12_allTries : List (Nat × Instr × Nat) := [(0, (.iconst 0, 1)), (1, (.istore_n 2, 1)), (2, (.iconst 0, 1)), (3, (.istore_n 3, 1)), (4, (.iload_n 3, 1)), (5, (.bipush 8, 2)), (7, (.if_icmp .ge 24, 3)), (10, (.iload_n 2, 1)), (11, (.aload_n 0, 1)), (12, (.getfield 7, 3)), (15, (.iconst 0, 1)), (16, (.iload_n 3, 1)), (17, (.iload_n 1, 1)), (18, (.invokestatic 282, 3)), (21, (.iadd, 1)), (22, (.iaload, 1)), (23, (.iadd, 1)), (24, (.istore_n 2, 1)), (25, (.iinc 3 1, 3)), (28, (.goto (-24), 3)), (31, (.iload_n 2, 1)), (32, (.ireturn, 1))]
theorem dm_X12_allTries : ∀ q ∈ tb_X12_allTries, decode zX12_allTries.2.1 q.1 = .ok q.2 := by decide +kernel
def b_X12_allTries_4 (n : Nat) (K4 : Int32 → Int32 → Int32 → qM → qR) (a1 a2 a3 : Int32) (M : qM) : qR :=
  (if (8 : Int32) ≤ a3 then some (a2, M) else qc (f_X12_at n a3 a1 M) (fun r1 m2 => qg ((0 : Int32) + r1) 954 (ql (a2 + (m2 78 ((0 : Int32) + r1).toNatClampNeg)) (fun x3 => ql (a3 + (1 : Int32)) (fun x4 => K4 a1 x3 x4 m2)))))
set_option maxRecDepth 4000 in
theorem wb_X12_allTries_4 {g : qG} {k : qK} (n : Nat) (j r : Nat) (hj : q_isLaw j) (hr : q_isLaw r) (o : qOk g 1 zX12_allTries k) (K4 : Int32 → Int32 → Int32 → qM → qR) (hK4 : ∀ (a1 a2 a3 : Int32) (M : qM), qAE g k zX12_allTries (qL j r) 4 [some (.inr (some 77)), some (.inl a1), some (.inl a2), some (.inl a3)] [] (qL j r, M) (K4 a1 a2 a3 M)) (a1 a2 a3 : Int32) (M : qM) : qAE g k zX12_allTries (qL j r) 4 [some (.inr (some 77)), some (.inl a1), some (.inl a2), some (.inl a3)] [] (qL j r, M) (b_X12_allTries_4 n K4 a1 a2 a3 M) := by
  unfold b_X12_allTries_4
  refine qr_iload_n o (q_dm dm_X12_allTries 4 rfl) rfl ?_
  refine qr_bipush o (q_dm dm_X12_allTries 5 rfl) bi_8 ?_
  refine qr_icmp_ge (tgt := 31) o (q_dm dm_X12_allTries 6 rfl) (by decide) ?_ ?_
  · refine qr_iload_n o (q_dm dm_X12_allTries 20 rfl) rfl ?_
    exact qr_iret o rfl rfl (q_dm dm_X12_allTries 21 rfl)
  · refine qr_iload_n o (q_dm dm_X12_allTries 7 rfl) rfl ?_
    refine qr_aload_n o (q_dm dm_X12_allTries 8 rfl) rfl ?_
    refine qr_getr (kf := 0) o cf_X12 (sh77 j r) rfl (Nat.le_of_ble_eq_true rfl) fl_X12_7 (q_dm dm_X12_allTries 9 rfl) ?_
    refine qr_iconst o (q_dm dm_X12_allTries 10 rfl) ic_0 ?_
    refine qr_iload_n o (q_dm dm_X12_allTries 11 rfl) rfl ?_
    refine qr_iload_n o (q_dm dm_X12_allTries 12 rfl) rfl ?_
    refine qr_calls_i (As := [.inl a3, .inl a1]) (S := [.inl (0 : Int32), .inr (some 78), .inl a2]) o (a_X12_at g k.2.1 n j r hj hr a3 a1 M) (Nat.le_of_ble_eq_true rfl) zs_X12_at rfl ml_X12_282 (Nat.le_of_ble_eq_true rfl) (q_dm dm_X12_allTries 13 rfl) (fun r1 m2 => ?_)
    refine qr_iadd o (q_dm dm_X12_allTries 14 rfl) ?_
    refine qr_iald o (sh78 j r) (q_dm dm_X12_allTries 15 rfl) ?_
    refine qr_iadd o (q_dm dm_X12_allTries 16 rfl) ?_
    refine qr_lt (fun x3 => ?_)
    refine qs_istore_n (L' := [some (.inr (some 77)), some (.inl a1), some (.inl x3), some (.inl a3)]) o (q_dm dm_X12_allTries 17 rfl) (Nat.le_of_ble_eq_true rfl) rfl ?_
    refine qs_iincl2 (L' := fun x4 => [some (.inr (some 77)), some (.inl a1), some (.inl x3), some (.inl x4)]) o (q_dm dm_X12_allTries 18 rfl) rfl ic_1 (Nat.le_of_ble_eq_true rfl) (fun _ => rfl) (fun x4 => ?_)
    refine qr_goto (tgt := 4) o (q_dm dm_X12_allTries 19 rfl) (by decide) ?_
    exact qr_loc (q_leS (q_leS (q_leS (q_leS q_le0)))) (hK4 a1 x3 x4 m2)

def f_X12_allTries_4 (n : Nat) : Nat → Int32 → Int32 → Int32 → qM → qR
  | 0, _, _, _, _ => none
  | m + 1, a1, a2, a3, M => b_X12_allTries_4 n (f_X12_allTries_4 n m) a1 a2 a3 M
theorem w_X12_allTries_4 {g : qG} {k : qK} (n : Nat) (j r : Nat) (hj : q_isLaw j) (hr : q_isLaw r) (o : qOk g 1 zX12_allTries k) : ∀ (m : Nat) (a1 a2 a3 : Int32) (M : qM), qAE g k zX12_allTries (qL j r) 4 [some (.inr (some 77)), some (.inl a1), some (.inl a2), some (.inl a3)] [] (qL j r, M) (f_X12_allTries_4 n m a1 a2 a3 M) := by
  intro m
  induction m with
  | zero =>
    intro a1 a2 a3 M
    exact qr_none
  | succ m ih =>
    intro a1 a2 a3 M
    exact wb_X12_allTries_4 n j r hj hr o (f_X12_allTries_4 n m) ih a1 a2 a3 M
def f_X12_allTries (n : Nat) (a1 : Int32) (M : qM) : qR :=
  f_X12_allTries_4 n n a1 (0 : Int32) (0 : Int32) M
set_option maxRecDepth 4000 in
theorem w_X12_allTries {g : qG} {k : qK} (n : Nat) (j r : Nat) (hj : q_isLaw j) (hr : q_isLaw r) (o : qOk g 1 zX12_allTries k) (a1 : Int32) (M : qM) : qAE g k zX12_allTries (qL j r) 0 [some (.inr (some 77)), some (.inl a1), none, none] [] (qL j r, M) (f_X12_allTries n a1 M) := by
  unfold f_X12_allTries
  refine qr_iconst o (q_dm dm_X12_allTries 0 rfl) ic_0 ?_
  refine qs_istore_n (L' := [some (.inr (some 77)), some (.inl a1), some (.inl (0 : Int32)), none]) o (q_dm dm_X12_allTries 1 rfl) (Nat.le_of_ble_eq_true rfl) rfl ?_
  refine qr_iconst o (q_dm dm_X12_allTries 2 rfl) ic_0 ?_
  refine qs_istore_n (L' := [some (.inr (some 77)), some (.inl a1), some (.inl (0 : Int32)), some (.inl (0 : Int32))]) o (q_dm dm_X12_allTries 3 rfl) (Nat.le_of_ble_eq_true rfl) rfl ?_
  exact qr_loc (q_leS (q_leS (q_leS (q_leS q_le0)))) (w_X12_allTries_4 n j r hj hr o n a1 (0 : Int32) (0 : Int32) M)

theorem a_X12_allTries (g : qG) (l : Launch) (n : Nat) (j r : Nat) (hj : q_isLaw j) (hr : q_isLaw r) (a1 : Int32) (M : qM) : qAM g l 1 zX12_allTries (qL j r) [.inr (some 77), .inl a1] (qL j r, M) (f_X12_allTries n a1 M) :=
  qAM.of zv_X12_allTries.1 (by show 2 ≤ 4; decide) (fun k hk o => w_X12_allTries n j r hj hr o a1 M)
def tb_X12_areCounted : List (Nat × Instr × Nat) := [(0, (.iconst 0, 1)), (1, (.istore_n 2, 1)), (2, (.iload_n 2, 1)), (3, (.bipush 12, 2)), (5, (.if_icmp .ge 97, 3)), (8, (.aload_n 0, 1)), (9, (.getfield 25, 3)), (12, (.iload_n 1, 1)), (13, (.iaload, 1)), (14, (.iload_n 2, 1)), (15, (.invokestatic 149, 3)), (18, (.ifCond .ne 6, 3)), (21, (.goto 75, 3)), (24, (.aload_n 0, 1)), (25, (.getfield 7, 3)), (28, (.sipush 192, 3)), (31, (.aload_n 0, 1)), (32, (.getfield 362, 3)), (35, (.iload_n 2, 1)), (36, (.invokestatic 282, 3)), (39, (.iadd, 1)), (40, (.iaload, 1)), (41, (.istore_n 3, 1)), (42, (.iconst 0, 1)), (43, (.istore 4, 2)), (45, (.iload 4, 2)), (47, (.aload_n 0, 1)), (48, (.getfield 365, 3)), (51, (.if_icmp .ge 39, 3)), (54, (.iload_n 3, 1)), (55, (.aload_n 0, 1)), (56, (.getfield 92, 3)), (59, (.iload 4, 2)), (61, (.iaload, 1)), (62, (.iload_n 2, 1)), (63, (.if_icmp .ne 18, 3)), (66, (.aload_n 0, 1)), (67, (.getfield 89, 3)), (70, (.aload_n 0, 1)), (71, (.getfield 101, 3)), (74, (.iload 4, 2)), (76, (.iaload, 1)), (77, (.iaload, 1)), (78, (.goto 4, 3)), (81, (.iconst 0, 1)), (82, (.iadd, 1)), (83, (.istore_n 3, 1)), (84, (.iinc 4 1, 3)), (87, (.goto (-42), 3)), (90, (.iload_n 3, 1)), (91, (.ifCond .ne 5, 3)), (94, (.iconst 0, 1)), (95, (.ireturn, 1)), (96, (.iinc 2 1, 3)), (99, (.goto (-97), 3)), (102, (.iconst 1, 1)), (103, (.ireturn, 1))]
theorem dm_X12_areCounted : ∀ q ∈ tb_X12_areCounted, decode zX12_areCounted.2.1 q.1 = .ok q.2 := by decide +kernel
def f_X12_areCounted_82 (n : Nat) (K2 : Int32 → Int32 → qM → qR) (K45 : Int32 → Int32 → Int32 → Int32 → qM → qR) (a1 a2 a4 s0 s1 : Int32) (M : qM) : qR :=
  ql (s0 + s1) (fun x1 => ql (a4 + (1 : Int32)) (fun x2 => K45 a1 a2 x1 x2 M))
set_option maxRecDepth 4000 in
theorem w_X12_areCounted_82 {g : qG} {k : qK} (n : Nat) (j r : Nat) (hj : q_isLaw j) (hr : q_isLaw r) (o : qOk g 1 zX12_areCounted k) (K2 : Int32 → Int32 → qM → qR) (hK2 : ∀ (a1 a2 : Int32) (M : qM), qAE g k zX12_areCounted (qL j r) 2 [some (.inr (some 77)), some (.inl a1), some (.inl a2), none, none] [] (qL j r, M) (K2 a1 a2 M)) (K45 : Int32 → Int32 → Int32 → Int32 → qM → qR) (hK45 : ∀ (a1 a2 a3 a4 : Int32) (M : qM), qAE g k zX12_areCounted (qL j r) 45 [some (.inr (some 77)), some (.inl a1), some (.inl a2), some (.inl a3), some (.inl a4)] [] (qL j r, M) (K45 a1 a2 a3 a4 M)) (a1 a2 a4 s0 s1 : Int32) (M : qM) : qAE g k zX12_areCounted (qL j r) 82 [some (.inr (some 77)), some (.inl a1), some (.inl a2), none, some (.inl a4)] [.inl s1, .inl s0] (qL j r, M) (f_X12_areCounted_82 n K2 K45 a1 a2 a4 s0 s1 M) := by
  unfold f_X12_areCounted_82
  refine qr_iadd o (q_dm dm_X12_areCounted 45 rfl) ?_
  refine qr_lt (fun x1 => ?_)
  refine qs_istore_n (L' := [some (.inr (some 77)), some (.inl a1), some (.inl a2), some (.inl x1), some (.inl a4)]) o (q_dm dm_X12_areCounted 46 rfl) (Nat.le_of_ble_eq_true rfl) rfl ?_
  refine qs_iincl2 (L' := fun x2 => [some (.inr (some 77)), some (.inl a1), some (.inl a2), some (.inl x1), some (.inl x2)]) o (q_dm dm_X12_areCounted 47 rfl) rfl ic_1 (Nat.le_of_ble_eq_true rfl) (fun _ => rfl) (fun x2 => ?_)
  refine qr_goto (tgt := 45) o (q_dm dm_X12_areCounted 48 rfl) (by decide) ?_
  exact qr_loc (q_leS (q_leS (q_leS (q_leS (q_leS q_le0))))) (hK45 a1 a2 x1 x2 M)

def b_X12_areCounted_45 (n : Nat) (K2 : Int32 → Int32 → qM → qR) (K45 : Int32 → Int32 → Int32 → Int32 → qM → qR) (a1 a2 a3 a4 : Int32) (M : qM) : qR :=
  (if (M 77 43) ≤ a4 then (if a3 = (0 : Int32) then some ((0 : Int32), M) else ql (a2 + (1 : Int32)) (fun x1 => K2 a1 x1 M)) else qg a4 4 ((if (M 105 a4.toNatClampNeg) = a2 then qg a4 4 (qg (M 108 a4.toNatClampNeg) 20 (f_X12_areCounted_82 n K2 K45 a1 a2 a4 a3 (M 104 (M 108 a4.toNatClampNeg).toNatClampNeg) M)) else f_X12_areCounted_82 n K2 K45 a1 a2 a4 a3 (0 : Int32) M)))
set_option maxRecDepth 4000 in
theorem wb_X12_areCounted_45 {g : qG} {k : qK} (n : Nat) (j r : Nat) (hj : q_isLaw j) (hr : q_isLaw r) (o : qOk g 1 zX12_areCounted k) (K2 : Int32 → Int32 → qM → qR) (hK2 : ∀ (a1 a2 : Int32) (M : qM), qAE g k zX12_areCounted (qL j r) 2 [some (.inr (some 77)), some (.inl a1), some (.inl a2), none, none] [] (qL j r, M) (K2 a1 a2 M)) (K45 : Int32 → Int32 → Int32 → Int32 → qM → qR) (hK45 : ∀ (a1 a2 a3 a4 : Int32) (M : qM), qAE g k zX12_areCounted (qL j r) 45 [some (.inr (some 77)), some (.inl a1), some (.inl a2), some (.inl a3), some (.inl a4)] [] (qL j r, M) (K45 a1 a2 a3 a4 M)) (a1 a2 a3 a4 : Int32) (M : qM) : qAE g k zX12_areCounted (qL j r) 45 [some (.inr (some 77)), some (.inl a1), some (.inl a2), some (.inl a3), some (.inl a4)] [] (qL j r, M) (b_X12_areCounted_45 n K2 K45 a1 a2 a3 a4 M) := by
  unfold b_X12_areCounted_45
  refine qr_iload o (q_dm dm_X12_areCounted 25 rfl) rfl ?_
  refine qr_aload_n o (q_dm dm_X12_areCounted 26 rfl) rfl ?_
  refine qr_getf (kf := 43) o cf_X12 (sh77 j r) rfl (Nat.le_of_ble_eq_true rfl) fl_X12_365 (q_dm dm_X12_areCounted 27 rfl) ?_
  refine qr_icmp_ge (tgt := 90) o (q_dm dm_X12_areCounted 28 rfl) (by decide) ?_ ?_
  · refine qr_iload_n o (q_dm dm_X12_areCounted 49 rfl) rfl ?_
    refine qr_if_ne (tgt := 96) o (q_dm dm_X12_areCounted 50 rfl) (by decide) ?_ ?_
    · refine qs_iincl2 (L' := fun x1 => [some (.inr (some 77)), some (.inl a1), some (.inl x1), some (.inl a3), some (.inl a4)]) o (q_dm dm_X12_areCounted 53 rfl) rfl ic_1 (Nat.le_of_ble_eq_true rfl) (fun _ => rfl) (fun x1 => ?_)
      refine qr_goto (tgt := 2) o (q_dm dm_X12_areCounted 54 rfl) (by decide) ?_
      exact qr_loc (q_leS (q_leS (q_leS (q_leN (q_leN q_le0))))) (hK2 a1 x1 M)
    · refine qr_iconst o (q_dm dm_X12_areCounted 51 rfl) ic_0 ?_
      exact qr_iret o rfl (by decide) (q_dm dm_X12_areCounted 52 rfl)
  · refine qr_iload_n o (q_dm dm_X12_areCounted 29 rfl) rfl ?_
    refine qr_aload_n o (q_dm dm_X12_areCounted 30 rfl) rfl ?_
    refine qr_getr (kf := 48) o cf_X12 (sh77 j r) rfl (Nat.le_of_ble_eq_true rfl) fl_X12_92 (q_dm dm_X12_areCounted 31 rfl) ?_
    refine qr_iload o (q_dm dm_X12_areCounted 32 rfl) rfl ?_
    refine qr_iald o (sh105 j r) (q_dm dm_X12_areCounted 33 rfl) ?_
    refine qr_iload_n o (q_dm dm_X12_areCounted 34 rfl) rfl ?_
    refine qr_icmp_ne (tgt := 81) o (q_dm dm_X12_areCounted 35 rfl) (by decide) ?_ ?_
    · refine qr_iconst o (q_dm dm_X12_areCounted 44 rfl) ic_0 ?_
      exact qr_loc (q_leS (q_leS (q_leS (q_leN (q_leS q_le0))))) (w_X12_areCounted_82 n j r hj hr o K2 hK2 K45 hK45 a1 a2 a4 a3 (0 : Int32) M)
    · refine qr_aload_n o (q_dm dm_X12_areCounted 36 rfl) rfl ?_
      refine qr_getr (kf := 47) o cf_X12 (sh77 j r) rfl (Nat.le_of_ble_eq_true rfl) fl_X12_89 (q_dm dm_X12_areCounted 37 rfl) ?_
      refine qr_aload_n o (q_dm dm_X12_areCounted 38 rfl) rfl ?_
      refine qr_getr (kf := 51) o cf_X12 (sh77 j r) rfl (Nat.le_of_ble_eq_true rfl) fl_X12_101 (q_dm dm_X12_areCounted 39 rfl) ?_
      refine qr_iload o (q_dm dm_X12_areCounted 40 rfl) rfl ?_
      refine qr_iald o (sh108 j r) (q_dm dm_X12_areCounted 41 rfl) ?_
      refine qr_iald o (sh104 j r) (q_dm dm_X12_areCounted 42 rfl) ?_
      refine qr_goto (tgt := 82) o (q_dm dm_X12_areCounted 43 rfl) (by decide) ?_
      exact qr_loc (q_leS (q_leS (q_leS (q_leN (q_leS q_le0))))) (w_X12_areCounted_82 n j r hj hr o K2 hK2 K45 hK45 a1 a2 a4 a3 (M 104 (M 108 a4.toNatClampNeg).toNatClampNeg) M)

def f_X12_areCounted_45 (n : Nat) (K2 : Int32 → Int32 → qM → qR) : Nat → Int32 → Int32 → Int32 → Int32 → qM → qR
  | 0, _, _, _, _, _ => none
  | m + 1, a1, a2, a3, a4, M => b_X12_areCounted_45 n K2 (f_X12_areCounted_45 n K2 m) a1 a2 a3 a4 M
theorem w_X12_areCounted_45 {g : qG} {k : qK} (n : Nat) (j r : Nat) (hj : q_isLaw j) (hr : q_isLaw r) (o : qOk g 1 zX12_areCounted k) (K2 : Int32 → Int32 → qM → qR) (hK2 : ∀ (a1 a2 : Int32) (M : qM), qAE g k zX12_areCounted (qL j r) 2 [some (.inr (some 77)), some (.inl a1), some (.inl a2), none, none] [] (qL j r, M) (K2 a1 a2 M)) : ∀ (m : Nat) (a1 a2 a3 a4 : Int32) (M : qM), qAE g k zX12_areCounted (qL j r) 45 [some (.inr (some 77)), some (.inl a1), some (.inl a2), some (.inl a3), some (.inl a4)] [] (qL j r, M) (f_X12_areCounted_45 n K2 m a1 a2 a3 a4 M) := by
  intro m
  induction m with
  | zero =>
    intro a1 a2 a3 a4 M
    exact qr_none
  | succ m ih =>
    intro a1 a2 a3 a4 M
    exact wb_X12_areCounted_45 n j r hj hr o K2 hK2 (f_X12_areCounted_45 n K2 m) ih a1 a2 a3 a4 M
def b_X12_areCounted_2 (n : Nat) (K2 : Int32 → Int32 → qM → qR) (a1 a2 : Int32) (M : qM) : qR :=
  (if (12 : Int32) ≤ a2 then some ((1 : Int32), M) else qg a1 13 (qc (f_X12_has0 n (M 83 a1.toNatClampNeg) a2 M) (fun r1 m2 => (if r1 = (0 : Int32) then ql (a2 + (1 : Int32)) (fun x6 => K2 a1 x6 m2) else qc (f_X12_at n (m2 77 44) a2 m2) (fun r3 m4 => qg ((192 : Int32) + r3) 954 (ql (m4 78 ((192 : Int32) + r3).toNatClampNeg) (fun x5 => f_X12_areCounted_45 n K2 n a1 a2 x5 (0 : Int32) m4)))))))
set_option maxRecDepth 4000 in
theorem wb_X12_areCounted_2 {g : qG} {k : qK} (n : Nat) (j r : Nat) (hj : q_isLaw j) (hr : q_isLaw r) (o : qOk g 1 zX12_areCounted k) (K2 : Int32 → Int32 → qM → qR) (hK2 : ∀ (a1 a2 : Int32) (M : qM), qAE g k zX12_areCounted (qL j r) 2 [some (.inr (some 77)), some (.inl a1), some (.inl a2), none, none] [] (qL j r, M) (K2 a1 a2 M)) (a1 a2 : Int32) (M : qM) : qAE g k zX12_areCounted (qL j r) 2 [some (.inr (some 77)), some (.inl a1), some (.inl a2), none, none] [] (qL j r, M) (b_X12_areCounted_2 n K2 a1 a2 M) := by
  unfold b_X12_areCounted_2
  refine qr_iload_n o (q_dm dm_X12_areCounted 2 rfl) rfl ?_
  refine qr_bipush o (q_dm dm_X12_areCounted 3 rfl) bi_12 ?_
  refine qr_icmp_ge (tgt := 102) o (q_dm dm_X12_areCounted 4 rfl) (by decide) ?_ ?_
  · refine qr_iconst o (q_dm dm_X12_areCounted 55 rfl) ic_1 ?_
    exact qr_iret o rfl (by decide) (q_dm dm_X12_areCounted 56 rfl)
  · refine qr_aload_n o (q_dm dm_X12_areCounted 5 rfl) rfl ?_
    refine qr_getr (kf := 5) o cf_X12 (sh77 j r) rfl (Nat.le_of_ble_eq_true rfl) fl_X12_25 (q_dm dm_X12_areCounted 6 rfl) ?_
    refine qr_iload_n o (q_dm dm_X12_areCounted 7 rfl) rfl ?_
    refine qr_iald o (sh83 j r) (q_dm dm_X12_areCounted 8 rfl) ?_
    refine qr_iload_n o (q_dm dm_X12_areCounted 9 rfl) rfl ?_
    refine qr_calls_i (As := [.inl (M 83 a1.toNatClampNeg), .inl a2]) (S := []) o (a_X12_has0 g k.2.1 n j r hj hr (M 83 a1.toNatClampNeg) a2 M) (Nat.le_of_ble_eq_true rfl) zs_X12_has0 rfl ml_X12_149 (Nat.le_of_ble_eq_true rfl) (q_dm dm_X12_areCounted 10 rfl) (fun r1 m2 => ?_)
    refine qr_if_ne (tgt := 24) o (q_dm dm_X12_areCounted 11 rfl) (by decide) ?_ ?_
    · refine qr_aload_n o (q_dm dm_X12_areCounted 13 rfl) rfl ?_
      refine qr_getr (kf := 0) o cf_X12 (sh77 j r) rfl (Nat.le_of_ble_eq_true rfl) fl_X12_7 (q_dm dm_X12_areCounted 14 rfl) ?_
      refine qr_sipush o (q_dm dm_X12_areCounted 15 rfl) si_192 ?_
      refine qr_aload_n o (q_dm dm_X12_areCounted 16 rfl) rfl ?_
      refine qr_getf (kf := 44) o cf_X12 (sh77 j r) rfl (Nat.le_of_ble_eq_true rfl) fl_X12_362 (q_dm dm_X12_areCounted 17 rfl) ?_
      refine qr_iload_n o (q_dm dm_X12_areCounted 18 rfl) rfl ?_
      refine qr_calls_i (As := [.inl (m2 77 44), .inl a2]) (S := [.inl (192 : Int32), .inr (some 78)]) o (a_X12_at g k.2.1 n j r hj hr (m2 77 44) a2 m2) (Nat.le_of_ble_eq_true rfl) zs_X12_at rfl ml_X12_282 (Nat.le_of_ble_eq_true rfl) (q_dm dm_X12_areCounted 19 rfl) (fun r3 m4 => ?_)
      refine qr_iadd o (q_dm dm_X12_areCounted 20 rfl) ?_
      refine qr_iald o (sh78 j r) (q_dm dm_X12_areCounted 21 rfl) ?_
      refine qr_lt (fun x5 => ?_)
      refine qs_istore_n (L' := [some (.inr (some 77)), some (.inl a1), some (.inl a2), some (.inl x5), none]) o (q_dm dm_X12_areCounted 22 rfl) (Nat.le_of_ble_eq_true rfl) rfl ?_
      refine qr_iconst o (q_dm dm_X12_areCounted 23 rfl) ic_0 ?_
      refine qs_istore (L' := [some (.inr (some 77)), some (.inl a1), some (.inl a2), some (.inl x5), some (.inl (0 : Int32))]) o (q_dm dm_X12_areCounted 24 rfl) (Nat.le_of_ble_eq_true rfl) rfl ?_
      exact qr_loc (q_leS (q_leS (q_leS (q_leS (q_leS q_le0))))) (w_X12_areCounted_45 n j r hj hr o K2 hK2 n a1 a2 x5 (0 : Int32) m4)
    · refine qr_goto (tgt := 96) o (q_dm dm_X12_areCounted 12 rfl) (by decide) ?_
      refine qs_iincl2 (L' := fun x6 => [some (.inr (some 77)), some (.inl a1), some (.inl x6), none, none]) o (q_dm dm_X12_areCounted 53 rfl) rfl ic_1 (Nat.le_of_ble_eq_true rfl) (fun _ => rfl) (fun x6 => ?_)
      refine qr_goto (tgt := 2) o (q_dm dm_X12_areCounted 54 rfl) (by decide) ?_
      exact qr_loc (q_leS (q_leS (q_leS (q_leN (q_leN q_le0))))) (hK2 a1 x6 m2)

def f_X12_areCounted_2 (n : Nat) : Nat → Int32 → Int32 → qM → qR
  | 0, _, _, _ => none
  | m + 1, a1, a2, M => b_X12_areCounted_2 n (f_X12_areCounted_2 n m) a1 a2 M
theorem w_X12_areCounted_2 {g : qG} {k : qK} (n : Nat) (j r : Nat) (hj : q_isLaw j) (hr : q_isLaw r) (o : qOk g 1 zX12_areCounted k) : ∀ (m : Nat) (a1 a2 : Int32) (M : qM), qAE g k zX12_areCounted (qL j r) 2 [some (.inr (some 77)), some (.inl a1), some (.inl a2), none, none] [] (qL j r, M) (f_X12_areCounted_2 n m a1 a2 M) := by
  intro m
  induction m with
  | zero =>
    intro a1 a2 M
    exact qr_none
  | succ m ih =>
    intro a1 a2 M
    exact wb_X12_areCounted_2 n j r hj hr o (f_X12_areCounted_2 n m) ih a1 a2 M
def f_X12_areCounted (n : Nat) (a1 : Int32) (M : qM) : qR :=
  f_X12_areCounted_2 n n a1 (0 : Int32) M
set_option maxRecDepth 4000 in
theorem w_X12_areCounted {g : qG} {k : qK} (n : Nat) (j r : Nat) (hj : q_isLaw j) (hr : q_isLaw r) (o : qOk g 1 zX12_areCounted k) (a1 : Int32) (M : qM) : qAE g k zX12_areCounted (qL j r) 0 [some (.inr (some 77)), some (.inl a1), none, none, none] [] (qL j r, M) (f_X12_areCounted n a1 M) := by
  unfold f_X12_areCounted
  refine qr_iconst o (q_dm dm_X12_areCounted 0 rfl) ic_0 ?_
  refine qs_istore_n (L' := [some (.inr (some 77)), some (.inl a1), some (.inl (0 : Int32)), none, none]) o (q_dm dm_X12_areCounted 1 rfl) (Nat.le_of_ble_eq_true rfl) rfl ?_
  exact qr_loc (q_leS (q_leS (q_leS (q_leN (q_leN q_le0))))) (w_X12_areCounted_2 n j r hj hr o n a1 (0 : Int32) M)

theorem a_X12_areCounted (g : qG) (l : Launch) (n : Nat) (j r : Nat) (hj : q_isLaw j) (hr : q_isLaw r) (a1 : Int32) (M : qM) : qAM g l 1 zX12_areCounted (qL j r) [.inr (some 77), .inl a1] (qL j r, M) (f_X12_areCounted n a1 M) :=
  qAM.of zv_X12_areCounted.1 (by show 2 ≤ 5; decide) (fun k hk o => w_X12_areCounted n j r hj hr o a1 M)
def tb_X12_isPerson : List (Nat × Instr × Nat) := [(0, (.iload_n 1, 1)), (1, (.ifCond .lt 28, 3)), (4, (.iload_n 1, 1)), (5, (.bipush 8, 2)), (7, (.if_icmp .ge 22, 3)), (10, (.aload_n 0, 1)), (11, (.getfield 7, 3)), (14, (.sipush 312, 3)), (17, (.iaload, 1)), (18, (.iload_n 1, 1)), (19, (.invokestatic 149, 3)), (22, (.ifCond .eq 7, 3)), (25, (.iconst 1, 1)), (26, (.goto 4, 3)), (29, (.iconst 0, 1)), (30, (.ireturn, 1))]
theorem dm_X12_isPerson : ∀ q ∈ tb_X12_isPerson, decode zX12_isPerson.2.1 q.1 = .ok q.2 := by decide +kernel
def f_X12_isPerson (n : Nat) (a1 : Int32) (M : qM) : qR :=
  (if a1 < (0 : Int32) then some ((0 : Int32), M) else (if (8 : Int32) ≤ a1 then some ((0 : Int32), M) else qc (f_X12_has0 n (M 78 312) a1 M) (fun r1 m2 => (if r1 = (0 : Int32) then some ((0 : Int32), m2) else some ((1 : Int32), m2)))))
set_option maxRecDepth 4000 in
theorem w_X12_isPerson {g : qG} {k : qK} (n : Nat) (j r : Nat) (hj : q_isLaw j) (hr : q_isLaw r) (o : qOk g 1 zX12_isPerson k) (a1 : Int32) (M : qM) : qAE g k zX12_isPerson (qL j r) 0 [some (.inr (some 77)), some (.inl a1)] [] (qL j r, M) (f_X12_isPerson n a1 M) := by
  unfold f_X12_isPerson
  refine qr_iload_n o (q_dm dm_X12_isPerson 0 rfl) rfl ?_
  refine qr_if_lt (tgt := 29) o (q_dm dm_X12_isPerson 1 rfl) (by decide) ?_ ?_
  · refine qr_iconst o (q_dm dm_X12_isPerson 14 rfl) ic_0 ?_
    exact qr_iret o rfl (by decide) (q_dm dm_X12_isPerson 15 rfl)
  · refine qr_iload_n o (q_dm dm_X12_isPerson 2 rfl) rfl ?_
    refine qr_bipush o (q_dm dm_X12_isPerson 3 rfl) bi_8 ?_
    refine qr_icmp_ge (tgt := 29) o (q_dm dm_X12_isPerson 4 rfl) (by decide) ?_ ?_
    · refine qr_iconst o (q_dm dm_X12_isPerson 14 rfl) ic_0 ?_
      exact qr_iret o rfl (by decide) (q_dm dm_X12_isPerson 15 rfl)
    · refine qr_aload_n o (q_dm dm_X12_isPerson 5 rfl) rfl ?_
      refine qr_getr (kf := 0) o cf_X12 (sh77 j r) rfl (Nat.le_of_ble_eq_true rfl) fl_X12_7 (q_dm dm_X12_isPerson 6 rfl) ?_
      refine qr_sipush o (q_dm dm_X12_isPerson 7 rfl) si_312 ?_
      refine qr_iald0 (c := 312) o (sh78 j r) (by decide) (by decide) (q_dm dm_X12_isPerson 8 rfl) ?_
      refine qr_iload_n o (q_dm dm_X12_isPerson 9 rfl) rfl ?_
      refine qr_calls_i (As := [.inl (M 78 312), .inl a1]) (S := []) o (a_X12_has0 g k.2.1 n j r hj hr (M 78 312) a1 M) (Nat.le_of_ble_eq_true rfl) zs_X12_has0 rfl ml_X12_149 (Nat.le_of_ble_eq_true rfl) (q_dm dm_X12_isPerson 10 rfl) (fun r1 m2 => ?_)
      refine qr_if_eq (tgt := 29) o (q_dm dm_X12_isPerson 11 rfl) (by decide) ?_ ?_
      · refine qr_iconst o (q_dm dm_X12_isPerson 14 rfl) ic_0 ?_
        exact qr_iret o rfl (by decide) (q_dm dm_X12_isPerson 15 rfl)
      · refine qr_iconst o (q_dm dm_X12_isPerson 12 rfl) ic_1 ?_
        refine qr_goto (tgt := 30) o (q_dm dm_X12_isPerson 13 rfl) (by decide) ?_
        exact qr_iret o rfl (by decide) (q_dm dm_X12_isPerson 15 rfl)

theorem a_X12_isPerson (g : qG) (l : Launch) (n : Nat) (j r : Nat) (hj : q_isLaw j) (hr : q_isLaw r) (a1 : Int32) (M : qM) : qAM g l 1 zX12_isPerson (qL j r) [.inr (some 77), .inl a1] (qL j r, M) (f_X12_isPerson n a1 M) :=
  qAM.of zv_X12_isPerson.1 (by show 2 ≤ 2; decide) (fun k hk o => w_X12_isPerson n j r hj hr o a1 M)
def tb_X12_areSome : List (Nat × Instr × Nat) := [(0, (.aload_n 0, 1)), (1, (.iload_n 1, 1)), (2, (.invokevirtual 310, 3)), (5, (.ifCond .eq 46, 3)), (8, (.iload_n 2, 1)), (9, (.ifCond .le 42, 3)), (12, (.iload_n 2, 1)), (13, (.aload_n 0, 1)), (14, (.getfield 145, 3)), (17, (.iconst (-1), 1)), (18, (.ixor, 1)), (19, (.iand, 1)), (20, (.ifCond .ne 31, 3)), (23, (.iload_n 2, 1)), (24, (.invokestatic 276, 3)), (27, (.iconst 4, 1)), (28, (.if_icmp .gt 23, 3)), (31, (.aload_n 0, 1)), (32, (.iload_n 3, 1)), (33, (.invokevirtual 157, 3)), (36, (.ifCond .eq 15, 3)), (39, (.iload_n 2, 1)), (40, (.iload_n 3, 1)), (41, (.invokestatic 149, 3)), (44, (.ifCond .eq 7, 3)), (47, (.iconst 1, 1)), (48, (.goto 4, 3)), (51, (.iconst 0, 1)), (52, (.ireturn, 1))]
theorem dm_X12_areSome : ∀ q ∈ tb_X12_areSome, decode zX12_areSome.2.1 q.1 = .ok q.2 := by decide +kernel
def f_X12_areSome (n : Nat) (a1 a2 a3 : Int32) (M : qM) : qR :=
  qc (f_X12_isPerson n a1 M) (fun r1 m2 => (if r1 = (0 : Int32) then some ((0 : Int32), m2) else (if a2 ≤ (0 : Int32) then some ((0 : Int32), m2) else (if (a2 &&& ((m2 77 6) ^^^ (-1 : Int32))) = (0 : Int32) then qc (f_X12_bits n a2 m2) (fun r3 m4 => (if (4 : Int32) < r3 then some ((0 : Int32), m4) else qc (f_X12_isKind n a3 m4) (fun r5 m6 => (if r5 = (0 : Int32) then some ((0 : Int32), m6) else qc (f_X12_has0 n a2 a3 m6) (fun r7 m8 => (if r7 = (0 : Int32) then some ((0 : Int32), m8) else some ((1 : Int32), m8))))))) else some ((0 : Int32), m2)))))
set_option maxRecDepth 4000 in
theorem w_X12_areSome {g : qG} {k : qK} (n : Nat) (j r : Nat) (hj : q_isLaw j) (hr : q_isLaw r) (o : qOk g 2 zX12_areSome k) (a1 a2 a3 : Int32) (M : qM) : qAE g k zX12_areSome (qL j r) 0 [some (.inr (some 77)), some (.inl a1), some (.inl a2), some (.inl a3)] [] (qL j r, M) (f_X12_areSome n a1 a2 a3 M) := by
  unfold f_X12_areSome
  refine qr_aload_n o (q_dm dm_X12_areSome 0 rfl) rfl ?_
  refine qr_iload_n o (q_dm dm_X12_areSome 1 rfl) rfl ?_
  refine qr_callv_i (As := [.inl a1]) (S := []) o (a_X12_isPerson g k.2.1 n j r hj hr a1 M) (Nat.le_of_ble_eq_true rfl) zv_X12_isPerson rfl cf_X12 (sh77 j r) ml_X12_310 (Nat.le_of_ble_eq_true rfl) (q_dm dm_X12_areSome 2 rfl) (fun r1 m2 => ?_)
  refine qr_if_eq (tgt := 51) o (q_dm dm_X12_areSome 3 rfl) (by decide) ?_ ?_
  · refine qr_iconst o (q_dm dm_X12_areSome 27 rfl) ic_0 ?_
    exact qr_iret o rfl (by decide) (q_dm dm_X12_areSome 28 rfl)
  · refine qr_iload_n o (q_dm dm_X12_areSome 4 rfl) rfl ?_
    refine qr_if_le (tgt := 51) o (q_dm dm_X12_areSome 5 rfl) (by decide) ?_ ?_
    · refine qr_iconst o (q_dm dm_X12_areSome 27 rfl) ic_0 ?_
      exact qr_iret o rfl (by decide) (q_dm dm_X12_areSome 28 rfl)
    · refine qr_iload_n o (q_dm dm_X12_areSome 6 rfl) rfl ?_
      refine qr_aload_n o (q_dm dm_X12_areSome 7 rfl) rfl ?_
      refine qr_getf (kf := 6) o cf_X12 (sh77 j r) rfl (Nat.le_of_ble_eq_true rfl) fl_X12_145 (q_dm dm_X12_areSome 8 rfl) ?_
      refine qr_iconst o (q_dm dm_X12_areSome 9 rfl) ic_m1 ?_
      refine qr_ixor o (q_dm dm_X12_areSome 10 rfl) ?_
      refine qr_iand o (q_dm dm_X12_areSome 11 rfl) ?_
      refine qr_if_ne (tgt := 51) o (q_dm dm_X12_areSome 12 rfl) (by decide) ?_ ?_
      · refine qr_iconst o (q_dm dm_X12_areSome 27 rfl) ic_0 ?_
        exact qr_iret o rfl (by decide) (q_dm dm_X12_areSome 28 rfl)
      · refine qr_iload_n o (q_dm dm_X12_areSome 13 rfl) rfl ?_
        refine qr_calls_i (As := [.inl a2]) (S := []) o (a_X12_bits g k.2.1 n j r hj hr a2 m2) (Nat.le_of_ble_eq_true rfl) zs_X12_bits rfl ml_X12_276 (Nat.le_of_ble_eq_true rfl) (q_dm dm_X12_areSome 14 rfl) (fun r3 m4 => ?_)
        refine qr_iconst o (q_dm dm_X12_areSome 15 rfl) ic_4 ?_
        refine qr_icmp_gt (tgt := 51) o (q_dm dm_X12_areSome 16 rfl) (by decide) ?_ ?_
        · refine qr_iconst o (q_dm dm_X12_areSome 27 rfl) ic_0 ?_
          exact qr_iret o rfl (by decide) (q_dm dm_X12_areSome 28 rfl)
        · refine qr_aload_n o (q_dm dm_X12_areSome 17 rfl) rfl ?_
          refine qr_iload_n o (q_dm dm_X12_areSome 18 rfl) rfl ?_
          refine qr_callv_i (As := [.inl a3]) (S := []) o (a_X12_isKind g k.2.1 n j r hj hr a3 m4) (Nat.le_of_ble_eq_true rfl) zv_X12_isKind rfl cf_X12 (sh77 j r) ml_X12_157 (Nat.le_of_ble_eq_true rfl) (q_dm dm_X12_areSome 19 rfl) (fun r5 m6 => ?_)
          refine qr_if_eq (tgt := 51) o (q_dm dm_X12_areSome 20 rfl) (by decide) ?_ ?_
          · refine qr_iconst o (q_dm dm_X12_areSome 27 rfl) ic_0 ?_
            exact qr_iret o rfl (by decide) (q_dm dm_X12_areSome 28 rfl)
          · refine qr_iload_n o (q_dm dm_X12_areSome 21 rfl) rfl ?_
            refine qr_iload_n o (q_dm dm_X12_areSome 22 rfl) rfl ?_
            refine qr_calls_i (As := [.inl a2, .inl a3]) (S := []) o (a_X12_has0 g k.2.1 n j r hj hr a2 a3 m6) (Nat.le_of_ble_eq_true rfl) zs_X12_has0 rfl ml_X12_149 (Nat.le_of_ble_eq_true rfl) (q_dm dm_X12_areSome 23 rfl) (fun r7 m8 => ?_)
            refine qr_if_eq (tgt := 51) o (q_dm dm_X12_areSome 24 rfl) (by decide) ?_ ?_
            · refine qr_iconst o (q_dm dm_X12_areSome 27 rfl) ic_0 ?_
              exact qr_iret o rfl (by decide) (q_dm dm_X12_areSome 28 rfl)
            · refine qr_iconst o (q_dm dm_X12_areSome 25 rfl) ic_1 ?_
              refine qr_goto (tgt := 52) o (q_dm dm_X12_areSome 26 rfl) (by decide) ?_
              exact qr_iret o rfl (by decide) (q_dm dm_X12_areSome 28 rfl)

theorem a_X12_areSome (g : qG) (l : Launch) (n : Nat) (j r : Nat) (hj : q_isLaw j) (hr : q_isLaw r) (a1 a2 a3 : Int32) (M : qM) : qAM g l 2 zX12_areSome (qL j r) [.inr (some 77), .inl a1, .inl a2, .inl a3] (qL j r, M) (f_X12_areSome n a1 a2 a3 M) :=
  qAM.of zv_X12_areSome.1 (by show 4 ≤ 4; decide) (fun k hk o => w_X12_areSome n j r hj hr o a1 a2 a3 M)
