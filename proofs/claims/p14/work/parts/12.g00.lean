def tb_J6_bitCount_0f7a4 : List (Nat × Instr × Nat) := [(0, (.iload_n 0, 1)), (1, (.iload_n 0, 1)), (2, (.iconst 1, 1)), (3, (.iushr, 1)), (4, (.ldc_w 265, 3)), (7, (.iand, 1)), (8, (.isub, 1)), (9, (.istore_n 0, 1)), (10, (.iload_n 0, 1)), (11, (.ldc_w 266, 3)), (14, (.iand, 1)), (15, (.iload_n 0, 1)), (16, (.iconst 2, 1)), (17, (.iushr, 1)), (18, (.ldc_w 266, 3)), (21, (.iand, 1)), (22, (.iadd, 1)), (23, (.istore_n 0, 1)), (24, (.iload_n 0, 1)), (25, (.iload_n 0, 1)), (26, (.iconst 4, 1)), (27, (.iushr, 1)), (28, (.iadd, 1)), (29, (.ldc_w 267, 3)), (32, (.iand, 1)), (33, (.istore_n 0, 1)), (34, (.iload_n 0, 1)), (35, (.iload_n 0, 1)), (36, (.bipush 8, 2)), (38, (.iushr, 1)), (39, (.iadd, 1)), (40, (.istore_n 0, 1)), (41, (.iload_n 0, 1)), (42, (.iload_n 0, 1)), (43, (.bipush 16, 2)), (45, (.iushr, 1)), (46, (.iadd, 1)), (47, (.istore_n 0, 1)), (48, (.iload_n 0, 1)), (49, (.bipush 63, 2)), (51, (.iand, 1)), (52, (.ireturn, 1))]
theorem dm_J6_bitCount_0f7a4 : ∀ q ∈ tb_J6_bitCount_0f7a4, decode zJ6_bitCount_0f7a4.2.1 q.1 = .ok q.2 := by decide +kernel
def f_J6_bitCount_0f7a4 (n : Nat) (a0 : Int32) (M : qM) : qR :=
  ql (a0 - ((a0.toUInt32 >>> ((1 : Int32).toUInt32 &&& Int32.toUInt32 31)).toInt32 &&& (1431655765 : Int32))) (fun x1 => ql ((x1 &&& (858993459 : Int32)) + ((x1.toUInt32 >>> ((2 : Int32).toUInt32 &&& Int32.toUInt32 31)).toInt32 &&& (858993459 : Int32))) (fun x2 => ql ((x2 + (x2.toUInt32 >>> ((4 : Int32).toUInt32 &&& Int32.toUInt32 31)).toInt32) &&& (252645135 : Int32)) (fun x3 => ql (x3 + (x3.toUInt32 >>> ((8 : Int32).toUInt32 &&& Int32.toUInt32 31)).toInt32) (fun x4 => ql (x4 + (x4.toUInt32 >>> ((16 : Int32).toUInt32 &&& Int32.toUInt32 31)).toInt32) (fun x5 => some ((x5 &&& (63 : Int32)), M))))))
set_option maxRecDepth 4000 in
theorem w_J6_bitCount_0f7a4 {g : qG} {k : qK} (n : Nat) (j r : Nat) (hj : q_isLaw j) (hr : q_isLaw r) (o : qOk g 0 zJ6_bitCount_0f7a4 k) (a0 : Int32) (M : qM) : qAE g k zJ6_bitCount_0f7a4 (qL j r) 0 [some (.inl a0)] [] (qL j r, M) (f_J6_bitCount_0f7a4 n a0 M) := by
  unfold f_J6_bitCount_0f7a4
  refine qr_iload_n o (q_dm dm_J6_bitCount_0f7a4 0 rfl) rfl ?_
  refine qr_iload_n o (q_dm dm_J6_bitCount_0f7a4 1 rfl) rfl ?_
  refine qr_iconst o (q_dm dm_J6_bitCount_0f7a4 2 rfl) ic_1 ?_
  refine qr_iushr o (q_dm dm_J6_bitCount_0f7a4 3 rfl) ?_
  refine qr_ldc_w o (q_dm dm_J6_bitCount_0f7a4 4 rfl) kc_J6_265 ?_
  refine qr_iand o (q_dm dm_J6_bitCount_0f7a4 5 rfl) ?_
  refine qr_isub o (q_dm dm_J6_bitCount_0f7a4 6 rfl) ?_
  refine qr_lt (fun x1 => ?_)
  refine qs_istore_n (L' := [some (.inl x1)]) o (q_dm dm_J6_bitCount_0f7a4 7 rfl) (Nat.le_of_ble_eq_true rfl) rfl ?_
  refine qr_iload_n o (q_dm dm_J6_bitCount_0f7a4 8 rfl) rfl ?_
  refine qr_ldc_w o (q_dm dm_J6_bitCount_0f7a4 9 rfl) kc_J6_266 ?_
  refine qr_iand o (q_dm dm_J6_bitCount_0f7a4 10 rfl) ?_
  refine qr_iload_n o (q_dm dm_J6_bitCount_0f7a4 11 rfl) rfl ?_
  refine qr_iconst o (q_dm dm_J6_bitCount_0f7a4 12 rfl) ic_2 ?_
  refine qr_iushr o (q_dm dm_J6_bitCount_0f7a4 13 rfl) ?_
  refine qr_ldc_w o (q_dm dm_J6_bitCount_0f7a4 14 rfl) kc_J6_266 ?_
  refine qr_iand o (q_dm dm_J6_bitCount_0f7a4 15 rfl) ?_
  refine qr_iadd o (q_dm dm_J6_bitCount_0f7a4 16 rfl) ?_
  refine qr_lt (fun x2 => ?_)
  refine qs_istore_n (L' := [some (.inl x2)]) o (q_dm dm_J6_bitCount_0f7a4 17 rfl) (Nat.le_of_ble_eq_true rfl) rfl ?_
  refine qr_iload_n o (q_dm dm_J6_bitCount_0f7a4 18 rfl) rfl ?_
  refine qr_iload_n o (q_dm dm_J6_bitCount_0f7a4 19 rfl) rfl ?_
  refine qr_iconst o (q_dm dm_J6_bitCount_0f7a4 20 rfl) ic_4 ?_
  refine qr_iushr o (q_dm dm_J6_bitCount_0f7a4 21 rfl) ?_
  refine qr_iadd o (q_dm dm_J6_bitCount_0f7a4 22 rfl) ?_
  refine qr_ldc_w o (q_dm dm_J6_bitCount_0f7a4 23 rfl) kc_J6_267 ?_
  refine qr_iand o (q_dm dm_J6_bitCount_0f7a4 24 rfl) ?_
  refine qr_lt (fun x3 => ?_)
  refine qs_istore_n (L' := [some (.inl x3)]) o (q_dm dm_J6_bitCount_0f7a4 25 rfl) (Nat.le_of_ble_eq_true rfl) rfl ?_
  refine qr_iload_n o (q_dm dm_J6_bitCount_0f7a4 26 rfl) rfl ?_
  refine qr_iload_n o (q_dm dm_J6_bitCount_0f7a4 27 rfl) rfl ?_
  refine qr_bipush o (q_dm dm_J6_bitCount_0f7a4 28 rfl) bi_8 ?_
  refine qr_iushr o (q_dm dm_J6_bitCount_0f7a4 29 rfl) ?_
  refine qr_iadd o (q_dm dm_J6_bitCount_0f7a4 30 rfl) ?_
  refine qr_lt (fun x4 => ?_)
  refine qs_istore_n (L' := [some (.inl x4)]) o (q_dm dm_J6_bitCount_0f7a4 31 rfl) (Nat.le_of_ble_eq_true rfl) rfl ?_
  refine qr_iload_n o (q_dm dm_J6_bitCount_0f7a4 32 rfl) rfl ?_
  refine qr_iload_n o (q_dm dm_J6_bitCount_0f7a4 33 rfl) rfl ?_
  refine qr_bipush o (q_dm dm_J6_bitCount_0f7a4 34 rfl) bi_16 ?_
  refine qr_iushr o (q_dm dm_J6_bitCount_0f7a4 35 rfl) ?_
  refine qr_iadd o (q_dm dm_J6_bitCount_0f7a4 36 rfl) ?_
  refine qr_lt (fun x5 => ?_)
  refine qs_istore_n (L' := [some (.inl x5)]) o (q_dm dm_J6_bitCount_0f7a4 37 rfl) (Nat.le_of_ble_eq_true rfl) rfl ?_
  refine qr_iload_n o (q_dm dm_J6_bitCount_0f7a4 38 rfl) rfl ?_
  refine qr_bipush o (q_dm dm_J6_bitCount_0f7a4 39 rfl) bi_63 ?_
  refine qr_iand o (q_dm dm_J6_bitCount_0f7a4 40 rfl) ?_
  exact qr_iret o rfl rfl (q_dm dm_J6_bitCount_0f7a4 41 rfl)

theorem a_J6_bitCount_0f7a4 (g : qG) (l : Launch) (n : Nat) (j r : Nat) (hj : q_isLaw j) (hr : q_isLaw r) (a0 : Int32) (M : qM) : qAM g l 0 zJ6_bitCount_0f7a4 (qL j r) [.inl a0] (qL j r, M) (f_J6_bitCount_0f7a4 n a0 M) :=
  qAM.of zs_J6_bitCount_0f7a4.1 (by show 1 ≤ 1; decide) (fun k hk o => w_J6_bitCount_0f7a4 n j r hj hr o a0 M)
def tb_J7_fill_53178 : List (Nat × Instr × Nat) := [(0, (.iconst 0, 1)), (1, (.istore_n 2, 1)), (2, (.aload_n 0, 1)), (3, (.arraylength, 1)), (4, (.istore_n 3, 1)), (5, (.iload_n 2, 1)), (6, (.iload_n 3, 1)), (7, (.if_icmp .ge 13, 3)), (10, (.aload_n 0, 1)), (11, (.iload_n 2, 1)), (12, (.iload_n 1, 1)), (13, (.iastore, 1)), (14, (.iinc 2 1, 3)), (17, (.goto (-12), 3)), (20, (.return_, 1))]
theorem dm_J7_fill_53178 : ∀ q ∈ tb_J7_fill_53178, decode zJ7_fill_53178.2.1 q.1 = .ok q.2 := by decide +kernel
def b_J7_fill_53178_5 (n : Nat) (c1 len : Nat) (K5 : Int32 → Int32 → Int32 → qM → qR) (a1 a2 a3 : Int32) (M : qM) : qR :=
  (if a3 ≤ a2 then some (0, M) else qg a2 len (qlm (mu M c1 a2.toNatClampNeg a1) (fun m1 => ql (a2 + (1 : Int32)) (fun x2 => K5 a1 x2 a3 m1))))
set_option maxRecDepth 4000 in
theorem wb_J7_fill_53178_5 {g : qG} {k : qK} (n : Nat) (j r : Nat) (hj : q_isLaw j) (hr : q_isLaw r) {c1 : Nat} {len : Nat} (hc1 : (qL j r)[c1]? = some (.inl (0, len))) (o : qOk g 0 zJ7_fill_53178 k) (K5 : Int32 → Int32 → Int32 → qM → qR) (hK5 : ∀ (a1 a2 a3 : Int32) (M : qM), qAE g k zJ7_fill_53178 (qL j r) 5 [some (.inr (some c1)), some (.inl a1), some (.inl a2), some (.inl a3)] [] (qL j r, M) (K5 a1 a2 a3 M)) (a1 a2 a3 : Int32) (M : qM) : qAE g k zJ7_fill_53178 (qL j r) 5 [some (.inr (some c1)), some (.inl a1), some (.inl a2), some (.inl a3)] [] (qL j r, M) (b_J7_fill_53178_5 n c1 len K5 a1 a2 a3 M) := by
  unfold b_J7_fill_53178_5
  refine qr_iload_n o (q_dm dm_J7_fill_53178 5 rfl) rfl ?_
  refine qr_iload_n o (q_dm dm_J7_fill_53178 6 rfl) rfl ?_
  refine qr_icmp_ge (tgt := 20) o (q_dm dm_J7_fill_53178 7 rfl) (by decide) ?_ ?_
  · exact qr_vret o rfl (q_dm dm_J7_fill_53178 14 rfl)
  · refine qr_aload_n o (q_dm dm_J7_fill_53178 8 rfl) rfl ?_
    refine qr_iload_n o (q_dm dm_J7_fill_53178 9 rfl) rfl ?_
    refine qr_iload_n o (q_dm dm_J7_fill_53178 10 rfl) rfl ?_
    refine qr_iast o hc1 (q_dm dm_J7_fill_53178 11 rfl) ?_
    refine qr_letm (fun m1 => ?_)
    refine qs_iincl2 (L' := fun x2 => [some (.inr (some c1)), some (.inl a1), some (.inl x2), some (.inl a3)]) o (q_dm dm_J7_fill_53178 12 rfl) rfl ic_1 (Nat.le_of_ble_eq_true rfl) (fun _ => rfl) (fun x2 => ?_)
    refine qr_goto (tgt := 5) o (q_dm dm_J7_fill_53178 13 rfl) (by decide) ?_
    exact qr_loc (q_leS (q_leS (q_leS (q_leS q_le0)))) (hK5 a1 x2 a3 m1)

def f_J7_fill_53178_5 (n : Nat) (c1 len : Nat) : Nat → Int32 → Int32 → Int32 → qM → qR
  | 0, _, _, _, _ => none
  | m + 1, a1, a2, a3, M => b_J7_fill_53178_5 n c1 len (f_J7_fill_53178_5 n c1 len m) a1 a2 a3 M
theorem w_J7_fill_53178_5 {g : qG} {k : qK} (n : Nat) (j r : Nat) (hj : q_isLaw j) (hr : q_isLaw r) {c1 : Nat} {len : Nat} (hc1 : (qL j r)[c1]? = some (.inl (0, len))) (o : qOk g 0 zJ7_fill_53178 k) : ∀ (m : Nat) (a1 a2 a3 : Int32) (M : qM), qAE g k zJ7_fill_53178 (qL j r) 5 [some (.inr (some c1)), some (.inl a1), some (.inl a2), some (.inl a3)] [] (qL j r, M) (f_J7_fill_53178_5 n c1 len m a1 a2 a3 M) := by
  intro m
  induction m with
  | zero =>
    intro a1 a2 a3 M
    exact qr_none
  | succ m ih =>
    intro a1 a2 a3 M
    exact wb_J7_fill_53178_5 n j r hj hr hc1 o (f_J7_fill_53178_5 n c1 len m) ih a1 a2 a3 M
def f_J7_fill_53178 (n : Nat) (c1 len : Nat) (a1 : Int32) (M : qM) : qR :=
  ql (Int32.ofNat len) (fun x1 => f_J7_fill_53178_5 n c1 len n a1 (0 : Int32) x1 M)
set_option maxRecDepth 4000 in
theorem w_J7_fill_53178 {g : qG} {k : qK} (n : Nat) (j r : Nat) (hj : q_isLaw j) (hr : q_isLaw r) {c1 : Nat} {len : Nat} (hc1 : (qL j r)[c1]? = some (.inl (0, len))) (o : qOk g 0 zJ7_fill_53178 k) (a1 : Int32) (M : qM) : qAE g k zJ7_fill_53178 (qL j r) 0 [some (.inr (some c1)), some (.inl a1), none, none] [] (qL j r, M) (f_J7_fill_53178 n c1 len a1 M) := by
  unfold f_J7_fill_53178
  refine qr_iconst o (q_dm dm_J7_fill_53178 0 rfl) ic_0 ?_
  refine qs_istore_n (L' := [some (.inr (some c1)), some (.inl a1), some (.inl (0 : Int32)), none]) o (q_dm dm_J7_fill_53178 1 rfl) (Nat.le_of_ble_eq_true rfl) rfl ?_
  refine qr_aload_n o (q_dm dm_J7_fill_53178 2 rfl) rfl ?_
  refine qr_alen (v := (Int32.ofNat len)) o hc1 (by decide) rfl (q_dm dm_J7_fill_53178 3 rfl) ?_
  refine qr_lt (fun x1 => ?_)
  refine qs_istore_n (L' := [some (.inr (some c1)), some (.inl a1), some (.inl (0 : Int32)), some (.inl x1)]) o (q_dm dm_J7_fill_53178 4 rfl) (Nat.le_of_ble_eq_true rfl) rfl ?_
  exact qr_loc (q_leS (q_leS (q_leS (q_leS q_le0)))) (w_J7_fill_53178_5 n j r hj hr hc1 o n a1 (0 : Int32) x1 M)

theorem a_J7_fill_53178 (g : qG) (l : Launch) (n : Nat) (j r : Nat) (hj : q_isLaw j) (hr : q_isLaw r) {c1 : Nat} {len : Nat} (hc1 : (qL j r)[c1]? = some (.inl (0, len))) (a1 : Int32) (M : qM) : qAM g l 0 zJ7_fill_53178 (qL j r) [.inr (some c1), .inl a1] (qL j r, M) (f_J7_fill_53178 n c1 len a1 M) :=
  qAM.of zs_J7_fill_53178.1 (by show 2 ≤ 4; decide) (fun k hk o => w_J7_fill_53178 n j r hj hr hc1 o a1 M)
def tb_X10_triesByAll : List (Nat × Instr × Nat) := [(0, (.iconst 0, 1)), (1, (.istore_n 2, 1)), (2, (.iconst 0, 1)), (3, (.istore_n 3, 1)), (4, (.iload_n 3, 1)), (5, (.bipush 8, 2)), (7, (.if_icmp .ge 23, 3)), (10, (.iload_n 2, 1)), (11, (.aload_n 0, 1)), (12, (.getfield 15, 3)), (15, (.iload_n 3, 1)), (16, (.bipush 12, 2)), (18, (.imul, 1)), (19, (.iload_n 1, 1)), (20, (.iadd, 1)), (21, (.iaload, 1)), (22, (.iadd, 1)), (23, (.istore_n 2, 1)), (24, (.iinc 3 1, 3)), (27, (.goto (-23), 3)), (30, (.iload_n 2, 1)), (31, (.ireturn, 1))]
theorem dm_X10_triesByAll : ∀ q ∈ tb_X10_triesByAll, decode zX10_triesByAll.2.1 q.1 = .ok q.2 := by decide +kernel
def b_X10_triesByAll_4 (n : Nat) (t : Nat) (K4 : Int32 → Int32 → Int32 → qM → qR) (a1 a2 a3 : Int32) (M : qM) : qR :=
  (if (8 : Int32) ≤ a3 then some (a2, M) else qg ((a3 * (12 : Int32)) + a1) 96 (ql (a2 + (M (t + 2) ((a3 * (12 : Int32)) + a1).toNatClampNeg)) (fun x1 => ql (a3 + (1 : Int32)) (fun x2 => K4 a1 x1 x2 M))))
set_option maxRecDepth 4000 in
theorem wb_X10_triesByAll_4 {g : qG} {k : qK} (n : Nat) (j r : Nat) (hj : q_isLaw j) (hr : q_isLaw r) {t : Nat} (ht : q_isTown t) (o : qOk g 0 zX10_triesByAll k) (K4 : Int32 → Int32 → Int32 → qM → qR) (hK4 : ∀ (a1 a2 a3 : Int32) (M : qM), qAE g k zX10_triesByAll (qL j r) 4 [some (.inr (some t)), some (.inl a1), some (.inl a2), some (.inl a3)] [] (qL j r, M) (K4 a1 a2 a3 M)) (a1 a2 a3 : Int32) (M : qM) : qAE g k zX10_triesByAll (qL j r) 4 [some (.inr (some t)), some (.inl a1), some (.inl a2), some (.inl a3)] [] (qL j r, M) (b_X10_triesByAll_4 n t K4 a1 a2 a3 M) := by
  unfold b_X10_triesByAll_4
  refine qr_iload_n o (q_dm dm_X10_triesByAll 4 rfl) rfl ?_
  refine qr_bipush o (q_dm dm_X10_triesByAll 5 rfl) bi_8 ?_
  refine qr_icmp_ge (tgt := 30) o (q_dm dm_X10_triesByAll 6 rfl) (by decide) ?_ ?_
  · refine qr_iload_n o (q_dm dm_X10_triesByAll 20 rfl) rfl ?_
    exact qr_iret o rfl rfl (q_dm dm_X10_triesByAll 21 rfl)
  · refine qr_iload_n o (q_dm dm_X10_triesByAll 7 rfl) rfl ?_
    refine qr_aload_n o (q_dm dm_X10_triesByAll 8 rfl) rfl ?_
    refine qr_getr (kf := 1) o cf_X10 (shT0 j r ht) rfl (Nat.le_of_ble_eq_true rfl) fl_X10_15 (q_dm dm_X10_triesByAll 9 rfl) ?_
    refine qr_iload_n o (q_dm dm_X10_triesByAll 10 rfl) rfl ?_
    refine qr_bipush o (q_dm dm_X10_triesByAll 11 rfl) bi_12 ?_
    refine qr_imul o (q_dm dm_X10_triesByAll 12 rfl) ?_
    refine qr_iload_n o (q_dm dm_X10_triesByAll 13 rfl) rfl ?_
    refine qr_iadd o (q_dm dm_X10_triesByAll 14 rfl) ?_
    refine qr_iald o (shT2 j r ht) (q_dm dm_X10_triesByAll 15 rfl) ?_
    refine qr_iadd o (q_dm dm_X10_triesByAll 16 rfl) ?_
    refine qr_lt (fun x1 => ?_)
    refine qs_istore_n (L' := [some (.inr (some t)), some (.inl a1), some (.inl x1), some (.inl a3)]) o (q_dm dm_X10_triesByAll 17 rfl) (Nat.le_of_ble_eq_true rfl) rfl ?_
    refine qs_iincl2 (L' := fun x2 => [some (.inr (some t)), some (.inl a1), some (.inl x1), some (.inl x2)]) o (q_dm dm_X10_triesByAll 18 rfl) rfl ic_1 (Nat.le_of_ble_eq_true rfl) (fun _ => rfl) (fun x2 => ?_)
    refine qr_goto (tgt := 4) o (q_dm dm_X10_triesByAll 19 rfl) (by decide) ?_
    exact qr_loc (q_leS (q_leS (q_leS (q_leS q_le0)))) (hK4 a1 x1 x2 M)

def f_X10_triesByAll_4 (n : Nat) (t : Nat) : Nat → Int32 → Int32 → Int32 → qM → qR
  | 0, _, _, _, _ => none
  | m + 1, a1, a2, a3, M => b_X10_triesByAll_4 n t (f_X10_triesByAll_4 n t m) a1 a2 a3 M
theorem w_X10_triesByAll_4 {g : qG} {k : qK} (n : Nat) (j r : Nat) (hj : q_isLaw j) (hr : q_isLaw r) {t : Nat} (ht : q_isTown t) (o : qOk g 0 zX10_triesByAll k) : ∀ (m : Nat) (a1 a2 a3 : Int32) (M : qM), qAE g k zX10_triesByAll (qL j r) 4 [some (.inr (some t)), some (.inl a1), some (.inl a2), some (.inl a3)] [] (qL j r, M) (f_X10_triesByAll_4 n t m a1 a2 a3 M) := by
  intro m
  induction m with
  | zero =>
    intro a1 a2 a3 M
    exact qr_none
  | succ m ih =>
    intro a1 a2 a3 M
    exact wb_X10_triesByAll_4 n j r hj hr ht o (f_X10_triesByAll_4 n t m) ih a1 a2 a3 M
def f_X10_triesByAll (n : Nat) (t : Nat) (a1 : Int32) (M : qM) : qR :=
  f_X10_triesByAll_4 n t n a1 (0 : Int32) (0 : Int32) M
set_option maxRecDepth 4000 in
theorem w_X10_triesByAll {g : qG} {k : qK} (n : Nat) (j r : Nat) (hj : q_isLaw j) (hr : q_isLaw r) {t : Nat} (ht : q_isTown t) (o : qOk g 0 zX10_triesByAll k) (a1 : Int32) (M : qM) : qAE g k zX10_triesByAll (qL j r) 0 [some (.inr (some t)), some (.inl a1), none, none] [] (qL j r, M) (f_X10_triesByAll n t a1 M) := by
  unfold f_X10_triesByAll
  refine qr_iconst o (q_dm dm_X10_triesByAll 0 rfl) ic_0 ?_
  refine qs_istore_n (L' := [some (.inr (some t)), some (.inl a1), some (.inl (0 : Int32)), none]) o (q_dm dm_X10_triesByAll 1 rfl) (Nat.le_of_ble_eq_true rfl) rfl ?_
  refine qr_iconst o (q_dm dm_X10_triesByAll 2 rfl) ic_0 ?_
  refine qs_istore_n (L' := [some (.inr (some t)), some (.inl a1), some (.inl (0 : Int32)), some (.inl (0 : Int32))]) o (q_dm dm_X10_triesByAll 3 rfl) (Nat.le_of_ble_eq_true rfl) rfl ?_
  exact qr_loc (q_leS (q_leS (q_leS (q_leS q_le0)))) (w_X10_triesByAll_4 n j r hj hr ht o n a1 (0 : Int32) (0 : Int32) M)

theorem a_X10_triesByAll (g : qG) (l : Launch) (n : Nat) (j r : Nat) (hj : q_isLaw j) (hr : q_isLaw r) {t : Nat} (ht : q_isTown t) (a1 : Int32) (M : qM) : qAM g l 0 zX10_triesByAll (qL j r) [.inr (some t), .inl a1] (qL j r, M) (f_X10_triesByAll n t a1 M) :=
  qAM.of zv_X10_triesByAll.1 (by show 2 ≤ 4; decide) (fun k hk o => w_X10_triesByAll n j r hj hr ht o a1 M)
def tb_X1_tellDeed : List (Nat × Instr × Nat) := [(0, (.aload_n 0, 1)), (1, (.getfield 13, 3)), (4, (.iconst 0, 1)), (5, (.invokestatic 51, 3)), (8, (.aload_n 0, 1)), (9, (.getfield 13, 3)), (12, (.iconst 0, 1)), (13, (.iload_n 1, 1)), (14, (.iastore, 1)), (15, (.aload_n 0, 1)), (16, (.getfield 13, 3)), (19, (.iconst 1, 1)), (20, (.iload_n 2, 1)), (21, (.iastore, 1)), (22, (.aload_n 0, 1)), (23, (.getfield 13, 3)), (26, (.iconst 2, 1)), (27, (.iload_n 3, 1)), (28, (.iastore, 1)), (29, (.aload_n 0, 1)), (30, (.getfield 13, 3)), (33, (.bipush 6, 2)), (35, (.iload 4, 2)), (37, (.iastore, 1)), (38, (.return_, 1))]
theorem dm_X1_tellDeed : ∀ q ∈ tb_X1_tellDeed, decode zX1_tellDeed.2.1 q.1 = .ok q.2 := by decide +kernel
def f_X1_tellDeed (n : Nat) (a1 a2 a3 a4 : Int32) (M : qM) : qR :=
  qc (f_J7_fill_53178 n 35 12 (0 : Int32) M) (fun _ m1 => qlm (mu m1 35 0 a1) (fun m2 => qlm (mu m2 35 1 a2) (fun m3 => qlm (mu m3 35 2 a3) (fun m4 => qlm (mu m4 35 6 a4) (fun m5 => some (0, m5))))))
set_option maxRecDepth 4000 in
theorem w_X1_tellDeed {g : qG} {k : qK} (n : Nat) (j r : Nat) (hj : q_isLaw j) (hr : q_isLaw r) (o : qOk g 1 zX1_tellDeed k) (a1 a2 a3 a4 : Int32) (M : qM) : qAE g k zX1_tellDeed (qL j r) 0 [some (.inr (some 34)), some (.inl a1), some (.inl a2), some (.inl a3), some (.inl a4)] [] (qL j r, M) (f_X1_tellDeed n a1 a2 a3 a4 M) := by
  unfold f_X1_tellDeed
  refine qr_aload_n o (q_dm dm_X1_tellDeed 0 rfl) rfl ?_
  refine qr_getr (kf := 1) o cf_X1 (sh34 j r) rfl (Nat.le_of_ble_eq_true rfl) fl_X1_13 (q_dm dm_X1_tellDeed 1 rfl) ?_
  refine qr_iconst o (q_dm dm_X1_tellDeed 2 rfl) ic_0 ?_
  refine qr_calls_v (As := [.inr (some 35), .inl (0 : Int32)]) (S := []) o (a_J7_fill_53178 g k.2.1 n j r hj hr (sh35 j r) (0 : Int32) M) (Nat.le_of_ble_eq_true rfl) zs_J7_fill_53178 rfl ml_X1_51 (Nat.le_of_ble_eq_true rfl) (q_dm dm_X1_tellDeed 3 rfl) (fun _ m1 => ?_)
  refine qr_aload_n o (q_dm dm_X1_tellDeed 4 rfl) rfl ?_
  refine qr_getr (kf := 1) o cf_X1 (sh34 j r) rfl (Nat.le_of_ble_eq_true rfl) fl_X1_13 (q_dm dm_X1_tellDeed 5 rfl) ?_
  refine qr_iconst o (q_dm dm_X1_tellDeed 6 rfl) ic_0 ?_
  refine qr_iload_n o (q_dm dm_X1_tellDeed 7 rfl) rfl ?_
  refine qr_iast0 (c := 0) o (sh35 j r) (by decide) (by decide) (q_dm dm_X1_tellDeed 8 rfl) ?_
  refine qr_letm (fun m2 => ?_)
  refine qr_aload_n o (q_dm dm_X1_tellDeed 9 rfl) rfl ?_
  refine qr_getr (kf := 1) o cf_X1 (sh34 j r) rfl (Nat.le_of_ble_eq_true rfl) fl_X1_13 (q_dm dm_X1_tellDeed 10 rfl) ?_
  refine qr_iconst o (q_dm dm_X1_tellDeed 11 rfl) ic_1 ?_
  refine qr_iload_n o (q_dm dm_X1_tellDeed 12 rfl) rfl ?_
  refine qr_iast0 (c := 1) o (sh35 j r) (by decide) (by decide) (q_dm dm_X1_tellDeed 13 rfl) ?_
  refine qr_letm (fun m3 => ?_)
  refine qr_aload_n o (q_dm dm_X1_tellDeed 14 rfl) rfl ?_
  refine qr_getr (kf := 1) o cf_X1 (sh34 j r) rfl (Nat.le_of_ble_eq_true rfl) fl_X1_13 (q_dm dm_X1_tellDeed 15 rfl) ?_
  refine qr_iconst o (q_dm dm_X1_tellDeed 16 rfl) ic_2 ?_
  refine qr_iload_n o (q_dm dm_X1_tellDeed 17 rfl) rfl ?_
  refine qr_iast0 (c := 2) o (sh35 j r) (by decide) (by decide) (q_dm dm_X1_tellDeed 18 rfl) ?_
  refine qr_letm (fun m4 => ?_)
  refine qr_aload_n o (q_dm dm_X1_tellDeed 19 rfl) rfl ?_
  refine qr_getr (kf := 1) o cf_X1 (sh34 j r) rfl (Nat.le_of_ble_eq_true rfl) fl_X1_13 (q_dm dm_X1_tellDeed 20 rfl) ?_
  refine qr_bipush o (q_dm dm_X1_tellDeed 21 rfl) bi_6 ?_
  refine qr_iload o (q_dm dm_X1_tellDeed 22 rfl) rfl ?_
  refine qr_iast0 (c := 6) o (sh35 j r) (by decide) (by decide) (q_dm dm_X1_tellDeed 23 rfl) ?_
  refine qr_letm (fun m5 => ?_)
  exact qr_vret o rfl (q_dm dm_X1_tellDeed 24 rfl)

theorem a_X1_tellDeed (g : qG) (l : Launch) (n : Nat) (j r : Nat) (hj : q_isLaw j) (hr : q_isLaw r) (a1 a2 a3 a4 : Int32) (M : qM) : qAM g l 1 zX1_tellDeed (qL j r) [.inr (some 34), .inl a1, .inl a2, .inl a3, .inl a4] (qL j r, M) (f_X1_tellDeed n a1 a2 a3 a4 M) :=
  qAM.of zv_X1_tellDeed.1 (by show 5 ≤ 5; decide) (fun k hk o => w_X1_tellDeed n j r hj hr o a1 a2 a3 a4 M)
def tb_X1_tellTry : List (Nat × Instr × Nat) := [(0, (.aload_n 0, 1)), (1, (.getfield 13, 3)), (4, (.bipush 7, 2)), (6, (.iload_n 1, 1)), (7, (.iastore, 1)), (8, (.aload_n 0, 1)), (9, (.getfield 13, 3)), (12, (.bipush 8, 2)), (14, (.iload_n 2, 1)), (15, (.iastore, 1)), (16, (.aload_n 0, 1)), (17, (.getfield 13, 3)), (20, (.bipush 9, 2)), (22, (.iload_n 3, 1)), (23, (.iastore, 1)), (24, (.aload_n 0, 1)), (25, (.getfield 13, 3)), (28, (.bipush 10, 2)), (30, (.iload 4, 2)), (32, (.iastore, 1)), (33, (.aload_n 0, 1)), (34, (.getfield 13, 3)), (37, (.bipush 11, 2)), (39, (.iload 5, 2)), (41, (.iastore, 1)), (42, (.return_, 1))]
theorem dm_X1_tellTry : ∀ q ∈ tb_X1_tellTry, decode zX1_tellTry.2.1 q.1 = .ok q.2 := by decide +kernel
def f_X1_tellTry (n : Nat) (a1 a2 a3 a4 a5 : Int32) (M : qM) : qR :=
  qlm (mu M 35 7 a1) (fun m1 => qlm (mu m1 35 8 a2) (fun m2 => qlm (mu m2 35 9 a3) (fun m3 => qlm (mu m3 35 10 a4) (fun m4 => qlm (mu m4 35 11 a5) (fun m5 => some (0, m5))))))
set_option maxRecDepth 4000 in
theorem w_X1_tellTry {g : qG} {k : qK} (n : Nat) (j r : Nat) (hj : q_isLaw j) (hr : q_isLaw r) (o : qOk g 0 zX1_tellTry k) (a1 a2 a3 a4 a5 : Int32) (M : qM) : qAE g k zX1_tellTry (qL j r) 0 [some (.inr (some 34)), some (.inl a1), some (.inl a2), some (.inl a3), some (.inl a4), some (.inl a5)] [] (qL j r, M) (f_X1_tellTry n a1 a2 a3 a4 a5 M) := by
  unfold f_X1_tellTry
  refine qr_aload_n o (q_dm dm_X1_tellTry 0 rfl) rfl ?_
  refine qr_getr (kf := 1) o cf_X1 (sh34 j r) rfl (Nat.le_of_ble_eq_true rfl) fl_X1_13 (q_dm dm_X1_tellTry 1 rfl) ?_
  refine qr_bipush o (q_dm dm_X1_tellTry 2 rfl) bi_7 ?_
  refine qr_iload_n o (q_dm dm_X1_tellTry 3 rfl) rfl ?_
  refine qr_iast0 (c := 7) o (sh35 j r) (by decide) (by decide) (q_dm dm_X1_tellTry 4 rfl) ?_
  refine qr_letm (fun m1 => ?_)
  refine qr_aload_n o (q_dm dm_X1_tellTry 5 rfl) rfl ?_
  refine qr_getr (kf := 1) o cf_X1 (sh34 j r) rfl (Nat.le_of_ble_eq_true rfl) fl_X1_13 (q_dm dm_X1_tellTry 6 rfl) ?_
  refine qr_bipush o (q_dm dm_X1_tellTry 7 rfl) bi_8 ?_
  refine qr_iload_n o (q_dm dm_X1_tellTry 8 rfl) rfl ?_
  refine qr_iast0 (c := 8) o (sh35 j r) (by decide) (by decide) (q_dm dm_X1_tellTry 9 rfl) ?_
  refine qr_letm (fun m2 => ?_)
  refine qr_aload_n o (q_dm dm_X1_tellTry 10 rfl) rfl ?_
  refine qr_getr (kf := 1) o cf_X1 (sh34 j r) rfl (Nat.le_of_ble_eq_true rfl) fl_X1_13 (q_dm dm_X1_tellTry 11 rfl) ?_
  refine qr_bipush o (q_dm dm_X1_tellTry 12 rfl) bi_9 ?_
  refine qr_iload_n o (q_dm dm_X1_tellTry 13 rfl) rfl ?_
  refine qr_iast0 (c := 9) o (sh35 j r) (by decide) (by decide) (q_dm dm_X1_tellTry 14 rfl) ?_
  refine qr_letm (fun m3 => ?_)
  refine qr_aload_n o (q_dm dm_X1_tellTry 15 rfl) rfl ?_
  refine qr_getr (kf := 1) o cf_X1 (sh34 j r) rfl (Nat.le_of_ble_eq_true rfl) fl_X1_13 (q_dm dm_X1_tellTry 16 rfl) ?_
  refine qr_bipush o (q_dm dm_X1_tellTry 17 rfl) bi_10 ?_
  refine qr_iload o (q_dm dm_X1_tellTry 18 rfl) rfl ?_
  refine qr_iast0 (c := 10) o (sh35 j r) (by decide) (by decide) (q_dm dm_X1_tellTry 19 rfl) ?_
  refine qr_letm (fun m4 => ?_)
  refine qr_aload_n o (q_dm dm_X1_tellTry 20 rfl) rfl ?_
  refine qr_getr (kf := 1) o cf_X1 (sh34 j r) rfl (Nat.le_of_ble_eq_true rfl) fl_X1_13 (q_dm dm_X1_tellTry 21 rfl) ?_
  refine qr_bipush o (q_dm dm_X1_tellTry 22 rfl) bi_11 ?_
  refine qr_iload o (q_dm dm_X1_tellTry 23 rfl) rfl ?_
  refine qr_iast0 (c := 11) o (sh35 j r) (by decide) (by decide) (q_dm dm_X1_tellTry 24 rfl) ?_
  refine qr_letm (fun m5 => ?_)
  exact qr_vret o rfl (q_dm dm_X1_tellTry 25 rfl)

theorem a_X1_tellTry (g : qG) (l : Launch) (n : Nat) (j r : Nat) (hj : q_isLaw j) (hr : q_isLaw r) (a1 a2 a3 a4 a5 : Int32) (M : qM) : qAM g l 0 zX1_tellTry (qL j r) [.inr (some 34), .inl a1, .inl a2, .inl a3, .inl a4, .inl a5] (qL j r, M) (f_X1_tellTry n a1 a2 a3 a4 a5 M) :=
  qAM.of zv_X1_tellTry.1 (by show 6 ≤ 6; decide) (fun k hk o => w_X1_tellTry n j r hj hr o a1 a2 a3 a4 a5 M)
def tb_X0_tellAll : List (Nat × Instr × Nat) := [(0, (.iload_n 2, 1)), (1, (.bipush 12, 2)), (3, (.imul, 1)), (4, (.iload_n 3, 1)), (5, (.iadd, 1)), (6, (.istore 5, 2)), (8, (.aload_n 0, 1)), (9, (.getfield 15, 3)), (12, (.iload_n 3, 1)), (13, (.aload_n 0, 1)), (14, (.getfield 9, 3)), (17, (.getfield 128, 3)), (20, (.iload_n 3, 1)), (21, (.iaload, 1)), (22, (.aload_n 0, 1)), (23, (.getfield 9, 3)), (26, (.getfield 141, 3)), (29, (.iload_n 3, 1)), (30, (.iaload, 1)), (31, (.aload_n 1, 1)), (32, (.getfield 19, 3)), (35, (.invokevirtual 144, 3)), (38, (.aload_n 0, 1)), (39, (.getfield 15, 3)), (42, (.iload_n 2, 1)), (43, (.iload 4, 2)), (45, (.aload_n 1, 1)), (46, (.getfield 73, 3)), (49, (.iload 5, 2)), (51, (.iaload, 1)), (52, (.aload_n 1, 1)), (53, (.iload_n 3, 1)), (54, (.invokevirtual 147, 3)), (57, (.aload_n 1, 1)), (58, (.getfield 151, 3)), (61, (.iload 5, 2)), (63, (.iaload, 1)), (64, (.invokevirtual 154, 3)), (67, (.return_, 1))]
theorem dm_X0_tellAll : ∀ q ∈ tb_X0_tellAll, decode zX0_tellAll.2.1 q.1 = .ok q.2 := by decide +kernel
def f_X0_tellAll (n : Nat) (t : Nat) (a2 a3 a4 : Int32) (M : qM) : qR :=
  ql ((a2 * (12 : Int32)) + a3) (fun x1 => qg a3 12 (qg a3 12 (qc (f_X1_tellDeed n a3 (M 4 a3.toNatClampNeg) (M 5 a3.toNatClampNeg) (M t 9) M) (fun _ m2 => qg x1 96 (qc (f_X10_triesByAll n t a3 m2) (fun r3 m4 => qg x1 96 (qc (f_X1_tellTry n a2 a4 (m2 (t + 2) x1.toNatClampNeg) r3 (m4 (t + 4) x1.toNatClampNeg) m4) (fun _ m5 => some (0, m5)))))))))
set_option maxRecDepth 4000 in
theorem w_X0_tellAll {g : qG} {k : qK} (n : Nat) (j r : Nat) (hj : q_isLaw j) (hr : q_isLaw r) {t : Nat} (ht : q_isTown t) (o : qOk g 2 zX0_tellAll k) (a2 a3 a4 : Int32) (M : qM) : qAE g k zX0_tellAll (qL j r) 0 [some (.inr (some 44)), some (.inr (some t)), some (.inl a2), some (.inl a3), some (.inl a4), none] [] (qL j r, M) (f_X0_tellAll n t a2 a3 a4 M) := by
  unfold f_X0_tellAll
  refine qr_iload_n o (q_dm dm_X0_tellAll 0 rfl) rfl ?_
  refine qr_bipush o (q_dm dm_X0_tellAll 1 rfl) bi_12 ?_
  refine qr_imul o (q_dm dm_X0_tellAll 2 rfl) ?_
  refine qr_iload_n o (q_dm dm_X0_tellAll 3 rfl) rfl ?_
  refine qr_iadd o (q_dm dm_X0_tellAll 4 rfl) ?_
  refine qr_lt (fun x1 => ?_)
  refine qs_istore (L' := [some (.inr (some 44)), some (.inr (some t)), some (.inl a2), some (.inl a3), some (.inl a4), some (.inl x1)]) o (q_dm dm_X0_tellAll 5 rfl) (Nat.le_of_ble_eq_true rfl) rfl ?_
  refine qr_aload_n o (q_dm dm_X0_tellAll 6 rfl) rfl ?_
  refine qr_getr (kf := 1) o cf_X0 (sh44 j r) rfl (Nat.le_of_ble_eq_true rfl) fl_X0_15 (q_dm dm_X0_tellAll 7 rfl) ?_
  refine qr_iload_n o (q_dm dm_X0_tellAll 8 rfl) rfl ?_
  refine qr_aload_n o (q_dm dm_X0_tellAll 9 rfl) rfl ?_
  refine qr_getr (kf := 0) o cf_X0 (sh44 j r) rfl (Nat.le_of_ble_eq_true rfl) fl_X0_9 (q_dm dm_X0_tellAll 10 rfl) ?_
  refine qr_getr (kf := 0) o cf_X2 (sh3 j r) rfl (Nat.le_of_ble_eq_true rfl) fl_X0_128 (q_dm dm_X0_tellAll 11 rfl) ?_
  refine qr_iload_n o (q_dm dm_X0_tellAll 12 rfl) rfl ?_
  refine qr_iald o (sh4 j r) (q_dm dm_X0_tellAll 13 rfl) ?_
  refine qr_aload_n o (q_dm dm_X0_tellAll 14 rfl) rfl ?_
  refine qr_getr (kf := 0) o cf_X0 (sh44 j r) rfl (Nat.le_of_ble_eq_true rfl) fl_X0_9 (q_dm dm_X0_tellAll 15 rfl) ?_
  refine qr_getr (kf := 1) o cf_X2 (sh3 j r) rfl (Nat.le_of_ble_eq_true rfl) fl_X0_141 (q_dm dm_X0_tellAll 16 rfl) ?_
  refine qr_iload_n o (q_dm dm_X0_tellAll 17 rfl) rfl ?_
  refine qr_iald o (sh5 j r) (q_dm dm_X0_tellAll 18 rfl) ?_
  refine qr_aload_n o (q_dm dm_X0_tellAll 19 rfl) rfl ?_
  refine qr_getf (kf := 9) o cf_X10 (shT0 j r ht) rfl (Nat.le_of_ble_eq_true rfl) fl_X0_19 (q_dm dm_X0_tellAll 20 rfl) ?_
  refine qr_callv_v (As := [.inl a3, .inl (M 4 a3.toNatClampNeg), .inl (M 5 a3.toNatClampNeg), .inl (M t 9)]) (S := []) o (a_X1_tellDeed g k.2.1 n j r hj hr a3 (M 4 a3.toNatClampNeg) (M 5 a3.toNatClampNeg) (M t 9) M) (Nat.le_of_ble_eq_true rfl) zv_X1_tellDeed rfl cf_X1 (sh34 j r) ml_X0_144 (Nat.le_of_ble_eq_true rfl) (q_dm dm_X0_tellAll 21 rfl) (fun _ m2 => ?_)
  refine qr_aload_n o (q_dm dm_X0_tellAll 22 rfl) rfl ?_
  refine qr_getr (kf := 1) o cf_X0 (sh44 j r) rfl (Nat.le_of_ble_eq_true rfl) fl_X0_15 (q_dm dm_X0_tellAll 23 rfl) ?_
  refine qr_iload_n o (q_dm dm_X0_tellAll 24 rfl) rfl ?_
  refine qr_iload o (q_dm dm_X0_tellAll 25 rfl) rfl ?_
  refine qr_aload_n o (q_dm dm_X0_tellAll 26 rfl) rfl ?_
  refine qr_getr (kf := 1) o cf_X10 (shT0 j r ht) rfl (Nat.le_of_ble_eq_true rfl) fl_X0_73 (q_dm dm_X0_tellAll 27 rfl) ?_
  refine qr_iload o (q_dm dm_X0_tellAll 28 rfl) rfl ?_
  refine qr_iald o (shT2 j r ht) (q_dm dm_X0_tellAll 29 rfl) ?_
  refine qr_aload_n o (q_dm dm_X0_tellAll 30 rfl) rfl ?_
  refine qr_iload_n o (q_dm dm_X0_tellAll 31 rfl) rfl ?_
  refine qr_callv_i (As := [.inl a3]) (S := [.inl (m2 (t + 2) x1.toNatClampNeg), .inl a4, .inl a2, .inr (some 34)]) o (a_X10_triesByAll g k.2.1 n j r hj hr ht a3 m2) (Nat.le_of_ble_eq_true rfl) zv_X10_triesByAll rfl cf_X10 (shT0 j r ht) ml_X0_147 (Nat.le_of_ble_eq_true rfl) (q_dm dm_X0_tellAll 32 rfl) (fun r3 m4 => ?_)
  refine qr_aload_n o (q_dm dm_X0_tellAll 33 rfl) rfl ?_
  refine qr_getr (kf := 3) o cf_X10 (shT0 j r ht) rfl (Nat.le_of_ble_eq_true rfl) fl_X0_151 (q_dm dm_X0_tellAll 34 rfl) ?_
  refine qr_iload o (q_dm dm_X0_tellAll 35 rfl) rfl ?_
  refine qr_iald o (shT4 j r ht) (q_dm dm_X0_tellAll 36 rfl) ?_
  refine qr_callv_v (As := [.inl a2, .inl a4, .inl (m2 (t + 2) x1.toNatClampNeg), .inl r3, .inl (m4 (t + 4) x1.toNatClampNeg)]) (S := []) o (a_X1_tellTry g k.2.1 n j r hj hr a2 a4 (m2 (t + 2) x1.toNatClampNeg) r3 (m4 (t + 4) x1.toNatClampNeg) m4) (Nat.le_of_ble_eq_true rfl) zv_X1_tellTry rfl cf_X1 (sh34 j r) ml_X0_154 (Nat.le_of_ble_eq_true rfl) (q_dm dm_X0_tellAll 37 rfl) (fun _ m5 => ?_)
  exact qr_vret o rfl (q_dm dm_X0_tellAll 38 rfl)

theorem a_X0_tellAll (g : qG) (l : Launch) (n : Nat) (j r : Nat) (hj : q_isLaw j) (hr : q_isLaw r) {t : Nat} (ht : q_isTown t) (a2 a3 a4 : Int32) (M : qM) : qAM g l 2 zX0_tellAll (qL j r) [.inr (some 44), .inr (some t), .inl a2, .inl a3, .inl a4] (qL j r, M) (f_X0_tellAll n t a2 a3 a4 M) :=
  qAM.of zv_X0_tellAll.1 (by show 5 ≤ 6; decide) (fun k hk o => w_X0_tellAll n j r hj hr ht o a2 a3 a4 M)
def tb_X1_reckon : List (Nat × Instr × Nat) := [(0, (.iload_n 1, 1)), (1, (.lookupswitch 104 #[(42, 67), (43, 59), (45, 63), (60, 71), (61, 93), (62, 82)], 59)), (60, (.iload_n 2, 1)), (61, (.iload_n 3, 1)), (62, (.iadd, 1)), (63, (.ireturn, 1)), (64, (.iload_n 2, 1)), (65, (.iload_n 3, 1)), (66, (.isub, 1)), (67, (.ireturn, 1)), (68, (.iload_n 2, 1)), (69, (.iload_n 3, 1)), (70, (.imul, 1)), (71, (.ireturn, 1)), (72, (.iload_n 2, 1)), (73, (.iload_n 3, 1)), (74, (.if_icmp .ge 7, 3)), (77, (.iconst 1, 1)), (78, (.goto 4, 3)), (81, (.iconst 0, 1)), (82, (.ireturn, 1)), (83, (.iload_n 2, 1)), (84, (.iload_n 3, 1)), (85, (.if_icmp .le 7, 3)), (88, (.iconst 1, 1)), (89, (.goto 4, 3)), (92, (.iconst 0, 1)), (93, (.ireturn, 1)), (94, (.iload_n 2, 1)), (95, (.iload_n 3, 1)), (96, (.if_icmp .ne 7, 3)), (99, (.iconst 1, 1)), (100, (.goto 4, 3)), (103, (.iconst 0, 1)), (104, (.ireturn, 1)), (105, (.iload_n 3, 1)), (106, (.ifCond .ne 10, 3)), (109, (.aload_n 0, 1)), (110, (.iconst 1, 1)), (111, (.putfield 95, 3)), (114, (.iconst 0, 1)), (115, (.ireturn, 1)), (116, (.iload_n 1, 1)), (117, (.bipush 47, 2)), (119, (.if_icmp .ne 9, 3)), (122, (.iload_n 2, 1)), (123, (.iload_n 3, 1)), (124, (.idiv, 1)), (125, (.goto 6, 3)), (128, (.iload_n 2, 1)), (129, (.iload_n 3, 1)), (130, (.irem, 1)), (131, (.ireturn, 1))]
theorem dm_X1_reckon : ∀ q ∈ tb_X1_reckon, decode zX1_reckon.2.1 q.1 = .ok q.2 := by decide +kernel
def f_X1_reckon (n : Nat) (a1 a2 a3 : Int32) (M : qM) : qR :=
  qsw a1 [((42 : Int32), some ((a2 * a3), M)), ((43 : Int32), some ((a2 + a3), M)), ((45 : Int32), some ((a2 - a3), M)), ((60 : Int32), (if a3 ≤ a2 then some ((0 : Int32), M) else some ((1 : Int32), M))), ((61 : Int32), (if a2 = a3 then some ((1 : Int32), M) else some ((0 : Int32), M))), ((62 : Int32), (if a2 ≤ a3 then some ((0 : Int32), M) else some ((1 : Int32), M)))] ((if a3 = (0 : Int32) then qlm (mu M 34 4 (1 : Int32)) (fun m1 => some ((0 : Int32), m1)) else (if a1 = (47 : Int32) then qd a3 (some ((a2 / a3), M)) else qd a3 (some ((a2 - a2 / a3 * a3), M)))))
set_option maxRecDepth 4000 in
theorem w_X1_reckon {g : qG} {k : qK} (n : Nat) (j r : Nat) (hj : q_isLaw j) (hr : q_isLaw r) (o : qOk g 0 zX1_reckon k) (a1 a2 a3 : Int32) (M : qM) : qAE g k zX1_reckon (qL j r) 0 [some (.inr (some 34)), some (.inl a1), some (.inl a2), some (.inl a3)] [] (qL j r, M) (f_X1_reckon n a1 a2 a3 M) := by
  unfold f_X1_reckon
  refine qr_iload_n o (q_dm dm_X1_reckon 0 rfl) rfl ?_
  refine qr_lookupp (tgt := 105) o (q_dm dm_X1_reckon 1 rfl) (by decide) rfl (by decide) ?_ (q_lbc 68 (by decide) ?_ (q_lbc 60 (by decide) ?_ (q_lbc 64 (by decide) ?_ (q_lbc 72 (by decide) ?_ (q_lbc 94 (by decide) ?_ (q_lbc 83 (by decide) ?_ q_lbn))))))
  · refine qr_iload_n o (q_dm dm_X1_reckon 35 rfl) rfl ?_
    refine qr_if_ne (tgt := 116) o (q_dm dm_X1_reckon 36 rfl) (by decide) ?_ ?_
    · refine qr_iload_n o (q_dm dm_X1_reckon 42 rfl) rfl ?_
      refine qr_bipush o (q_dm dm_X1_reckon 43 rfl) bi_47 ?_
      refine qr_icmp_ne (tgt := 128) o (q_dm dm_X1_reckon 44 rfl) (by decide) ?_ ?_
      · refine qr_iload_n o (q_dm dm_X1_reckon 49 rfl) rfl ?_
        refine qr_iload_n o (q_dm dm_X1_reckon 50 rfl) rfl ?_
        refine qr_irem o (q_dm dm_X1_reckon 51 rfl) ?_
        exact qr_iret o rfl rfl (q_dm dm_X1_reckon 52 rfl)
      · refine qr_iload_n o (q_dm dm_X1_reckon 45 rfl) rfl ?_
        refine qr_iload_n o (q_dm dm_X1_reckon 46 rfl) rfl ?_
        refine qr_idiv o (q_dm dm_X1_reckon 47 rfl) ?_
        refine qr_goto (tgt := 131) o (q_dm dm_X1_reckon 48 rfl) (by decide) ?_
        exact qr_iret o rfl rfl (q_dm dm_X1_reckon 52 rfl)
    · refine qr_aload_n o (q_dm dm_X1_reckon 37 rfl) rfl ?_
      refine qr_iconst o (q_dm dm_X1_reckon 38 rfl) ic_1 ?_
      refine qr_putz (kf := 4) o cf_X1 (sh34 j r) rfl (Nat.le_of_ble_eq_true rfl) fl_X1_95 rfl (by decide +kernel) (by decide) (q_dm dm_X1_reckon 39 rfl) ?_
      refine qr_letm (fun m1 => ?_)
      refine qr_iconst o (q_dm dm_X1_reckon 40 rfl) ic_0 ?_
      exact qr_iret o rfl rfl (q_dm dm_X1_reckon 41 rfl)
  · refine qr_iload_n o (q_dm dm_X1_reckon 10 rfl) rfl ?_
    refine qr_iload_n o (q_dm dm_X1_reckon 11 rfl) rfl ?_
    refine qr_imul o (q_dm dm_X1_reckon 12 rfl) ?_
    exact qr_iret o rfl rfl (q_dm dm_X1_reckon 13 rfl)
  · refine qr_iload_n o (q_dm dm_X1_reckon 2 rfl) rfl ?_
    refine qr_iload_n o (q_dm dm_X1_reckon 3 rfl) rfl ?_
    refine qr_iadd o (q_dm dm_X1_reckon 4 rfl) ?_
    exact qr_iret o rfl rfl (q_dm dm_X1_reckon 5 rfl)
  · refine qr_iload_n o (q_dm dm_X1_reckon 6 rfl) rfl ?_
    refine qr_iload_n o (q_dm dm_X1_reckon 7 rfl) rfl ?_
    refine qr_isub o (q_dm dm_X1_reckon 8 rfl) ?_
    exact qr_iret o rfl rfl (q_dm dm_X1_reckon 9 rfl)
  · refine qr_iload_n o (q_dm dm_X1_reckon 14 rfl) rfl ?_
    refine qr_iload_n o (q_dm dm_X1_reckon 15 rfl) rfl ?_
    refine qr_icmp_ge (tgt := 81) o (q_dm dm_X1_reckon 16 rfl) (by decide) ?_ ?_
    · refine qr_iconst o (q_dm dm_X1_reckon 19 rfl) ic_0 ?_
      exact qr_iret o rfl rfl (q_dm dm_X1_reckon 20 rfl)
    · refine qr_iconst o (q_dm dm_X1_reckon 17 rfl) ic_1 ?_
      refine qr_goto (tgt := 82) o (q_dm dm_X1_reckon 18 rfl) (by decide) ?_
      exact qr_iret o rfl rfl (q_dm dm_X1_reckon 20 rfl)
  · refine qr_iload_n o (q_dm dm_X1_reckon 28 rfl) rfl ?_
    refine qr_iload_n o (q_dm dm_X1_reckon 29 rfl) rfl ?_
    refine qr_icmp_ne (tgt := 103) o (q_dm dm_X1_reckon 30 rfl) (by decide) ?_ ?_
    · refine qr_iconst o (q_dm dm_X1_reckon 33 rfl) ic_0 ?_
      exact qr_iret o rfl rfl (q_dm dm_X1_reckon 34 rfl)
    · refine qr_iconst o (q_dm dm_X1_reckon 31 rfl) ic_1 ?_
      refine qr_goto (tgt := 104) o (q_dm dm_X1_reckon 32 rfl) (by decide) ?_
      exact qr_iret o rfl rfl (q_dm dm_X1_reckon 34 rfl)
  · refine qr_iload_n o (q_dm dm_X1_reckon 21 rfl) rfl ?_
    refine qr_iload_n o (q_dm dm_X1_reckon 22 rfl) rfl ?_
    refine qr_icmp_le (tgt := 92) o (q_dm dm_X1_reckon 23 rfl) (by decide) ?_ ?_
    · refine qr_iconst o (q_dm dm_X1_reckon 26 rfl) ic_0 ?_
      exact qr_iret o rfl rfl (q_dm dm_X1_reckon 27 rfl)
    · refine qr_iconst o (q_dm dm_X1_reckon 24 rfl) ic_1 ?_
      refine qr_goto (tgt := 93) o (q_dm dm_X1_reckon 25 rfl) (by decide) ?_
      exact qr_iret o rfl rfl (q_dm dm_X1_reckon 27 rfl)

theorem a_X1_reckon (g : qG) (l : Launch) (n : Nat) (j r : Nat) (hj : q_isLaw j) (hr : q_isLaw r) (a1 a2 a3 : Int32) (M : qM) : qAM g l 0 zX1_reckon (qL j r) [.inr (some 34), .inl a1, .inl a2, .inl a3] (qL j r, M) (f_X1_reckon n a1 a2 a3 M) :=
  qAM.of zv_X1_reckon.1 (by show 4 ≤ 4; decide) (fun k hk o => w_X1_reckon n j r hj hr o a1 a2 a3 M)
def tb_X1_run : List (Nat × Instr × Nat) := [(0, (.iconst 0, 1)), (1, (.istore_n 3, 1)), (2, (.aload_n 0, 1)), (3, (.iconst 0, 1)), (4, (.putfield 95, 3)), (7, (.iload_n 1, 1)), (8, (.istore 4, 2)), (10, (.iload 4, 2)), (12, (.iload_n 2, 1)), (13, (.if_icmp .ge 230, 3)), (16, (.aload_n 0, 1)), (17, (.getfield 95, 3)), (20, (.ifCond .ne 223, 3)), (23, (.aload_n 0, 1)), (24, (.getfield 24, 3)), (27, (.getfield 99, 3)), (30, (.iload 4, 2)), (32, (.iaload, 1)), (33, (.istore 5, 2)), (35, (.aload_n 0, 1)), (36, (.getfield 24, 3)), (39, (.getfield 102, 3)), (42, (.iload 4, 2)), (44, (.iaload, 1)), (45, (.istore 6, 2)), (47, (.iload 5, 2)), (49, (.ifCond .eq 9, 3)), (52, (.iload 5, 2)), (54, (.iconst 1, 1)), (55, (.if_icmp .ne 38, 3)), (58, (.iload_n 3, 1)), (59, (.bipush 64, 2)), (61, (.if_icmp .ge 176, 3)), (64, (.aload_n 0, 1)), (65, (.getfield 18, 3)), (68, (.iload_n 3, 1)), (69, (.iload 5, 2)), (71, (.ifCond .ne 8, 3)), (74, (.iload 6, 2)), (76, (.goto 10, 3)), (79, (.aload_n 0, 1)), (80, (.getfield 13, 3)), (83, (.iload 6, 2)), (85, (.iaload, 1)), (86, (.iastore, 1)), (87, (.iinc 3 1, 3)), (90, (.goto 147, 3)), (93, (.iload 5, 2)), (95, (.bipush 32, 2)), (97, (.if_icmp .lt 42, 3)), (100, (.iload_n 3, 1)), (101, (.iconst 2, 1)), (102, (.if_icmp .lt 37, 3)), (105, (.iinc 3 (-1), 3)), (108, (.aload_n 0, 1)), (109, (.getfield 18, 3)), (112, (.iload_n 3, 1)), (113, (.iconst 1, 1)), (114, (.isub, 1)), (115, (.aload_n 0, 1)), (116, (.iload 5, 2)), (118, (.aload_n 0, 1)), (119, (.getfield 18, 3)), (122, (.iload_n 3, 1)), (123, (.iconst 1, 1)), (124, (.isub, 1)), (125, (.iaload, 1)), (126, (.aload_n 0, 1)), (127, (.getfield 18, 3)), (130, (.iload_n 3, 1)), (131, (.iaload, 1)), (132, (.invokevirtual 105, 3)), (135, (.iastore, 1)), (136, (.goto 101, 3)), (139, (.iload 5, 2)), (141, (.iconst 2, 1)), (142, (.if_icmp .ne 29, 3)), (145, (.iload_n 3, 1)), (146, (.iconst 1, 1)), (147, (.if_icmp .lt 24, 3)), (150, (.aload_n 0, 1)), (151, (.getfield 18, 3)), (154, (.iload_n 3, 1)), (155, (.iconst 1, 1)), (156, (.isub, 1)), (157, (.iconst 1, 1)), (158, (.aload_n 0, 1)), (159, (.getfield 18, 3)), (162, (.iload_n 3, 1)), (163, (.iconst 1, 1)), (164, (.isub, 1)), (165, (.iaload, 1)), (166, (.isub, 1)), (167, (.iastore, 1)), (168, (.goto 69, 3)), (171, (.iload_n 3, 1)), (172, (.iconst 1, 1)), (173, (.if_icmp .lt 64, 3)), (176, (.aload_n 0, 1)), (177, (.getfield 18, 3)), (180, (.iload_n 3, 1)), (181, (.iconst 1, 1)), (182, (.isub, 1)), (183, (.iaload, 1)), (184, (.iload 5, 2)), (186, (.iconst 4, 1)), (187, (.if_icmp .ne 7, 3)), (190, (.iconst 1, 1)), (191, (.goto 4, 3)), (194, (.iconst 0, 1)), (195, (.if_icmp .ne 7, 3)), (198, (.iconst 1, 1)), (199, (.goto 4, 3)), (202, (.iconst 0, 1)), (203, (.istore 7, 2)), (205, (.iload 7, 2)), (207, (.ifCond .eq 13, 3)), (210, (.iload 4, 2)), (212, (.iload 6, 2)), (214, (.invokestatic 86, 3)), (217, (.goto 5, 3)), (220, (.iload 4, 2)), (222, (.istore 4, 2)), (224, (.iload 7, 2)), (226, (.ifCond .eq 7, 3)), (229, (.iload_n 3, 1)), (230, (.goto 6, 3)), (233, (.iload_n 3, 1)), (234, (.iconst 1, 1)), (235, (.isub, 1)), (236, (.istore_n 3, 1)), (237, (.iinc 4 1, 3)), (240, (.goto (-230), 3)), (243, (.aload_n 0, 1)), (244, (.getfield 95, 3)), (247, (.ifCond .ne 8, 3)), (250, (.iload_n 3, 1)), (251, (.iconst 1, 1)), (252, (.if_icmp .ge 7, 3)), (255, (.iconst 0, 1)), (256, (.goto 9, 3)), (259, (.aload_n 0, 1)), (260, (.getfield 18, 3)), (263, (.iconst 0, 1)), (264, (.iaload, 1)), (265, (.ireturn, 1))]
theorem dm_X1_run : ∀ q ∈ tb_X1_run, decode zX1_run.2.1 q.1 = .ok q.2 := by decide +kernel
def f_X1_run_243 (n : Nat) (j : Nat) (a3 : Int32) (M : qM) : qR :=
  (if (M 34 4) = (0 : Int32) then (if (1 : Int32) ≤ a3 then some ((M 36 0), M) else some ((0 : Int32), M)) else some ((0 : Int32), M))
set_option maxRecDepth 4000 in
theorem w_X1_run_243 {g : qG} {k : qK} (n : Nat) (j r : Nat) (hj : q_isLaw j) (hr : q_isLaw r) (o : qOk g 1 zX1_run k) (a3 : Int32) (M : qM) : qAE g k zX1_run (qL j r) 243 [some (.inr (some 34)), none, none, some (.inl a3), none, none, none, none] [] (qL j r, M) (f_X1_run_243 n j a3 M) := by
  unfold f_X1_run_243
  refine qr_aload_n o (q_dm dm_X1_run 133 rfl) rfl ?_
  refine qr_getf (kf := 4) o cf_X1 (sh34 j r) rfl (Nat.le_of_ble_eq_true rfl) fl_X1_95 (q_dm dm_X1_run 134 rfl) ?_
  refine qr_if_ne (tgt := 255) o (q_dm dm_X1_run 135 rfl) (by decide) ?_ ?_
  · refine qr_iconst o (q_dm dm_X1_run 139 rfl) ic_0 ?_
    refine qr_goto (tgt := 265) o (q_dm dm_X1_run 140 rfl) (by decide) ?_
    exact qr_iret o rfl rfl (q_dm dm_X1_run 145 rfl)
  · refine qr_iload_n o (q_dm dm_X1_run 136 rfl) rfl ?_
    refine qr_iconst o (q_dm dm_X1_run 137 rfl) ic_1 ?_
    refine qr_icmp_ge (tgt := 259) o (q_dm dm_X1_run 138 rfl) (by decide) ?_ ?_
    · refine qr_aload_n o (q_dm dm_X1_run 141 rfl) rfl ?_
      refine qr_getr (kf := 2) o cf_X1 (sh34 j r) rfl (Nat.le_of_ble_eq_true rfl) fl_X1_18 (q_dm dm_X1_run 142 rfl) ?_
      refine qr_iconst o (q_dm dm_X1_run 143 rfl) ic_0 ?_
      refine qr_iald0 (c := 0) o (sh36 j r) (by decide) (by decide) (q_dm dm_X1_run 144 rfl) ?_
      exact qr_iret o rfl rfl (q_dm dm_X1_run 145 rfl)
    · refine qr_iconst o (q_dm dm_X1_run 139 rfl) ic_0 ?_
      refine qr_goto (tgt := 265) o (q_dm dm_X1_run 140 rfl) (by decide) ?_
      exact qr_iret o rfl rfl (q_dm dm_X1_run 145 rfl)

def f_X1_run_222 (n : Nat) (j : Nat) (K10 : Int32 → Int32 → Int32 → qM → qR) (a2 a3 a7 s0 : Int32) (M : qM) : qR :=
  (if a7 = (0 : Int32) then ql (a3 - (1 : Int32)) (fun x1 => ql (s0 + (1 : Int32)) (fun x2 => K10 a2 x1 x2 M)) else ql (s0 + (1 : Int32)) (fun x3 => K10 a2 a3 x3 M))
set_option maxRecDepth 4000 in
theorem w_X1_run_222 {g : qG} {k : qK} (n : Nat) (j r : Nat) (hj : q_isLaw j) (hr : q_isLaw r) (o : qOk g 1 zX1_run k) (K10 : Int32 → Int32 → Int32 → qM → qR) (hK10 : ∀ (a2 a3 a4 : Int32) (M : qM), qAE g k zX1_run (qL j r) 10 [some (.inr (some 34)), none, some (.inl a2), some (.inl a3), some (.inl a4), none, none, none] [] (qL j r, M) (K10 a2 a3 a4 M)) (a2 a3 a7 s0 : Int32) (M : qM) : qAE g k zX1_run (qL j r) 222 [some (.inr (some 34)), none, some (.inl a2), some (.inl a3), none, none, none, some (.inl a7)] [.inl s0] (qL j r, M) (f_X1_run_222 n j K10 a2 a3 a7 s0 M) := by
  unfold f_X1_run_222
  refine qs_istore (L' := [some (.inr (some 34)), none, some (.inl a2), some (.inl a3), some (.inl s0), none, none, some (.inl a7)]) o (q_dm dm_X1_run 122 rfl) (Nat.le_of_ble_eq_true rfl) rfl ?_
  refine qr_iload o (q_dm dm_X1_run 123 rfl) rfl ?_
  refine qr_if_eq (tgt := 233) o (q_dm dm_X1_run 124 rfl) (by decide) ?_ ?_
  · refine qr_iload_n o (q_dm dm_X1_run 127 rfl) rfl ?_
    refine qr_iconst o (q_dm dm_X1_run 128 rfl) ic_1 ?_
    refine qr_isub o (q_dm dm_X1_run 129 rfl) ?_
    refine qr_lt (fun x1 => ?_)
    refine qs_istore_n (L' := [some (.inr (some 34)), none, some (.inl a2), some (.inl x1), some (.inl s0), none, none, some (.inl a7)]) o (q_dm dm_X1_run 130 rfl) (Nat.le_of_ble_eq_true rfl) rfl ?_
    refine qs_iincl2 (L' := fun x2 => [some (.inr (some 34)), none, some (.inl a2), some (.inl x1), some (.inl x2), none, none, some (.inl a7)]) o (q_dm dm_X1_run 131 rfl) rfl ic_1 (Nat.le_of_ble_eq_true rfl) (fun _ => rfl) (fun x2 => ?_)
    refine qr_goto (tgt := 10) o (q_dm dm_X1_run 132 rfl) (by decide) ?_
    exact qr_loc (q_leS (q_leN (q_leS (q_leS (q_leS (q_leN (q_leN (q_leN q_le0)))))))) (hK10 a2 x1 x2 M)
  · refine qr_iload_n o (q_dm dm_X1_run 125 rfl) rfl ?_
    refine qr_goto (tgt := 236) o (q_dm dm_X1_run 126 rfl) (by decide) ?_
    refine qs_istore_n (L' := [some (.inr (some 34)), none, some (.inl a2), some (.inl a3), some (.inl s0), none, none, some (.inl a7)]) o (q_dm dm_X1_run 130 rfl) (Nat.le_of_ble_eq_true rfl) rfl ?_
    refine qs_iincl2 (L' := fun x3 => [some (.inr (some 34)), none, some (.inl a2), some (.inl a3), some (.inl x3), none, none, some (.inl a7)]) o (q_dm dm_X1_run 131 rfl) rfl ic_1 (Nat.le_of_ble_eq_true rfl) (fun _ => rfl) (fun x3 => ?_)
    refine qr_goto (tgt := 10) o (q_dm dm_X1_run 132 rfl) (by decide) ?_
    exact qr_loc (q_leS (q_leN (q_leS (q_leS (q_leS (q_leN (q_leN (q_leN q_le0)))))))) (hK10 a2 a3 x3 M)

def f_X1_run_203 (n : Nat) (j : Nat) (K10 : Int32 → Int32 → Int32 → qM → qR) (a2 a3 a4 a6 s0 : Int32) (M : qM) : qR :=
  (if s0 = (0 : Int32) then f_X1_run_222 n j K10 a2 a3 s0 a4 M else f_X1_run_222 n j K10 a2 a3 s0 (qmax a4 a6) M)
set_option maxRecDepth 4000 in
theorem w_X1_run_203 {g : qG} {k : qK} (n : Nat) (j r : Nat) (hj : q_isLaw j) (hr : q_isLaw r) (o : qOk g 1 zX1_run k) (K10 : Int32 → Int32 → Int32 → qM → qR) (hK10 : ∀ (a2 a3 a4 : Int32) (M : qM), qAE g k zX1_run (qL j r) 10 [some (.inr (some 34)), none, some (.inl a2), some (.inl a3), some (.inl a4), none, none, none] [] (qL j r, M) (K10 a2 a3 a4 M)) (a2 a3 a4 a6 s0 : Int32) (M : qM) : qAE g k zX1_run (qL j r) 203 [some (.inr (some 34)), none, some (.inl a2), some (.inl a3), some (.inl a4), none, some (.inl a6), none] [.inl s0] (qL j r, M) (f_X1_run_203 n j K10 a2 a3 a4 a6 s0 M) := by
  unfold f_X1_run_203
  refine qs_istore (L' := [some (.inr (some 34)), none, some (.inl a2), some (.inl a3), some (.inl a4), none, some (.inl a6), some (.inl s0)]) o (q_dm dm_X1_run 114 rfl) (Nat.le_of_ble_eq_true rfl) rfl ?_
  refine qr_iload o (q_dm dm_X1_run 115 rfl) rfl ?_
  refine qr_if_eq (tgt := 220) o (q_dm dm_X1_run 116 rfl) (by decide) ?_ ?_
  · refine qr_iload o (q_dm dm_X1_run 121 rfl) rfl ?_
    exact qr_loc (q_leS (q_leN (q_leS (q_leS (q_leN (q_leN (q_leN (q_leS q_le0)))))))) (w_X1_run_222 n j r hj hr o K10 hK10 a2 a3 s0 a4 M)
  · refine qr_iload o (q_dm dm_X1_run 117 rfl) rfl ?_
    refine qr_iload o (q_dm dm_X1_run 118 rfl) rfl ?_
    refine qr_max o ml_X1_86 (by omega) (Nat.le_of_ble_eq_true rfl) (q_dm dm_X1_run 119 rfl) ?_
    refine qr_goto (tgt := 222) o (q_dm dm_X1_run 120 rfl) (by decide) ?_
    exact qr_loc (q_leS (q_leN (q_leS (q_leS (q_leN (q_leN (q_leN (q_leS q_le0)))))))) (w_X1_run_222 n j r hj hr o K10 hK10 a2 a3 s0 (qmax a4 a6) M)

def f_X1_run_195 (n : Nat) (j : Nat) (K10 : Int32 → Int32 → Int32 → qM → qR) (a2 a3 a4 a6 s0 s1 : Int32) (M : qM) : qR :=
  (if s0 = s1 then f_X1_run_203 n j K10 a2 a3 a4 a6 (1 : Int32) M else f_X1_run_203 n j K10 a2 a3 a4 a6 (0 : Int32) M)
set_option maxRecDepth 4000 in
theorem w_X1_run_195 {g : qG} {k : qK} (n : Nat) (j r : Nat) (hj : q_isLaw j) (hr : q_isLaw r) (o : qOk g 1 zX1_run k) (K10 : Int32 → Int32 → Int32 → qM → qR) (hK10 : ∀ (a2 a3 a4 : Int32) (M : qM), qAE g k zX1_run (qL j r) 10 [some (.inr (some 34)), none, some (.inl a2), some (.inl a3), some (.inl a4), none, none, none] [] (qL j r, M) (K10 a2 a3 a4 M)) (a2 a3 a4 a6 s0 s1 : Int32) (M : qM) : qAE g k zX1_run (qL j r) 195 [some (.inr (some 34)), none, some (.inl a2), some (.inl a3), some (.inl a4), none, some (.inl a6), none] [.inl s1, .inl s0] (qL j r, M) (f_X1_run_195 n j K10 a2 a3 a4 a6 s0 s1 M) := by
  unfold f_X1_run_195
  refine qr_icmp_ne (tgt := 202) o (q_dm dm_X1_run 110 rfl) (by decide) ?_ ?_
  · refine qr_iconst o (q_dm dm_X1_run 113 rfl) ic_0 ?_
    exact qr_loc (q_leS (q_leN (q_leS (q_leS (q_leS (q_leN (q_leS (q_leN q_le0)))))))) (w_X1_run_203 n j r hj hr o K10 hK10 a2 a3 a4 a6 (0 : Int32) M)
  · refine qr_iconst o (q_dm dm_X1_run 111 rfl) ic_1 ?_
    refine qr_goto (tgt := 203) o (q_dm dm_X1_run 112 rfl) (by decide) ?_
    exact qr_loc (q_leS (q_leN (q_leS (q_leS (q_leS (q_leN (q_leS (q_leN q_le0)))))))) (w_X1_run_203 n j r hj hr o K10 hK10 a2 a3 a4 a6 (1 : Int32) M)

def f_X1_run_171 (n : Nat) (j : Nat) (K10 : Int32 → Int32 → Int32 → qM → qR) (a2 a3 a4 a5 a6 : Int32) (M : qM) : qR :=
  (if a3 < (1 : Int32) then ql (a4 + (1 : Int32)) (fun x1 => K10 a2 a3 x1 M) else qg (a3 - (1 : Int32)) 64 ((if a5 = (4 : Int32) then f_X1_run_195 n j K10 a2 a3 a4 a6 (M 36 (a3 - (1 : Int32)).toNatClampNeg) (1 : Int32) M else f_X1_run_195 n j K10 a2 a3 a4 a6 (M 36 (a3 - (1 : Int32)).toNatClampNeg) (0 : Int32) M)))
set_option maxRecDepth 4000 in
theorem w_X1_run_171 {g : qG} {k : qK} (n : Nat) (j r : Nat) (hj : q_isLaw j) (hr : q_isLaw r) (o : qOk g 1 zX1_run k) (K10 : Int32 → Int32 → Int32 → qM → qR) (hK10 : ∀ (a2 a3 a4 : Int32) (M : qM), qAE g k zX1_run (qL j r) 10 [some (.inr (some 34)), none, some (.inl a2), some (.inl a3), some (.inl a4), none, none, none] [] (qL j r, M) (K10 a2 a3 a4 M)) (a2 a3 a4 a5 a6 : Int32) (M : qM) : qAE g k zX1_run (qL j r) 171 [some (.inr (some 34)), none, some (.inl a2), some (.inl a3), some (.inl a4), some (.inl a5), some (.inl a6), none] [] (qL j r, M) (f_X1_run_171 n j K10 a2 a3 a4 a5 a6 M) := by
  unfold f_X1_run_171
  refine qr_iload_n o (q_dm dm_X1_run 95 rfl) rfl ?_
  refine qr_iconst o (q_dm dm_X1_run 96 rfl) ic_1 ?_
  refine qr_icmp_lt (tgt := 237) o (q_dm dm_X1_run 97 rfl) (by decide) ?_ ?_
  · refine qs_iincl2 (L' := fun x1 => [some (.inr (some 34)), none, some (.inl a2), some (.inl a3), some (.inl x1), some (.inl a5), some (.inl a6), none]) o (q_dm dm_X1_run 131 rfl) rfl ic_1 (Nat.le_of_ble_eq_true rfl) (fun _ => rfl) (fun x1 => ?_)
    refine qr_goto (tgt := 10) o (q_dm dm_X1_run 132 rfl) (by decide) ?_
    exact qr_loc (q_leS (q_leN (q_leS (q_leS (q_leS (q_leN (q_leN (q_leN q_le0)))))))) (hK10 a2 a3 x1 M)
  · refine qr_aload_n o (q_dm dm_X1_run 98 rfl) rfl ?_
    refine qr_getr (kf := 2) o cf_X1 (sh34 j r) rfl (Nat.le_of_ble_eq_true rfl) fl_X1_18 (q_dm dm_X1_run 99 rfl) ?_
    refine qr_iload_n o (q_dm dm_X1_run 100 rfl) rfl ?_
    refine qr_iconst o (q_dm dm_X1_run 101 rfl) ic_1 ?_
    refine qr_isub o (q_dm dm_X1_run 102 rfl) ?_
    refine qr_iald o (sh36 j r) (q_dm dm_X1_run 103 rfl) ?_
    refine qr_iload o (q_dm dm_X1_run 104 rfl) rfl ?_
    refine qr_iconst o (q_dm dm_X1_run 105 rfl) ic_4 ?_
    refine qr_icmp_ne (tgt := 194) o (q_dm dm_X1_run 106 rfl) (by decide) ?_ ?_
    · refine qr_iconst o (q_dm dm_X1_run 109 rfl) ic_0 ?_
      exact qr_loc (q_leS (q_leN (q_leS (q_leS (q_leS (q_leN (q_leS (q_leN q_le0)))))))) (w_X1_run_195 n j r hj hr o K10 hK10 a2 a3 a4 a6 (M 36 (a3 - (1 : Int32)).toNatClampNeg) (0 : Int32) M)
    · refine qr_iconst o (q_dm dm_X1_run 107 rfl) ic_1 ?_
      refine qr_goto (tgt := 195) o (q_dm dm_X1_run 108 rfl) (by decide) ?_
      exact qr_loc (q_leS (q_leN (q_leS (q_leS (q_leS (q_leN (q_leS (q_leN q_le0)))))))) (w_X1_run_195 n j r hj hr o K10 hK10 a2 a3 a4 a6 (M 36 (a3 - (1 : Int32)).toNatClampNeg) (1 : Int32) M)

def f_X1_run_139 (n : Nat) (j : Nat) (K10 : Int32 → Int32 → Int32 → qM → qR) (a2 a3 a4 a5 a6 : Int32) (M : qM) : qR :=
  (if a5 = (2 : Int32) then (if a3 < (1 : Int32) then f_X1_run_171 n j K10 a2 a3 a4 a5 a6 M else qg (a3 - (1 : Int32)) 64 (qg (a3 - (1 : Int32)) 64 (qlm (mu M 36 (a3 - (1 : Int32)).toNatClampNeg ((1 : Int32) - (M 36 (a3 - (1 : Int32)).toNatClampNeg))) (fun m1 => ql (a4 + (1 : Int32)) (fun x2 => K10 a2 a3 x2 m1))))) else f_X1_run_171 n j K10 a2 a3 a4 a5 a6 M)
set_option maxRecDepth 4000 in
theorem w_X1_run_139 {g : qG} {k : qK} (n : Nat) (j r : Nat) (hj : q_isLaw j) (hr : q_isLaw r) (o : qOk g 1 zX1_run k) (K10 : Int32 → Int32 → Int32 → qM → qR) (hK10 : ∀ (a2 a3 a4 : Int32) (M : qM), qAE g k zX1_run (qL j r) 10 [some (.inr (some 34)), none, some (.inl a2), some (.inl a3), some (.inl a4), none, none, none] [] (qL j r, M) (K10 a2 a3 a4 M)) (a2 a3 a4 a5 a6 : Int32) (M : qM) : qAE g k zX1_run (qL j r) 139 [some (.inr (some 34)), none, some (.inl a2), some (.inl a3), some (.inl a4), some (.inl a5), some (.inl a6), none] [] (qL j r, M) (f_X1_run_139 n j K10 a2 a3 a4 a5 a6 M) := by
  unfold f_X1_run_139
  refine qr_iload o (q_dm dm_X1_run 74 rfl) rfl ?_
  refine qr_iconst o (q_dm dm_X1_run 75 rfl) ic_2 ?_
  refine qr_icmp_ne (tgt := 171) o (q_dm dm_X1_run 76 rfl) (by decide) ?_ ?_
  · exact qr_loc (q_leS (q_leN (q_leS (q_leS (q_leS (q_leS (q_leS (q_leN q_le0)))))))) (w_X1_run_171 n j r hj hr o K10 hK10 a2 a3 a4 a5 a6 M)
  · refine qr_iload_n o (q_dm dm_X1_run 77 rfl) rfl ?_
    refine qr_iconst o (q_dm dm_X1_run 78 rfl) ic_1 ?_
    refine qr_icmp_lt (tgt := 171) o (q_dm dm_X1_run 79 rfl) (by decide) ?_ ?_
    · exact qr_loc (q_leS (q_leN (q_leS (q_leS (q_leS (q_leS (q_leS (q_leN q_le0)))))))) (w_X1_run_171 n j r hj hr o K10 hK10 a2 a3 a4 a5 a6 M)
    · refine qr_aload_n o (q_dm dm_X1_run 80 rfl) rfl ?_
      refine qr_getr (kf := 2) o cf_X1 (sh34 j r) rfl (Nat.le_of_ble_eq_true rfl) fl_X1_18 (q_dm dm_X1_run 81 rfl) ?_
      refine qr_iload_n o (q_dm dm_X1_run 82 rfl) rfl ?_
      refine qr_iconst o (q_dm dm_X1_run 83 rfl) ic_1 ?_
      refine qr_isub o (q_dm dm_X1_run 84 rfl) ?_
      refine qr_iconst o (q_dm dm_X1_run 85 rfl) ic_1 ?_
      refine qr_aload_n o (q_dm dm_X1_run 86 rfl) rfl ?_
      refine qr_getr (kf := 2) o cf_X1 (sh34 j r) rfl (Nat.le_of_ble_eq_true rfl) fl_X1_18 (q_dm dm_X1_run 87 rfl) ?_
      refine qr_iload_n o (q_dm dm_X1_run 88 rfl) rfl ?_
      refine qr_iconst o (q_dm dm_X1_run 89 rfl) ic_1 ?_
      refine qr_isub o (q_dm dm_X1_run 90 rfl) ?_
      refine qr_iald o (sh36 j r) (q_dm dm_X1_run 91 rfl) ?_
      refine qr_isub o (q_dm dm_X1_run 92 rfl) ?_
      refine qr_iast o (sh36 j r) (q_dm dm_X1_run 93 rfl) ?_
      refine qr_letm (fun m1 => ?_)
      refine qr_goto (tgt := 237) o (q_dm dm_X1_run 94 rfl) (by decide) ?_
      refine qs_iincl2 (L' := fun x2 => [some (.inr (some 34)), none, some (.inl a2), some (.inl a3), some (.inl x2), some (.inl a5), some (.inl a6), none]) o (q_dm dm_X1_run 131 rfl) rfl ic_1 (Nat.le_of_ble_eq_true rfl) (fun _ => rfl) (fun x2 => ?_)
      refine qr_goto (tgt := 10) o (q_dm dm_X1_run 132 rfl) (by decide) ?_
      exact qr_loc (q_leS (q_leN (q_leS (q_leS (q_leS (q_leN (q_leN (q_leN q_le0)))))))) (hK10 a2 a3 x2 m1)

def f_X1_run_58 (n : Nat) (j : Nat) (K10 : Int32 → Int32 → Int32 → qM → qR) (a2 a3 a4 a5 a6 : Int32) (M : qM) : qR :=
  (if (64 : Int32) ≤ a3 then ql (a4 + (1 : Int32)) (fun x1 => K10 a2 a3 x1 M) else (if a5 = (0 : Int32) then qg a3 64 (qlm (mu M 36 a3.toNatClampNeg a6) (fun m5 => ql (a3 + (1 : Int32)) (fun x6 => ql (a4 + (1 : Int32)) (fun x7 => K10 a2 x6 x7 m5)))) else qg a6 12 (qg a3 64 (qlm (mu M 36 a3.toNatClampNeg (M 35 a6.toNatClampNeg)) (fun m2 => ql (a3 + (1 : Int32)) (fun x3 => ql (a4 + (1 : Int32)) (fun x4 => K10 a2 x3 x4 m2)))))))
set_option maxRecDepth 4000 in
theorem w_X1_run_58 {g : qG} {k : qK} (n : Nat) (j r : Nat) (hj : q_isLaw j) (hr : q_isLaw r) (o : qOk g 1 zX1_run k) (K10 : Int32 → Int32 → Int32 → qM → qR) (hK10 : ∀ (a2 a3 a4 : Int32) (M : qM), qAE g k zX1_run (qL j r) 10 [some (.inr (some 34)), none, some (.inl a2), some (.inl a3), some (.inl a4), none, none, none] [] (qL j r, M) (K10 a2 a3 a4 M)) (a2 a3 a4 a5 a6 : Int32) (M : qM) : qAE g k zX1_run (qL j r) 58 [some (.inr (some 34)), none, some (.inl a2), some (.inl a3), some (.inl a4), some (.inl a5), some (.inl a6), none] [] (qL j r, M) (f_X1_run_58 n j K10 a2 a3 a4 a5 a6 M) := by
  unfold f_X1_run_58
  refine qr_iload_n o (q_dm dm_X1_run 30 rfl) rfl ?_
  refine qr_bipush o (q_dm dm_X1_run 31 rfl) bi_64 ?_
  refine qr_icmp_ge (tgt := 237) o (q_dm dm_X1_run 32 rfl) (by decide) ?_ ?_
  · refine qs_iincl2 (L' := fun x1 => [some (.inr (some 34)), none, some (.inl a2), some (.inl a3), some (.inl x1), some (.inl a5), some (.inl a6), none]) o (q_dm dm_X1_run 131 rfl) rfl ic_1 (Nat.le_of_ble_eq_true rfl) (fun _ => rfl) (fun x1 => ?_)
    refine qr_goto (tgt := 10) o (q_dm dm_X1_run 132 rfl) (by decide) ?_
    exact qr_loc (q_leS (q_leN (q_leS (q_leS (q_leS (q_leN (q_leN (q_leN q_le0)))))))) (hK10 a2 a3 x1 M)
  · refine qr_aload_n o (q_dm dm_X1_run 33 rfl) rfl ?_
    refine qr_getr (kf := 2) o cf_X1 (sh34 j r) rfl (Nat.le_of_ble_eq_true rfl) fl_X1_18 (q_dm dm_X1_run 34 rfl) ?_
    refine qr_iload_n o (q_dm dm_X1_run 35 rfl) rfl ?_
    refine qr_iload o (q_dm dm_X1_run 36 rfl) rfl ?_
    refine qr_if_ne (tgt := 79) o (q_dm dm_X1_run 37 rfl) (by decide) ?_ ?_
    · refine qr_aload_n o (q_dm dm_X1_run 40 rfl) rfl ?_
      refine qr_getr (kf := 1) o cf_X1 (sh34 j r) rfl (Nat.le_of_ble_eq_true rfl) fl_X1_13 (q_dm dm_X1_run 41 rfl) ?_
      refine qr_iload o (q_dm dm_X1_run 42 rfl) rfl ?_
      refine qr_iald o (sh35 j r) (q_dm dm_X1_run 43 rfl) ?_
      refine qr_iast o (sh36 j r) (q_dm dm_X1_run 44 rfl) ?_
      refine qr_letm (fun m2 => ?_)
      refine qs_iincl2 (L' := fun x3 => [some (.inr (some 34)), none, some (.inl a2), some (.inl x3), some (.inl a4), some (.inl a5), some (.inl a6), none]) o (q_dm dm_X1_run 45 rfl) rfl ic_1 (Nat.le_of_ble_eq_true rfl) (fun _ => rfl) (fun x3 => ?_)
      refine qr_goto (tgt := 237) o (q_dm dm_X1_run 46 rfl) (by decide) ?_
      refine qs_iincl2 (L' := fun x4 => [some (.inr (some 34)), none, some (.inl a2), some (.inl x3), some (.inl x4), some (.inl a5), some (.inl a6), none]) o (q_dm dm_X1_run 131 rfl) rfl ic_1 (Nat.le_of_ble_eq_true rfl) (fun _ => rfl) (fun x4 => ?_)
      refine qr_goto (tgt := 10) o (q_dm dm_X1_run 132 rfl) (by decide) ?_
      exact qr_loc (q_leS (q_leN (q_leS (q_leS (q_leS (q_leN (q_leN (q_leN q_le0)))))))) (hK10 a2 x3 x4 m2)
    · refine qr_iload o (q_dm dm_X1_run 38 rfl) rfl ?_
      refine qr_goto (tgt := 86) o (q_dm dm_X1_run 39 rfl) (by decide) ?_
      refine qr_iast o (sh36 j r) (q_dm dm_X1_run 44 rfl) ?_
      refine qr_letm (fun m5 => ?_)
      refine qs_iincl2 (L' := fun x6 => [some (.inr (some 34)), none, some (.inl a2), some (.inl x6), some (.inl a4), some (.inl a5), some (.inl a6), none]) o (q_dm dm_X1_run 45 rfl) rfl ic_1 (Nat.le_of_ble_eq_true rfl) (fun _ => rfl) (fun x6 => ?_)
      refine qr_goto (tgt := 237) o (q_dm dm_X1_run 46 rfl) (by decide) ?_
      refine qs_iincl2 (L' := fun x7 => [some (.inr (some 34)), none, some (.inl a2), some (.inl x6), some (.inl x7), some (.inl a5), some (.inl a6), none]) o (q_dm dm_X1_run 131 rfl) rfl ic_1 (Nat.le_of_ble_eq_true rfl) (fun _ => rfl) (fun x7 => ?_)
      refine qr_goto (tgt := 10) o (q_dm dm_X1_run 132 rfl) (by decide) ?_
      exact qr_loc (q_leS (q_leN (q_leS (q_leS (q_leS (q_leN (q_leN (q_leN q_le0)))))))) (hK10 a2 x6 x7 m5)

def b_X1_run_10 (n : Nat) (j : Nat) (K10 : Int32 → Int32 → Int32 → qM → qR) (a2 a3 a4 : Int32) (M : qM) : qR :=
  (if a2 ≤ a4 then f_X1_run_243 n j a3 M else (if (M 34 4) = (0 : Int32) then qg a4 240 (ql (M (j + 1) a4.toNatClampNeg) (fun x1 => qg a4 240 (ql (M (j + 2) a4.toNatClampNeg) (fun x2 => (if x1 = (0 : Int32) then f_X1_run_58 n j K10 a2 a3 a4 x1 x2 M else (if x1 = (1 : Int32) then f_X1_run_58 n j K10 a2 a3 a4 x1 x2 M else (if x1 < (32 : Int32) then f_X1_run_139 n j K10 a2 a3 a4 x1 x2 M else (if a3 < (2 : Int32) then f_X1_run_139 n j K10 a2 a3 a4 x1 x2 M else ql (a3 + (-1 : Int32)) (fun x3 => qg (x3 - (1 : Int32)) 64 (qg x3 64 (qc (f_X1_reckon n x1 (M 36 (x3 - (1 : Int32)).toNatClampNeg) (M 36 x3.toNatClampNeg) M) (fun r4 m5 => qg (x3 - (1 : Int32)) 64 (qlm (mu m5 36 (x3 - (1 : Int32)).toNatClampNeg r4) (fun m6 => ql (a4 + (1 : Int32)) (fun x7 => K10 a2 x3 x7 m6))))))))))))))) else f_X1_run_243 n j a3 M))
set_option maxRecDepth 4000 in
theorem wb_X1_run_10 {g : qG} {k : qK} (n : Nat) (j r : Nat) (hj : q_isLaw j) (hr : q_isLaw r) (o : qOk g 1 zX1_run k) (K10 : Int32 → Int32 → Int32 → qM → qR) (hK10 : ∀ (a2 a3 a4 : Int32) (M : qM), qAE g k zX1_run (qL j r) 10 [some (.inr (some 34)), none, some (.inl a2), some (.inl a3), some (.inl a4), none, none, none] [] (qL j r, M) (K10 a2 a3 a4 M)) (a2 a3 a4 : Int32) (M : qM) : qAE g k zX1_run (qL j r) 10 [some (.inr (some 34)), none, some (.inl a2), some (.inl a3), some (.inl a4), none, none, none] [] (qL j r, M) (b_X1_run_10 n j K10 a2 a3 a4 M) := by
  unfold b_X1_run_10
  refine qr_iload o (q_dm dm_X1_run 7 rfl) rfl ?_
  refine qr_iload_n o (q_dm dm_X1_run 8 rfl) rfl ?_
  refine qr_icmp_ge (tgt := 243) o (q_dm dm_X1_run 9 rfl) (by decide) ?_ ?_
  · exact qr_loc (q_leS (q_leN (q_leN (q_leS (q_leN (q_leN (q_leN (q_leN q_le0)))))))) (w_X1_run_243 n j r hj hr o a3 M)
  · refine qr_aload_n o (q_dm dm_X1_run 10 rfl) rfl ?_
    refine qr_getf (kf := 4) o cf_X1 (sh34 j r) rfl (Nat.le_of_ble_eq_true rfl) fl_X1_95 (q_dm dm_X1_run 11 rfl) ?_
    refine qr_if_ne (tgt := 243) o (q_dm dm_X1_run 12 rfl) (by decide) ?_ ?_
    · exact qr_loc (q_leS (q_leN (q_leN (q_leS (q_leN (q_leN (q_leN (q_leN q_le0)))))))) (w_X1_run_243 n j r hj hr o a3 M)
    · refine qr_aload_n o (q_dm dm_X1_run 13 rfl) rfl ?_
      refine qr_getr (kf := 3) o cf_X1 (sh34 j r) rfl (Nat.le_of_ble_eq_true rfl) fl_X1_24 (q_dm dm_X1_run 14 rfl) ?_
      refine qr_getr (kf := 0) o cf_X3 (shW0 j r hj) rfl (Nat.le_of_ble_eq_true rfl) fl_X1_99 (q_dm dm_X1_run 15 rfl) ?_
      refine qr_iload o (q_dm dm_X1_run 16 rfl) rfl ?_
      refine qr_iald o (shW1 j r hj) (q_dm dm_X1_run 17 rfl) ?_
      refine qr_lt (fun x1 => ?_)
      refine qs_istore (L' := [some (.inr (some 34)), none, some (.inl a2), some (.inl a3), some (.inl a4), some (.inl x1), none, none]) o (q_dm dm_X1_run 18 rfl) (Nat.le_of_ble_eq_true rfl) rfl ?_
      refine qr_aload_n o (q_dm dm_X1_run 19 rfl) rfl ?_
      refine qr_getr (kf := 3) o cf_X1 (sh34 j r) rfl (Nat.le_of_ble_eq_true rfl) fl_X1_24 (q_dm dm_X1_run 20 rfl) ?_
      refine qr_getr (kf := 1) o cf_X3 (shW0 j r hj) rfl (Nat.le_of_ble_eq_true rfl) fl_X1_102 (q_dm dm_X1_run 21 rfl) ?_
      refine qr_iload o (q_dm dm_X1_run 22 rfl) rfl ?_
      refine qr_iald o (shW2 j r hj) (q_dm dm_X1_run 23 rfl) ?_
      refine qr_lt (fun x2 => ?_)
      refine qs_istore (L' := [some (.inr (some 34)), none, some (.inl a2), some (.inl a3), some (.inl a4), some (.inl x1), some (.inl x2), none]) o (q_dm dm_X1_run 24 rfl) (Nat.le_of_ble_eq_true rfl) rfl ?_
      refine qr_iload o (q_dm dm_X1_run 25 rfl) rfl ?_
      refine qr_if_eq (tgt := 58) o (q_dm dm_X1_run 26 rfl) (by decide) ?_ ?_
      · exact qr_loc (q_leS (q_leN (q_leS (q_leS (q_leS (q_leS (q_leS (q_leN q_le0)))))))) (w_X1_run_58 n j r hj hr o K10 hK10 a2 a3 a4 x1 x2 M)
      · refine qr_iload o (q_dm dm_X1_run 27 rfl) rfl ?_
        refine qr_iconst o (q_dm dm_X1_run 28 rfl) ic_1 ?_
        refine qr_icmp_ne (tgt := 93) o (q_dm dm_X1_run 29 rfl) (by decide) ?_ ?_
        · refine qr_iload o (q_dm dm_X1_run 47 rfl) rfl ?_
          refine qr_bipush o (q_dm dm_X1_run 48 rfl) bi_32 ?_
          refine qr_icmp_lt (tgt := 139) o (q_dm dm_X1_run 49 rfl) (by decide) ?_ ?_
          · exact qr_loc (q_leS (q_leN (q_leS (q_leS (q_leS (q_leS (q_leS (q_leN q_le0)))))))) (w_X1_run_139 n j r hj hr o K10 hK10 a2 a3 a4 x1 x2 M)
          · refine qr_iload_n o (q_dm dm_X1_run 50 rfl) rfl ?_
            refine qr_iconst o (q_dm dm_X1_run 51 rfl) ic_2 ?_
            refine qr_icmp_lt (tgt := 139) o (q_dm dm_X1_run 52 rfl) (by decide) ?_ ?_
            · exact qr_loc (q_leS (q_leN (q_leS (q_leS (q_leS (q_leS (q_leS (q_leN q_le0)))))))) (w_X1_run_139 n j r hj hr o K10 hK10 a2 a3 a4 x1 x2 M)
            · refine qs_iincl2 (L' := fun x3 => [some (.inr (some 34)), none, some (.inl a2), some (.inl x3), some (.inl a4), some (.inl x1), some (.inl x2), none]) o (q_dm dm_X1_run 53 rfl) rfl ic_m1 (Nat.le_of_ble_eq_true rfl) (fun _ => rfl) (fun x3 => ?_)
              refine qr_aload_n o (q_dm dm_X1_run 54 rfl) rfl ?_
              refine qr_getr (kf := 2) o cf_X1 (sh34 j r) rfl (Nat.le_of_ble_eq_true rfl) fl_X1_18 (q_dm dm_X1_run 55 rfl) ?_
              refine qr_iload_n o (q_dm dm_X1_run 56 rfl) rfl ?_
              refine qr_iconst o (q_dm dm_X1_run 57 rfl) ic_1 ?_
              refine qr_isub o (q_dm dm_X1_run 58 rfl) ?_
              refine qr_aload_n o (q_dm dm_X1_run 59 rfl) rfl ?_
              refine qr_iload o (q_dm dm_X1_run 60 rfl) rfl ?_
              refine qr_aload_n o (q_dm dm_X1_run 61 rfl) rfl ?_
              refine qr_getr (kf := 2) o cf_X1 (sh34 j r) rfl (Nat.le_of_ble_eq_true rfl) fl_X1_18 (q_dm dm_X1_run 62 rfl) ?_
              refine qr_iload_n o (q_dm dm_X1_run 63 rfl) rfl ?_
              refine qr_iconst o (q_dm dm_X1_run 64 rfl) ic_1 ?_
              refine qr_isub o (q_dm dm_X1_run 65 rfl) ?_
              refine qr_iald o (sh36 j r) (q_dm dm_X1_run 66 rfl) ?_
              refine qr_aload_n o (q_dm dm_X1_run 67 rfl) rfl ?_
              refine qr_getr (kf := 2) o cf_X1 (sh34 j r) rfl (Nat.le_of_ble_eq_true rfl) fl_X1_18 (q_dm dm_X1_run 68 rfl) ?_
              refine qr_iload_n o (q_dm dm_X1_run 69 rfl) rfl ?_
              refine qr_iald o (sh36 j r) (q_dm dm_X1_run 70 rfl) ?_
              refine qr_callv_i (As := [.inl x1, .inl (M 36 (x3 - (1 : Int32)).toNatClampNeg), .inl (M 36 x3.toNatClampNeg)]) (S := [.inl (x3 - (1 : Int32)), .inr (some 36)]) o (a_X1_reckon g k.2.1 n j r hj hr x1 (M 36 (x3 - (1 : Int32)).toNatClampNeg) (M 36 x3.toNatClampNeg) M) (Nat.le_of_ble_eq_true rfl) zv_X1_reckon rfl cf_X1 (sh34 j r) ml_X1_105 (Nat.le_of_ble_eq_true rfl) (q_dm dm_X1_run 71 rfl) (fun r4 m5 => ?_)
              refine qr_iast o (sh36 j r) (q_dm dm_X1_run 72 rfl) ?_
              refine qr_letm (fun m6 => ?_)
              refine qr_goto (tgt := 237) o (q_dm dm_X1_run 73 rfl) (by decide) ?_
              refine qs_iincl2 (L' := fun x7 => [some (.inr (some 34)), none, some (.inl a2), some (.inl x3), some (.inl x7), some (.inl x1), some (.inl x2), none]) o (q_dm dm_X1_run 131 rfl) rfl ic_1 (Nat.le_of_ble_eq_true rfl) (fun _ => rfl) (fun x7 => ?_)
              refine qr_goto (tgt := 10) o (q_dm dm_X1_run 132 rfl) (by decide) ?_
              exact qr_loc (q_leS (q_leN (q_leS (q_leS (q_leS (q_leN (q_leN (q_leN q_le0)))))))) (hK10 a2 x3 x7 m6)
        · exact qr_loc (q_leS (q_leN (q_leS (q_leS (q_leS (q_leS (q_leS (q_leN q_le0)))))))) (w_X1_run_58 n j r hj hr o K10 hK10 a2 a3 a4 x1 x2 M)

def f_X1_run_10 (n : Nat) (j : Nat) : Nat → Int32 → Int32 → Int32 → qM → qR
  | 0, _, _, _, _ => none
  | m + 1, a2, a3, a4, M => b_X1_run_10 n j (f_X1_run_10 n j m) a2 a3 a4 M
theorem w_X1_run_10 {g : qG} {k : qK} (n : Nat) (j r : Nat) (hj : q_isLaw j) (hr : q_isLaw r) (o : qOk g 1 zX1_run k) : ∀ (m : Nat) (a2 a3 a4 : Int32) (M : qM), qAE g k zX1_run (qL j r) 10 [some (.inr (some 34)), none, some (.inl a2), some (.inl a3), some (.inl a4), none, none, none] [] (qL j r, M) (f_X1_run_10 n j m a2 a3 a4 M) := by
  intro m
  induction m with
  | zero =>
    intro a2 a3 a4 M
    exact qr_none
  | succ m ih =>
    intro a2 a3 a4 M
    exact wb_X1_run_10 n j r hj hr o (f_X1_run_10 n j m) ih a2 a3 a4 M
def f_X1_run (n : Nat) (j : Nat) (a1 a2 : Int32) (M : qM) : qR :=
  qlm (mu M 34 4 (0 : Int32)) (fun m1 => f_X1_run_10 n j n a2 (0 : Int32) a1 m1)
set_option maxRecDepth 4000 in
theorem w_X1_run {g : qG} {k : qK} (n : Nat) (j r : Nat) (hj : q_isLaw j) (hr : q_isLaw r) (o : qOk g 1 zX1_run k) (a1 a2 : Int32) (M : qM) : qAE g k zX1_run (qL j r) 0 [some (.inr (some 34)), some (.inl a1), some (.inl a2), none, none, none, none, none] [] (qL j r, M) (f_X1_run n j a1 a2 M) := by
  unfold f_X1_run
  refine qr_iconst o (q_dm dm_X1_run 0 rfl) ic_0 ?_
  refine qs_istore_n (L' := [some (.inr (some 34)), some (.inl a1), some (.inl a2), some (.inl (0 : Int32)), none, none, none, none]) o (q_dm dm_X1_run 1 rfl) (Nat.le_of_ble_eq_true rfl) rfl ?_
  refine qr_aload_n o (q_dm dm_X1_run 2 rfl) rfl ?_
  refine qr_iconst o (q_dm dm_X1_run 3 rfl) ic_0 ?_
  refine qr_putz (kf := 4) o cf_X1 (sh34 j r) rfl (Nat.le_of_ble_eq_true rfl) fl_X1_95 rfl (by decide +kernel) (by decide) (q_dm dm_X1_run 4 rfl) ?_
  refine qr_letm (fun m1 => ?_)
  refine qr_iload_n o (q_dm dm_X1_run 5 rfl) rfl ?_
  refine qs_istore (L' := [some (.inr (some 34)), some (.inl a1), some (.inl a2), some (.inl (0 : Int32)), some (.inl a1), none, none, none]) o (q_dm dm_X1_run 6 rfl) (Nat.le_of_ble_eq_true rfl) rfl ?_
  exact qr_loc (q_leS (q_leN (q_leS (q_leS (q_leS (q_leN (q_leN (q_leN q_le0)))))))) (w_X1_run_10 n j r hj hr o n a2 (0 : Int32) a1 m1)

theorem a_X1_run (g : qG) (l : Launch) (n : Nat) (j r : Nat) (hj : q_isLaw j) (hr : q_isLaw r) (a1 a2 : Int32) (M : qM) : qAM g l 1 zX1_run (qL j r) [.inr (some 34), .inl a1, .inl a2] (qL j r, M) (f_X1_run n j a1 a2 M) :=
  qAM.of zv_X1_run.1 (by show 3 ≤ 8; decide) (fun k hk o => w_X1_run n j r hj hr o a1 a2 M)
def tb_X1_amount : List (Nat × Instr × Nat) := [(0, (.iload_n 3, 1)), (1, (.istore 4, 2)), (3, (.iconst 0, 1)), (4, (.istore 5, 2)), (6, (.iload 5, 2)), (8, (.aload_n 0, 1)), (9, (.getfield 24, 3)), (12, (.getfield 61, 3)), (15, (.if_icmp .ge 86, 3)), (18, (.aload_n 0, 1)), (19, (.getfield 24, 3)), (22, (.getfield 65, 3)), (25, (.iload 5, 2)), (27, (.iaload, 1)), (28, (.iload_n 1, 1)), (29, (.if_icmp .ne 66, 3)), (32, (.iconst 0, 1)), (33, (.istore 4, 2)), (35, (.aload_n 0, 1)), (36, (.aload_n 0, 1)), (37, (.getfield 24, 3)), (40, (.getfield 68, 3)), (43, (.iload 5, 2)), (45, (.iaload, 1)), (46, (.aload_n 0, 1)), (47, (.getfield 24, 3)), (50, (.getfield 71, 3)), (53, (.iload 5, 2)), (55, (.iaload, 1)), (56, (.invokevirtual 74, 3)), (59, (.ifCond .eq 36, 3)), (62, (.iconst 0, 1)), (63, (.iload_n 2, 1)), (64, (.aload_n 0, 1)), (65, (.aload_n 0, 1)), (66, (.getfield 24, 3)), (69, (.getfield 78, 3)), (72, (.iload 5, 2)), (74, (.iaload, 1)), (75, (.aload_n 0, 1)), (76, (.getfield 24, 3)), (79, (.getfield 68, 3)), (82, (.iload 5, 2)), (84, (.iaload, 1)), (85, (.invokevirtual 74, 3)), (88, (.invokestatic 81, 3)), (91, (.invokestatic 86, 3)), (94, (.ireturn, 1)), (95, (.iinc 5 1, 3)), (98, (.goto (-92), 3)), (101, (.iload 4, 2)), (103, (.ireturn, 1))]
theorem dm_X1_amount : ∀ q ∈ tb_X1_amount, decode zX1_amount.2.1 q.1 = .ok q.2 := by decide +kernel
def b_X1_amount_6 (n : Nat) (j : Nat) (K6 : Int32 → Int32 → Int32 → Int32 → qM → qR) (a1 a2 a4 a5 : Int32) (M : qM) : qR :=
  (if (M j 7) ≤ a5 then some (a4, M) else qg a5 16 ((if (M (j + 3) a5.toNatClampNeg) = a1 then qg a5 16 (qg a5 16 (qc (f_X1_run n j (M (j + 5) a5.toNatClampNeg) (M (j + 6) a5.toNatClampNeg) M) (fun r2 m3 => (if r2 = (0 : Int32) then ql (a5 + (1 : Int32)) (fun x4 => K6 a1 a2 (0 : Int32) x4 m3) else qg a5 16 (qg a5 16 (qc (f_X1_run n j (m3 (j + 4) a5.toNatClampNeg) (m3 (j + 5) a5.toNatClampNeg) m3) (fun r5 m6 => some ((qmax (0 : Int32) (qmin a2 r5)), m6)))))))) else ql (a5 + (1 : Int32)) (fun x1 => K6 a1 a2 a4 x1 M))))
set_option maxRecDepth 4000 in
theorem wb_X1_amount_6 {g : qG} {k : qK} (n : Nat) (j r : Nat) (hj : q_isLaw j) (hr : q_isLaw r) (o : qOk g 2 zX1_amount k) (K6 : Int32 → Int32 → Int32 → Int32 → qM → qR) (hK6 : ∀ (a1 a2 a4 a5 : Int32) (M : qM), qAE g k zX1_amount (qL j r) 6 [some (.inr (some 34)), some (.inl a1), some (.inl a2), none, some (.inl a4), some (.inl a5)] [] (qL j r, M) (K6 a1 a2 a4 a5 M)) (a1 a2 a4 a5 : Int32) (M : qM) : qAE g k zX1_amount (qL j r) 6 [some (.inr (some 34)), some (.inl a1), some (.inl a2), none, some (.inl a4), some (.inl a5)] [] (qL j r, M) (b_X1_amount_6 n j K6 a1 a2 a4 a5 M) := by
  unfold b_X1_amount_6
  refine qr_iload o (q_dm dm_X1_amount 4 rfl) rfl ?_
  refine qr_aload_n o (q_dm dm_X1_amount 5 rfl) rfl ?_
  refine qr_getr (kf := 3) o cf_X1 (sh34 j r) rfl (Nat.le_of_ble_eq_true rfl) fl_X1_24 (q_dm dm_X1_amount 6 rfl) ?_
  refine qr_getf (kf := 7) o cf_X3 (shW0 j r hj) rfl (Nat.le_of_ble_eq_true rfl) fl_X1_61 (q_dm dm_X1_amount 7 rfl) ?_
  refine qr_icmp_ge (tgt := 101) o (q_dm dm_X1_amount 8 rfl) (by decide) ?_ ?_
  · refine qr_iload o (q_dm dm_X1_amount 50 rfl) rfl ?_
    exact qr_iret o rfl rfl (q_dm dm_X1_amount 51 rfl)
  · refine qr_aload_n o (q_dm dm_X1_amount 9 rfl) rfl ?_
    refine qr_getr (kf := 3) o cf_X1 (sh34 j r) rfl (Nat.le_of_ble_eq_true rfl) fl_X1_24 (q_dm dm_X1_amount 10 rfl) ?_
    refine qr_getr (kf := 2) o cf_X3 (shW0 j r hj) rfl (Nat.le_of_ble_eq_true rfl) fl_X1_65 (q_dm dm_X1_amount 11 rfl) ?_
    refine qr_iload o (q_dm dm_X1_amount 12 rfl) rfl ?_
    refine qr_iald o (shW3 j r hj) (q_dm dm_X1_amount 13 rfl) ?_
    refine qr_iload_n o (q_dm dm_X1_amount 14 rfl) rfl ?_
    refine qr_icmp_ne (tgt := 95) o (q_dm dm_X1_amount 15 rfl) (by decide) ?_ ?_
    · refine qs_iincl2 (L' := fun x1 => [some (.inr (some 34)), some (.inl a1), some (.inl a2), none, some (.inl a4), some (.inl x1)]) o (q_dm dm_X1_amount 48 rfl) rfl ic_1 (Nat.le_of_ble_eq_true rfl) (fun _ => rfl) (fun x1 => ?_)
      refine qr_goto (tgt := 6) o (q_dm dm_X1_amount 49 rfl) (by decide) ?_
      exact qr_loc (q_leS (q_leS (q_leS (q_leN (q_leS (q_leS q_le0)))))) (hK6 a1 a2 a4 x1 M)
    · refine qr_iconst o (q_dm dm_X1_amount 16 rfl) ic_0 ?_
      refine qs_istore (L' := [some (.inr (some 34)), some (.inl a1), some (.inl a2), none, some (.inl (0 : Int32)), some (.inl a5)]) o (q_dm dm_X1_amount 17 rfl) (Nat.le_of_ble_eq_true rfl) rfl ?_
      refine qr_aload_n o (q_dm dm_X1_amount 18 rfl) rfl ?_
      refine qr_aload_n o (q_dm dm_X1_amount 19 rfl) rfl ?_
      refine qr_getr (kf := 3) o cf_X1 (sh34 j r) rfl (Nat.le_of_ble_eq_true rfl) fl_X1_24 (q_dm dm_X1_amount 20 rfl) ?_
      refine qr_getr (kf := 4) o cf_X3 (shW0 j r hj) rfl (Nat.le_of_ble_eq_true rfl) fl_X1_68 (q_dm dm_X1_amount 21 rfl) ?_
      refine qr_iload o (q_dm dm_X1_amount 22 rfl) rfl ?_
      refine qr_iald o (shW5 j r hj) (q_dm dm_X1_amount 23 rfl) ?_
      refine qr_aload_n o (q_dm dm_X1_amount 24 rfl) rfl ?_
      refine qr_getr (kf := 3) o cf_X1 (sh34 j r) rfl (Nat.le_of_ble_eq_true rfl) fl_X1_24 (q_dm dm_X1_amount 25 rfl) ?_
      refine qr_getr (kf := 5) o cf_X3 (shW0 j r hj) rfl (Nat.le_of_ble_eq_true rfl) fl_X1_71 (q_dm dm_X1_amount 26 rfl) ?_
      refine qr_iload o (q_dm dm_X1_amount 27 rfl) rfl ?_
      refine qr_iald o (shW6 j r hj) (q_dm dm_X1_amount 28 rfl) ?_
      refine qr_callv_i (As := [.inl (M (j + 5) a5.toNatClampNeg), .inl (M (j + 6) a5.toNatClampNeg)]) (S := []) o (a_X1_run g k.2.1 n j r hj hr (M (j + 5) a5.toNatClampNeg) (M (j + 6) a5.toNatClampNeg) M) (Nat.le_of_ble_eq_true rfl) zv_X1_run rfl cf_X1 (sh34 j r) ml_X1_74 (Nat.le_of_ble_eq_true rfl) (q_dm dm_X1_amount 29 rfl) (fun r2 m3 => ?_)
      refine qr_if_eq (tgt := 95) o (q_dm dm_X1_amount 30 rfl) (by decide) ?_ ?_
      · refine qs_iincl2 (L' := fun x4 => [some (.inr (some 34)), some (.inl a1), some (.inl a2), none, some (.inl (0 : Int32)), some (.inl x4)]) o (q_dm dm_X1_amount 48 rfl) rfl ic_1 (Nat.le_of_ble_eq_true rfl) (fun _ => rfl) (fun x4 => ?_)
        refine qr_goto (tgt := 6) o (q_dm dm_X1_amount 49 rfl) (by decide) ?_
        exact qr_loc (q_leS (q_leS (q_leS (q_leN (q_leS (q_leS q_le0)))))) (hK6 a1 a2 (0 : Int32) x4 m3)
      · refine qr_iconst o (q_dm dm_X1_amount 31 rfl) ic_0 ?_
        refine qr_iload_n o (q_dm dm_X1_amount 32 rfl) rfl ?_
        refine qr_aload_n o (q_dm dm_X1_amount 33 rfl) rfl ?_
        refine qr_aload_n o (q_dm dm_X1_amount 34 rfl) rfl ?_
        refine qr_getr (kf := 3) o cf_X1 (sh34 j r) rfl (Nat.le_of_ble_eq_true rfl) fl_X1_24 (q_dm dm_X1_amount 35 rfl) ?_
        refine qr_getr (kf := 3) o cf_X3 (shW0 j r hj) rfl (Nat.le_of_ble_eq_true rfl) fl_X1_78 (q_dm dm_X1_amount 36 rfl) ?_
        refine qr_iload o (q_dm dm_X1_amount 37 rfl) rfl ?_
        refine qr_iald o (shW4 j r hj) (q_dm dm_X1_amount 38 rfl) ?_
        refine qr_aload_n o (q_dm dm_X1_amount 39 rfl) rfl ?_
        refine qr_getr (kf := 3) o cf_X1 (sh34 j r) rfl (Nat.le_of_ble_eq_true rfl) fl_X1_24 (q_dm dm_X1_amount 40 rfl) ?_
        refine qr_getr (kf := 4) o cf_X3 (shW0 j r hj) rfl (Nat.le_of_ble_eq_true rfl) fl_X1_68 (q_dm dm_X1_amount 41 rfl) ?_
        refine qr_iload o (q_dm dm_X1_amount 42 rfl) rfl ?_
        refine qr_iald o (shW5 j r hj) (q_dm dm_X1_amount 43 rfl) ?_
        refine qr_callv_i (As := [.inl (m3 (j + 4) a5.toNatClampNeg), .inl (m3 (j + 5) a5.toNatClampNeg)]) (S := [.inl a2, .inl (0 : Int32)]) o (a_X1_run g k.2.1 n j r hj hr (m3 (j + 4) a5.toNatClampNeg) (m3 (j + 5) a5.toNatClampNeg) m3) (Nat.le_of_ble_eq_true rfl) zv_X1_run rfl cf_X1 (sh34 j r) ml_X1_74 (Nat.le_of_ble_eq_true rfl) (q_dm dm_X1_amount 44 rfl) (fun r5 m6 => ?_)
        refine qr_min o ml_X1_81 (by omega) (Nat.le_of_ble_eq_true rfl) (q_dm dm_X1_amount 45 rfl) ?_
        refine qr_max o ml_X1_86 (by omega) (Nat.le_of_ble_eq_true rfl) (q_dm dm_X1_amount 46 rfl) ?_
        exact qr_iret o rfl rfl (q_dm dm_X1_amount 47 rfl)

def f_X1_amount_6 (n : Nat) (j : Nat) : Nat → Int32 → Int32 → Int32 → Int32 → qM → qR
  | 0, _, _, _, _, _ => none
  | m + 1, a1, a2, a4, a5, M => b_X1_amount_6 n j (f_X1_amount_6 n j m) a1 a2 a4 a5 M
theorem w_X1_amount_6 {g : qG} {k : qK} (n : Nat) (j r : Nat) (hj : q_isLaw j) (hr : q_isLaw r) (o : qOk g 2 zX1_amount k) : ∀ (m : Nat) (a1 a2 a4 a5 : Int32) (M : qM), qAE g k zX1_amount (qL j r) 6 [some (.inr (some 34)), some (.inl a1), some (.inl a2), none, some (.inl a4), some (.inl a5)] [] (qL j r, M) (f_X1_amount_6 n j m a1 a2 a4 a5 M) := by
  intro m
  induction m with
  | zero =>
    intro a1 a2 a4 a5 M
    exact qr_none
  | succ m ih =>
    intro a1 a2 a4 a5 M
    exact wb_X1_amount_6 n j r hj hr o (f_X1_amount_6 n j m) ih a1 a2 a4 a5 M
def f_X1_amount (n : Nat) (j : Nat) (a1 a2 a3 : Int32) (M : qM) : qR :=
  f_X1_amount_6 n j n a1 a2 a3 (0 : Int32) M
set_option maxRecDepth 4000 in
theorem w_X1_amount {g : qG} {k : qK} (n : Nat) (j r : Nat) (hj : q_isLaw j) (hr : q_isLaw r) (o : qOk g 2 zX1_amount k) (a1 a2 a3 : Int32) (M : qM) : qAE g k zX1_amount (qL j r) 0 [some (.inr (some 34)), some (.inl a1), some (.inl a2), some (.inl a3), none, none] [] (qL j r, M) (f_X1_amount n j a1 a2 a3 M) := by
  unfold f_X1_amount
  refine qr_iload_n o (q_dm dm_X1_amount 0 rfl) rfl ?_
  refine qs_istore (L' := [some (.inr (some 34)), some (.inl a1), some (.inl a2), some (.inl a3), some (.inl a3), none]) o (q_dm dm_X1_amount 1 rfl) (Nat.le_of_ble_eq_true rfl) rfl ?_
  refine qr_iconst o (q_dm dm_X1_amount 2 rfl) ic_0 ?_
  refine qs_istore (L' := [some (.inr (some 34)), some (.inl a1), some (.inl a2), some (.inl a3), some (.inl a3), some (.inl (0 : Int32))]) o (q_dm dm_X1_amount 3 rfl) (Nat.le_of_ble_eq_true rfl) rfl ?_
  exact qr_loc (q_leS (q_leS (q_leS (q_leN (q_leS (q_leS q_le0)))))) (w_X1_amount_6 n j r hj hr o n a1 a2 a3 (0 : Int32) M)

theorem a_X1_amount (g : qG) (l : Launch) (n : Nat) (j r : Nat) (hj : q_isLaw j) (hr : q_isLaw r) (a1 a2 a3 : Int32) (M : qM) : qAM g l 2 zX1_amount (qL j r) [.inr (some 34), .inl a1, .inl a2, .inl a3] (qL j r, M) (f_X1_amount n j a1 a2 a3 M) :=
  qAM.of zv_X1_amount.1 (by show 4 ≤ 6; decide) (fun k hk o => w_X1_amount n j r hj hr o a1 a2 a3 M)
def tb_X0_forget : List (Nat × Instr × Nat) := [(0, (.iconst 0, 1)), (1, (.istore 4, 2)), (3, (.iload 4, 2)), (5, (.bipush 12, 2)), (7, (.if_icmp .ge 93, 3)), (10, (.iload_n 2, 1)), (11, (.bipush 12, 2)), (13, (.imul, 1)), (14, (.iload 4, 2)), (16, (.iadd, 1)), (17, (.istore 5, 2)), (19, (.iload_n 3, 1)), (20, (.iload 4, 2)), (22, (.ishr, 1)), (23, (.iconst 1, 1)), (24, (.iand, 1)), (25, (.iconst 1, 1)), (26, (.if_icmp .ne 68, 3)), (29, (.aload_n 1, 1)), (30, (.getfield 73, 3)), (33, (.iload 5, 2)), (35, (.iaload, 1)), (36, (.ifCond .le 58, 3)), (39, (.aload_n 0, 1)), (40, (.aload_n 1, 1)), (41, (.iload_n 2, 1)), (42, (.iload 4, 2)), (44, (.bipush 8, 2)), (46, (.invokevirtual 41, 3)), (49, (.aload_n 0, 1)), (50, (.getfield 15, 3)), (53, (.bipush 102, 2)), (55, (.sipush 999, 3)), (58, (.iconst 0, 1)), (59, (.invokevirtual 69, 3)), (62, (.istore 6, 2)), (64, (.iload 6, 2)), (66, (.ifCond .le 28, 3)), (69, (.aload_n 1, 1)), (70, (.getfield 19, 3)), (73, (.aload_n 1, 1)), (74, (.getfield 138, 3)), (77, (.iload 5, 2)), (79, (.iaload, 1)), (80, (.isub, 1)), (81, (.iload 6, 2)), (83, (.if_icmp .lt 11, 3)), (86, (.aload_n 1, 1)), (87, (.getfield 73, 3)), (90, (.iload 5, 2)), (92, (.iconst 0, 1)), (93, (.iastore, 1)), (94, (.iinc 4 1, 3)), (97, (.goto (-94), 3)), (100, (.return_, 1))]
theorem dm_X0_forget : ∀ q ∈ tb_X0_forget, decode zX0_forget.2.1 q.1 = .ok q.2 := by decide +kernel
def b_X0_forget_3 (n : Nat) (t j : Nat) (K3 : Int32 → Int32 → Int32 → qM → qR) (a2 a3 a4 : Int32) (M : qM) : qR :=
  (if (12 : Int32) ≤ a4 then some (0, M) else ql ((a2 * (12 : Int32)) + a4) (fun x1 => (if ((a3 >>> (a4 &&& 31)) &&& (1 : Int32)) = (1 : Int32) then qg x1 96 ((if (M (t + 2) x1.toNatClampNeg) ≤ (0 : Int32) then ql (a4 + (1 : Int32)) (fun x3 => K3 a2 a3 x3 M) else qc (f_X0_tellAll n t a2 a4 (8 : Int32) M) (fun _ m4 => qc (f_X1_amount n j (102 : Int32) (999 : Int32) (0 : Int32) m4) (fun r5 m6 => (if r5 ≤ (0 : Int32) then ql (a4 + (1 : Int32)) (fun x7 => K3 a2 a3 x7 m6) else qg x1 96 ((if ((m6 t 9) - (m6 (t + 3) x1.toNatClampNeg)) < r5 then ql (a4 + (1 : Int32)) (fun x8 => K3 a2 a3 x8 m6) else qg x1 96 (qlm (mu m6 (t + 2) x1.toNatClampNeg (0 : Int32)) (fun m9 => ql (a4 + (1 : Int32)) (fun x10 => K3 a2 a3 x10 m9)))))))))) else ql (a4 + (1 : Int32)) (fun x2 => K3 a2 a3 x2 M))))
set_option maxRecDepth 4000 in
theorem wb_X0_forget_3 {g : qG} {k : qK} (n : Nat) (j r : Nat) (hj : q_isLaw j) (hr : q_isLaw r) {t : Nat} (ht : q_isTown t) (o : qOk g 3 zX0_forget k) (K3 : Int32 → Int32 → Int32 → qM → qR) (hK3 : ∀ (a2 a3 a4 : Int32) (M : qM), qAE g k zX0_forget (qL j r) 3 [some (.inr (some 44)), some (.inr (some t)), some (.inl a2), some (.inl a3), some (.inl a4), none, none] [] (qL j r, M) (K3 a2 a3 a4 M)) (a2 a3 a4 : Int32) (M : qM) : qAE g k zX0_forget (qL j r) 3 [some (.inr (some 44)), some (.inr (some t)), some (.inl a2), some (.inl a3), some (.inl a4), none, none] [] (qL j r, M) (b_X0_forget_3 n t j K3 a2 a3 a4 M) := by
  unfold b_X0_forget_3
  refine qr_iload o (q_dm dm_X0_forget 2 rfl) rfl ?_
  refine qr_bipush o (q_dm dm_X0_forget 3 rfl) bi_12 ?_
  refine qr_icmp_ge (tgt := 100) o (q_dm dm_X0_forget 4 rfl) (by decide) ?_ ?_
  · exact qr_vret o rfl (q_dm dm_X0_forget 54 rfl)
  · refine qr_iload_n o (q_dm dm_X0_forget 5 rfl) rfl ?_
    refine qr_bipush o (q_dm dm_X0_forget 6 rfl) bi_12 ?_
    refine qr_imul o (q_dm dm_X0_forget 7 rfl) ?_
    refine qr_iload o (q_dm dm_X0_forget 8 rfl) rfl ?_
    refine qr_iadd o (q_dm dm_X0_forget 9 rfl) ?_
    refine qr_lt (fun x1 => ?_)
    refine qs_istore (L' := [some (.inr (some 44)), some (.inr (some t)), some (.inl a2), some (.inl a3), some (.inl a4), some (.inl x1), none]) o (q_dm dm_X0_forget 10 rfl) (Nat.le_of_ble_eq_true rfl) rfl ?_
    refine qr_iload_n o (q_dm dm_X0_forget 11 rfl) rfl ?_
    refine qr_iload o (q_dm dm_X0_forget 12 rfl) rfl ?_
    refine qr_ishr o (q_dm dm_X0_forget 13 rfl) ?_
    refine qr_iconst o (q_dm dm_X0_forget 14 rfl) ic_1 ?_
    refine qr_iand o (q_dm dm_X0_forget 15 rfl) ?_
    refine qr_iconst o (q_dm dm_X0_forget 16 rfl) ic_1 ?_
    refine qr_icmp_ne (tgt := 94) o (q_dm dm_X0_forget 17 rfl) (by decide) ?_ ?_
    · refine qs_iincl2 (L' := fun x2 => [some (.inr (some 44)), some (.inr (some t)), some (.inl a2), some (.inl a3), some (.inl x2), some (.inl x1), none]) o (q_dm dm_X0_forget 52 rfl) rfl ic_1 (Nat.le_of_ble_eq_true rfl) (fun _ => rfl) (fun x2 => ?_)
      refine qr_goto (tgt := 3) o (q_dm dm_X0_forget 53 rfl) (by decide) ?_
      exact qr_loc (q_leS (q_leS (q_leS (q_leS (q_leS (q_leN (q_leN q_le0))))))) (hK3 a2 a3 x2 M)
    · refine qr_aload_n o (q_dm dm_X0_forget 18 rfl) rfl ?_
      refine qr_getr (kf := 1) o cf_X10 (shT0 j r ht) rfl (Nat.le_of_ble_eq_true rfl) fl_X0_73 (q_dm dm_X0_forget 19 rfl) ?_
      refine qr_iload o (q_dm dm_X0_forget 20 rfl) rfl ?_
      refine qr_iald o (shT2 j r ht) (q_dm dm_X0_forget 21 rfl) ?_
      refine qr_if_le (tgt := 94) o (q_dm dm_X0_forget 22 rfl) (by decide) ?_ ?_
      · refine qs_iincl2 (L' := fun x3 => [some (.inr (some 44)), some (.inr (some t)), some (.inl a2), some (.inl a3), some (.inl x3), some (.inl x1), none]) o (q_dm dm_X0_forget 52 rfl) rfl ic_1 (Nat.le_of_ble_eq_true rfl) (fun _ => rfl) (fun x3 => ?_)
        refine qr_goto (tgt := 3) o (q_dm dm_X0_forget 53 rfl) (by decide) ?_
        exact qr_loc (q_leS (q_leS (q_leS (q_leS (q_leS (q_leN (q_leN q_le0))))))) (hK3 a2 a3 x3 M)
      · refine qr_aload_n o (q_dm dm_X0_forget 23 rfl) rfl ?_
        refine qr_aload_n o (q_dm dm_X0_forget 24 rfl) rfl ?_
        refine qr_iload_n o (q_dm dm_X0_forget 25 rfl) rfl ?_
        refine qr_iload o (q_dm dm_X0_forget 26 rfl) rfl ?_
        refine qr_bipush o (q_dm dm_X0_forget 27 rfl) bi_8 ?_
        refine qr_callv_v (As := [.inr (some t), .inl a2, .inl a4, .inl (8 : Int32)]) (S := []) o (a_X0_tellAll g k.2.1 n j r hj hr ht a2 a4 (8 : Int32) M) (Nat.le_of_ble_eq_true rfl) zv_X0_tellAll rfl cf_X0 (sh44 j r) ml_X0_41 (Nat.le_of_ble_eq_true rfl) (q_dm dm_X0_forget 28 rfl) (fun _ m4 => ?_)
        refine qr_aload_n o (q_dm dm_X0_forget 29 rfl) rfl ?_
        refine qr_getr (kf := 1) o cf_X0 (sh44 j r) rfl (Nat.le_of_ble_eq_true rfl) fl_X0_15 (q_dm dm_X0_forget 30 rfl) ?_
        refine qr_bipush o (q_dm dm_X0_forget 31 rfl) bi_102 ?_
        refine qr_sipush o (q_dm dm_X0_forget 32 rfl) si_999 ?_
        refine qr_iconst o (q_dm dm_X0_forget 33 rfl) ic_0 ?_
        refine qr_callv_i (As := [.inl (102 : Int32), .inl (999 : Int32), .inl (0 : Int32)]) (S := []) o (a_X1_amount g k.2.1 n j r hj hr (102 : Int32) (999 : Int32) (0 : Int32) m4) (Nat.le_of_ble_eq_true rfl) zv_X1_amount rfl cf_X1 (sh34 j r) ml_X0_69 (Nat.le_of_ble_eq_true rfl) (q_dm dm_X0_forget 34 rfl) (fun r5 m6 => ?_)
        refine qs_istore (L' := [some (.inr (some 44)), some (.inr (some t)), some (.inl a2), some (.inl a3), some (.inl a4), some (.inl x1), some (.inl r5)]) o (q_dm dm_X0_forget 35 rfl) (Nat.le_of_ble_eq_true rfl) rfl ?_
        refine qr_iload o (q_dm dm_X0_forget 36 rfl) rfl ?_
        refine qr_if_le (tgt := 94) o (q_dm dm_X0_forget 37 rfl) (by decide) ?_ ?_
        · refine qs_iincl2 (L' := fun x7 => [some (.inr (some 44)), some (.inr (some t)), some (.inl a2), some (.inl a3), some (.inl x7), some (.inl x1), some (.inl r5)]) o (q_dm dm_X0_forget 52 rfl) rfl ic_1 (Nat.le_of_ble_eq_true rfl) (fun _ => rfl) (fun x7 => ?_)
          refine qr_goto (tgt := 3) o (q_dm dm_X0_forget 53 rfl) (by decide) ?_
          exact qr_loc (q_leS (q_leS (q_leS (q_leS (q_leS (q_leN (q_leN q_le0))))))) (hK3 a2 a3 x7 m6)
        · refine qr_aload_n o (q_dm dm_X0_forget 38 rfl) rfl ?_
          refine qr_getf (kf := 9) o cf_X10 (shT0 j r ht) rfl (Nat.le_of_ble_eq_true rfl) fl_X0_19 (q_dm dm_X0_forget 39 rfl) ?_
          refine qr_aload_n o (q_dm dm_X0_forget 40 rfl) rfl ?_
          refine qr_getr (kf := 2) o cf_X10 (shT0 j r ht) rfl (Nat.le_of_ble_eq_true rfl) fl_X0_138 (q_dm dm_X0_forget 41 rfl) ?_
          refine qr_iload o (q_dm dm_X0_forget 42 rfl) rfl ?_
          refine qr_iald o (shT3 j r ht) (q_dm dm_X0_forget 43 rfl) ?_
          refine qr_isub o (q_dm dm_X0_forget 44 rfl) ?_
          refine qr_iload o (q_dm dm_X0_forget 45 rfl) rfl ?_
          refine qr_icmp_lt (tgt := 94) o (q_dm dm_X0_forget 46 rfl) (by decide) ?_ ?_
          · refine qs_iincl2 (L' := fun x8 => [some (.inr (some 44)), some (.inr (some t)), some (.inl a2), some (.inl a3), some (.inl x8), some (.inl x1), some (.inl r5)]) o (q_dm dm_X0_forget 52 rfl) rfl ic_1 (Nat.le_of_ble_eq_true rfl) (fun _ => rfl) (fun x8 => ?_)
            refine qr_goto (tgt := 3) o (q_dm dm_X0_forget 53 rfl) (by decide) ?_
            exact qr_loc (q_leS (q_leS (q_leS (q_leS (q_leS (q_leN (q_leN q_le0))))))) (hK3 a2 a3 x8 m6)
          · refine qr_aload_n o (q_dm dm_X0_forget 47 rfl) rfl ?_
            refine qr_getr (kf := 1) o cf_X10 (shT0 j r ht) rfl (Nat.le_of_ble_eq_true rfl) fl_X0_73 (q_dm dm_X0_forget 48 rfl) ?_
            refine qr_iload o (q_dm dm_X0_forget 49 rfl) rfl ?_
            refine qr_iconst o (q_dm dm_X0_forget 50 rfl) ic_0 ?_
            refine qr_iast o (shT2 j r ht) (q_dm dm_X0_forget 51 rfl) ?_
            refine qr_letm (fun m9 => ?_)
            refine qs_iincl2 (L' := fun x10 => [some (.inr (some 44)), some (.inr (some t)), some (.inl a2), some (.inl a3), some (.inl x10), some (.inl x1), some (.inl r5)]) o (q_dm dm_X0_forget 52 rfl) rfl ic_1 (Nat.le_of_ble_eq_true rfl) (fun _ => rfl) (fun x10 => ?_)
            refine qr_goto (tgt := 3) o (q_dm dm_X0_forget 53 rfl) (by decide) ?_
            exact qr_loc (q_leS (q_leS (q_leS (q_leS (q_leS (q_leN (q_leN q_le0))))))) (hK3 a2 a3 x10 m9)

def f_X0_forget_3 (n : Nat) (t j : Nat) : Nat → Int32 → Int32 → Int32 → qM → qR
  | 0, _, _, _, _ => none
  | m + 1, a2, a3, a4, M => b_X0_forget_3 n t j (f_X0_forget_3 n t j m) a2 a3 a4 M
theorem w_X0_forget_3 {g : qG} {k : qK} (n : Nat) (j r : Nat) (hj : q_isLaw j) (hr : q_isLaw r) {t : Nat} (ht : q_isTown t) (o : qOk g 3 zX0_forget k) : ∀ (m : Nat) (a2 a3 a4 : Int32) (M : qM), qAE g k zX0_forget (qL j r) 3 [some (.inr (some 44)), some (.inr (some t)), some (.inl a2), some (.inl a3), some (.inl a4), none, none] [] (qL j r, M) (f_X0_forget_3 n t j m a2 a3 a4 M) := by
  intro m
  induction m with
  | zero =>
    intro a2 a3 a4 M
    exact qr_none
  | succ m ih =>
    intro a2 a3 a4 M
    exact wb_X0_forget_3 n j r hj hr ht o (f_X0_forget_3 n t j m) ih a2 a3 a4 M
def f_X0_forget (n : Nat) (t j : Nat) (a2 a3 : Int32) (M : qM) : qR :=
  f_X0_forget_3 n t j n a2 a3 (0 : Int32) M
set_option maxRecDepth 4000 in
theorem w_X0_forget {g : qG} {k : qK} (n : Nat) (j r : Nat) (hj : q_isLaw j) (hr : q_isLaw r) {t : Nat} (ht : q_isTown t) (o : qOk g 3 zX0_forget k) (a2 a3 : Int32) (M : qM) : qAE g k zX0_forget (qL j r) 0 [some (.inr (some 44)), some (.inr (some t)), some (.inl a2), some (.inl a3), none, none, none] [] (qL j r, M) (f_X0_forget n t j a2 a3 M) := by
  unfold f_X0_forget
  refine qr_iconst o (q_dm dm_X0_forget 0 rfl) ic_0 ?_
  refine qs_istore (L' := [some (.inr (some 44)), some (.inr (some t)), some (.inl a2), some (.inl a3), some (.inl (0 : Int32)), none, none]) o (q_dm dm_X0_forget 1 rfl) (Nat.le_of_ble_eq_true rfl) rfl ?_
  exact qr_loc (q_leS (q_leS (q_leS (q_leS (q_leS (q_leN (q_leN q_le0))))))) (w_X0_forget_3 n j r hj hr ht o n a2 a3 (0 : Int32) M)

theorem a_X0_forget (g : qG) (l : Launch) (n : Nat) (j r : Nat) (hj : q_isLaw j) (hr : q_isLaw r) {t : Nat} (ht : q_isTown t) (a2 a3 : Int32) (M : qM) : qAM g l 3 zX0_forget (qL j r) [.inr (some 44), .inr (some t), .inl a2, .inl a3] (qL j r, M) (f_X0_forget n t j a2 a3 M) :=
  qAM.of zv_X0_forget.1 (by show 4 ≤ 7; decide) (fun k hk o => w_X0_forget n j r hj hr ht o a2 a3 M)
def tb_X10_addCounted : List (Nat × Instr × Nat) := [(0, (.iload_n 1, 1)), (1, (.bipush 12, 2)), (3, (.imul, 1)), (4, (.iload_n 2, 1)), (5, (.iadd, 1)), (6, (.istore_n 3, 1)), (7, (.aload_n 0, 1)), (8, (.getfield 21, 3)), (11, (.iload_n 3, 1)), (12, (.sipush 999, 3)), (15, (.aload_n 0, 1)), (16, (.getfield 21, 3)), (19, (.iload_n 3, 1)), (20, (.iaload, 1)), (21, (.iconst 1, 1)), (22, (.iadd, 1)), (23, (.invokestatic 55, 3)), (26, (.iastore, 1)), (27, (.return_, 1))]
theorem dm_X10_addCounted : ∀ q ∈ tb_X10_addCounted, decode zX10_addCounted.2.1 q.1 = .ok q.2 := by decide +kernel
def f_X10_addCounted (n : Nat) (t : Nat) (a1 a2 : Int32) (M : qM) : qR :=
  ql ((a1 * (12 : Int32)) + a2) (fun x1 => qg x1 96 (qg x1 96 (qlm (mu M (t + 4) x1.toNatClampNeg (qmin (999 : Int32) ((M (t + 4) x1.toNatClampNeg) + (1 : Int32)))) (fun m2 => some (0, m2)))))
set_option maxRecDepth 4000 in
theorem w_X10_addCounted {g : qG} {k : qK} (n : Nat) (j r : Nat) (hj : q_isLaw j) (hr : q_isLaw r) {t : Nat} (ht : q_isTown t) (o : qOk g 1 zX10_addCounted k) (a1 a2 : Int32) (M : qM) : qAE g k zX10_addCounted (qL j r) 0 [some (.inr (some t)), some (.inl a1), some (.inl a2), none] [] (qL j r, M) (f_X10_addCounted n t a1 a2 M) := by
  unfold f_X10_addCounted
  refine qr_iload_n o (q_dm dm_X10_addCounted 0 rfl) rfl ?_
  refine qr_bipush o (q_dm dm_X10_addCounted 1 rfl) bi_12 ?_
  refine qr_imul o (q_dm dm_X10_addCounted 2 rfl) ?_
  refine qr_iload_n o (q_dm dm_X10_addCounted 3 rfl) rfl ?_
  refine qr_iadd o (q_dm dm_X10_addCounted 4 rfl) ?_
  refine qr_lt (fun x1 => ?_)
  refine qs_istore_n (L' := [some (.inr (some t)), some (.inl a1), some (.inl a2), some (.inl x1)]) o (q_dm dm_X10_addCounted 5 rfl) (Nat.le_of_ble_eq_true rfl) rfl ?_
  refine qr_aload_n o (q_dm dm_X10_addCounted 6 rfl) rfl ?_
  refine qr_getr (kf := 3) o cf_X10 (shT0 j r ht) rfl (Nat.le_of_ble_eq_true rfl) fl_X10_21 (q_dm dm_X10_addCounted 7 rfl) ?_
  refine qr_iload_n o (q_dm dm_X10_addCounted 8 rfl) rfl ?_
  refine qr_sipush o (q_dm dm_X10_addCounted 9 rfl) si_999 ?_
  refine qr_aload_n o (q_dm dm_X10_addCounted 10 rfl) rfl ?_
  refine qr_getr (kf := 3) o cf_X10 (shT0 j r ht) rfl (Nat.le_of_ble_eq_true rfl) fl_X10_21 (q_dm dm_X10_addCounted 11 rfl) ?_
  refine qr_iload_n o (q_dm dm_X10_addCounted 12 rfl) rfl ?_
  refine qr_iald o (shT4 j r ht) (q_dm dm_X10_addCounted 13 rfl) ?_
  refine qr_iconst o (q_dm dm_X10_addCounted 14 rfl) ic_1 ?_
  refine qr_iadd o (q_dm dm_X10_addCounted 15 rfl) ?_
  refine qr_min o ml_X10_55 (by omega) (Nat.le_of_ble_eq_true rfl) (q_dm dm_X10_addCounted 16 rfl) ?_
  refine qr_iast o (shT4 j r ht) (q_dm dm_X10_addCounted 17 rfl) ?_
  refine qr_letm (fun m2 => ?_)
  exact qr_vret o rfl (q_dm dm_X10_addCounted 18 rfl)

theorem a_X10_addCounted (g : qG) (l : Launch) (n : Nat) (j r : Nat) (hj : q_isLaw j) (hr : q_isLaw r) {t : Nat} (ht : q_isTown t) (a1 a2 : Int32) (M : qM) : qAM g l 1 zX10_addCounted (qL j r) [.inr (some t), .inl a1, .inl a2] (qL j r, M) (f_X10_addCounted n t a1 a2 M) :=
  qAM.of zv_X10_addCounted.1 (by show 3 ≤ 4; decide) (fun k hk o => w_X10_addCounted n j r hj hr ht o a1 a2 M)

def tb_X10_addTry : List (Nat × Instr × Nat) := [(0, (.iload_n 1, 1)), (1, (.bipush 12, 2)), (3, (.imul, 1)), (4, (.iload_n 2, 1)), (5, (.iadd, 1)), (6, (.istore_n 3, 1)), (7, (.aload_n 0, 1)), (8, (.getfield 15, 3)), (11, (.iload_n 3, 1)), (12, (.sipush 999, 3)), (15, (.aload_n 0, 1)), (16, (.getfield 15, 3)), (19, (.iload_n 3, 1)), (20, (.iaload, 1)), (21, (.iconst 1, 1)), (22, (.iadd, 1)), (23, (.invokestatic 55, 3)), (26, (.iastore, 1)), (27, (.aload_n 0, 1)), (28, (.getfield 18, 3)), (31, (.iload_n 3, 1)), (32, (.aload_n 0, 1)), (33, (.getfield 46, 3)), (36, (.iastore, 1)), (37, (.return_, 1))]
theorem dm_X10_addTry : ∀ q ∈ tb_X10_addTry, decode zX10_addTry.2.1 q.1 = .ok q.2 := by decide +kernel
def f_X10_addTry (n : Nat) (t : Nat) (a1 a2 : Int32) (M : qM) : qR :=
  ql ((a1 * (12 : Int32)) + a2) (fun x1 => qg x1 96 (qg x1 96 (qlm (mu M (t + 2) x1.toNatClampNeg (qmin (999 : Int32) ((M (t + 2) x1.toNatClampNeg) + (1 : Int32)))) (fun m2 => qg x1 96 (qlm (mu m2 (t + 3) x1.toNatClampNeg (m2 t 9)) (fun m3 => some (0, m3)))))))
set_option maxRecDepth 4000 in
theorem w_X10_addTry {g : qG} {k : qK} (n : Nat) (j r : Nat) (hj : q_isLaw j) (hr : q_isLaw r) {t : Nat} (ht : q_isTown t) (o : qOk g 1 zX10_addTry k) (a1 a2 : Int32) (M : qM) : qAE g k zX10_addTry (qL j r) 0 [some (.inr (some t)), some (.inl a1), some (.inl a2), none] [] (qL j r, M) (f_X10_addTry n t a1 a2 M) := by
  unfold f_X10_addTry
  refine qr_iload_n o (q_dm dm_X10_addTry 0 rfl) rfl ?_
  refine qr_bipush o (q_dm dm_X10_addTry 1 rfl) bi_12 ?_
  refine qr_imul o (q_dm dm_X10_addTry 2 rfl) ?_
  refine qr_iload_n o (q_dm dm_X10_addTry 3 rfl) rfl ?_
  refine qr_iadd o (q_dm dm_X10_addTry 4 rfl) ?_
  refine qr_lt (fun x1 => ?_)
  refine qs_istore_n (L' := [some (.inr (some t)), some (.inl a1), some (.inl a2), some (.inl x1)]) o (q_dm dm_X10_addTry 5 rfl) (Nat.le_of_ble_eq_true rfl) rfl ?_
  refine qr_aload_n o (q_dm dm_X10_addTry 6 rfl) rfl ?_
  refine qr_getr (kf := 1) o cf_X10 (shT0 j r ht) rfl (Nat.le_of_ble_eq_true rfl) fl_X10_15 (q_dm dm_X10_addTry 7 rfl) ?_
  refine qr_iload_n o (q_dm dm_X10_addTry 8 rfl) rfl ?_
  refine qr_sipush o (q_dm dm_X10_addTry 9 rfl) si_999 ?_
  refine qr_aload_n o (q_dm dm_X10_addTry 10 rfl) rfl ?_
  refine qr_getr (kf := 1) o cf_X10 (shT0 j r ht) rfl (Nat.le_of_ble_eq_true rfl) fl_X10_15 (q_dm dm_X10_addTry 11 rfl) ?_
  refine qr_iload_n o (q_dm dm_X10_addTry 12 rfl) rfl ?_
  refine qr_iald o (shT2 j r ht) (q_dm dm_X10_addTry 13 rfl) ?_
  refine qr_iconst o (q_dm dm_X10_addTry 14 rfl) ic_1 ?_
  refine qr_iadd o (q_dm dm_X10_addTry 15 rfl) ?_
  refine qr_min o ml_X10_55 (by omega) (Nat.le_of_ble_eq_true rfl) (q_dm dm_X10_addTry 16 rfl) ?_
  refine qr_iast o (shT2 j r ht) (q_dm dm_X10_addTry 17 rfl) ?_
  refine qr_letm (fun m2 => ?_)
  refine qr_aload_n o (q_dm dm_X10_addTry 18 rfl) rfl ?_
  refine qr_getr (kf := 2) o cf_X10 (shT0 j r ht) rfl (Nat.le_of_ble_eq_true rfl) fl_X10_18 (q_dm dm_X10_addTry 19 rfl) ?_
  refine qr_iload_n o (q_dm dm_X10_addTry 20 rfl) rfl ?_
  refine qr_aload_n o (q_dm dm_X10_addTry 21 rfl) rfl ?_
  refine qr_getf (kf := 9) o cf_X10 (shT0 j r ht) rfl (Nat.le_of_ble_eq_true rfl) fl_X10_46 (q_dm dm_X10_addTry 22 rfl) ?_
  refine qr_iast o (shT3 j r ht) (q_dm dm_X10_addTry 23 rfl) ?_
  refine qr_letm (fun m3 => ?_)
  exact qr_vret o rfl (q_dm dm_X10_addTry 24 rfl)

theorem a_X10_addTry (g : qG) (l : Launch) (n : Nat) (j r : Nat) (hj : q_isLaw j) (hr : q_isLaw r) {t : Nat} (ht : q_isTown t) (a1 a2 : Int32) (M : qM) : qAM g l 1 zX10_addTry (qL j r) [.inr (some t), .inl a1, .inl a2] (qL j r, M) (f_X10_addTry n t a1 a2 M) :=
  qAM.of zv_X10_addTry.1 (by show 3 ≤ 4; decide) (fun k hk o => w_X10_addTry n j r hj hr ht o a1 a2 M)
def tb_X10_hasCounted : List (Nat × Instr × Nat) := [(0, (.iconst 0, 1)), (1, (.istore_n 3, 1)), (2, (.iload_n 3, 1)), (3, (.bipush 12, 2)), (5, (.if_icmp .ge 34, 3)), (8, (.iload_n 2, 1)), (9, (.iload_n 3, 1)), (10, (.ishr, 1)), (11, (.iconst 1, 1)), (12, (.iand, 1)), (13, (.iconst 1, 1)), (14, (.if_icmp .ne 19, 3)), (17, (.aload_n 0, 1)), (18, (.getfield 21, 3)), (21, (.iload_n 1, 1)), (22, (.bipush 12, 2)), (24, (.imul, 1)), (25, (.iload_n 3, 1)), (26, (.iadd, 1)), (27, (.iaload, 1)), (28, (.ifCond .ne 5, 3)), (31, (.iconst 0, 1)), (32, (.ireturn, 1)), (33, (.iinc 3 1, 3)), (36, (.goto (-34), 3)), (39, (.iconst 1, 1)), (40, (.ireturn, 1))]
theorem dm_X10_hasCounted : ∀ q ∈ tb_X10_hasCounted, decode zX10_hasCounted.2.1 q.1 = .ok q.2 := by decide +kernel
def b_X10_hasCounted_2 (n : Nat) (t : Nat) (K2 : Int32 → Int32 → Int32 → qM → qR) (a1 a2 a3 : Int32) (M : qM) : qR :=
  (if (12 : Int32) ≤ a3 then some ((1 : Int32), M) else (if ((a2 >>> (a3 &&& 31)) &&& (1 : Int32)) = (1 : Int32) then qg ((a1 * (12 : Int32)) + a3) 96 ((if (M (t + 4) ((a1 * (12 : Int32)) + a3).toNatClampNeg) = (0 : Int32) then some ((0 : Int32), M) else ql (a3 + (1 : Int32)) (fun x2 => K2 a1 a2 x2 M))) else ql (a3 + (1 : Int32)) (fun x1 => K2 a1 a2 x1 M)))
set_option maxRecDepth 4000 in
theorem wb_X10_hasCounted_2 {g : qG} {k : qK} (n : Nat) (j r : Nat) (hj : q_isLaw j) (hr : q_isLaw r) {t : Nat} (ht : q_isTown t) (o : qOk g 0 zX10_hasCounted k) (K2 : Int32 → Int32 → Int32 → qM → qR) (hK2 : ∀ (a1 a2 a3 : Int32) (M : qM), qAE g k zX10_hasCounted (qL j r) 2 [some (.inr (some t)), some (.inl a1), some (.inl a2), some (.inl a3)] [] (qL j r, M) (K2 a1 a2 a3 M)) (a1 a2 a3 : Int32) (M : qM) : qAE g k zX10_hasCounted (qL j r) 2 [some (.inr (some t)), some (.inl a1), some (.inl a2), some (.inl a3)] [] (qL j r, M) (b_X10_hasCounted_2 n t K2 a1 a2 a3 M) := by
  unfold b_X10_hasCounted_2
  refine qr_iload_n o (q_dm dm_X10_hasCounted 2 rfl) rfl ?_
  refine qr_bipush o (q_dm dm_X10_hasCounted 3 rfl) bi_12 ?_
  refine qr_icmp_ge (tgt := 39) o (q_dm dm_X10_hasCounted 4 rfl) (by decide) ?_ ?_
  · refine qr_iconst o (q_dm dm_X10_hasCounted 25 rfl) ic_1 ?_
    exact qr_iret o rfl (by decide) (q_dm dm_X10_hasCounted 26 rfl)
  · refine qr_iload_n o (q_dm dm_X10_hasCounted 5 rfl) rfl ?_
    refine qr_iload_n o (q_dm dm_X10_hasCounted 6 rfl) rfl ?_
    refine qr_ishr o (q_dm dm_X10_hasCounted 7 rfl) ?_
    refine qr_iconst o (q_dm dm_X10_hasCounted 8 rfl) ic_1 ?_
    refine qr_iand o (q_dm dm_X10_hasCounted 9 rfl) ?_
    refine qr_iconst o (q_dm dm_X10_hasCounted 10 rfl) ic_1 ?_
    refine qr_icmp_ne (tgt := 33) o (q_dm dm_X10_hasCounted 11 rfl) (by decide) ?_ ?_
    · refine qs_iincl2 (L' := fun x1 => [some (.inr (some t)), some (.inl a1), some (.inl a2), some (.inl x1)]) o (q_dm dm_X10_hasCounted 23 rfl) rfl ic_1 (Nat.le_of_ble_eq_true rfl) (fun _ => rfl) (fun x1 => ?_)
      refine qr_goto (tgt := 2) o (q_dm dm_X10_hasCounted 24 rfl) (by decide) ?_
      exact qr_loc (q_leS (q_leS (q_leS (q_leS q_le0)))) (hK2 a1 a2 x1 M)
    · refine qr_aload_n o (q_dm dm_X10_hasCounted 12 rfl) rfl ?_
      refine qr_getr (kf := 3) o cf_X10 (shT0 j r ht) rfl (Nat.le_of_ble_eq_true rfl) fl_X10_21 (q_dm dm_X10_hasCounted 13 rfl) ?_
      refine qr_iload_n o (q_dm dm_X10_hasCounted 14 rfl) rfl ?_
      refine qr_bipush o (q_dm dm_X10_hasCounted 15 rfl) bi_12 ?_
      refine qr_imul o (q_dm dm_X10_hasCounted 16 rfl) ?_
      refine qr_iload_n o (q_dm dm_X10_hasCounted 17 rfl) rfl ?_
      refine qr_iadd o (q_dm dm_X10_hasCounted 18 rfl) ?_
      refine qr_iald o (shT4 j r ht) (q_dm dm_X10_hasCounted 19 rfl) ?_
      refine qr_if_ne (tgt := 33) o (q_dm dm_X10_hasCounted 20 rfl) (by decide) ?_ ?_
      · refine qs_iincl2 (L' := fun x2 => [some (.inr (some t)), some (.inl a1), some (.inl a2), some (.inl x2)]) o (q_dm dm_X10_hasCounted 23 rfl) rfl ic_1 (Nat.le_of_ble_eq_true rfl) (fun _ => rfl) (fun x2 => ?_)
        refine qr_goto (tgt := 2) o (q_dm dm_X10_hasCounted 24 rfl) (by decide) ?_
        exact qr_loc (q_leS (q_leS (q_leS (q_leS q_le0)))) (hK2 a1 a2 x2 M)
      · refine qr_iconst o (q_dm dm_X10_hasCounted 21 rfl) ic_0 ?_
        exact qr_iret o rfl (by decide) (q_dm dm_X10_hasCounted 22 rfl)

def f_X10_hasCounted_2 (n : Nat) (t : Nat) : Nat → Int32 → Int32 → Int32 → qM → qR
  | 0, _, _, _, _ => none
  | m + 1, a1, a2, a3, M => b_X10_hasCounted_2 n t (f_X10_hasCounted_2 n t m) a1 a2 a3 M
theorem w_X10_hasCounted_2 {g : qG} {k : qK} (n : Nat) (j r : Nat) (hj : q_isLaw j) (hr : q_isLaw r) {t : Nat} (ht : q_isTown t) (o : qOk g 0 zX10_hasCounted k) : ∀ (m : Nat) (a1 a2 a3 : Int32) (M : qM), qAE g k zX10_hasCounted (qL j r) 2 [some (.inr (some t)), some (.inl a1), some (.inl a2), some (.inl a3)] [] (qL j r, M) (f_X10_hasCounted_2 n t m a1 a2 a3 M) := by
  intro m
  induction m with
  | zero =>
    intro a1 a2 a3 M
    exact qr_none
  | succ m ih =>
    intro a1 a2 a3 M
    exact wb_X10_hasCounted_2 n j r hj hr ht o (f_X10_hasCounted_2 n t m) ih a1 a2 a3 M
def f_X10_hasCounted (n : Nat) (t : Nat) (a1 a2 : Int32) (M : qM) : qR :=
  f_X10_hasCounted_2 n t n a1 a2 (0 : Int32) M
set_option maxRecDepth 4000 in
theorem w_X10_hasCounted {g : qG} {k : qK} (n : Nat) (j r : Nat) (hj : q_isLaw j) (hr : q_isLaw r) {t : Nat} (ht : q_isTown t) (o : qOk g 0 zX10_hasCounted k) (a1 a2 : Int32) (M : qM) : qAE g k zX10_hasCounted (qL j r) 0 [some (.inr (some t)), some (.inl a1), some (.inl a2), none] [] (qL j r, M) (f_X10_hasCounted n t a1 a2 M) := by
  unfold f_X10_hasCounted
  refine qr_iconst o (q_dm dm_X10_hasCounted 0 rfl) ic_0 ?_
  refine qs_istore_n (L' := [some (.inr (some t)), some (.inl a1), some (.inl a2), some (.inl (0 : Int32))]) o (q_dm dm_X10_hasCounted 1 rfl) (Nat.le_of_ble_eq_true rfl) rfl ?_
  exact qr_loc (q_leS (q_leS (q_leS (q_leS q_le0)))) (w_X10_hasCounted_2 n j r hj hr ht o n a1 a2 (0 : Int32) M)

theorem a_X10_hasCounted (g : qG) (l : Launch) (n : Nat) (j r : Nat) (hj : q_isLaw j) (hr : q_isLaw r) {t : Nat} (ht : q_isTown t) (a1 a2 : Int32) (M : qM) : qAM g l 0 zX10_hasCounted (qL j r) [.inr (some t), .inl a1, .inl a2] (qL j r, M) (f_X10_hasCounted n t a1 a2 M) :=
  qAM.of zv_X10_hasCounted.1 (by show 3 ≤ 4; decide) (fun k hk o => w_X10_hasCounted n j r hj hr ht o a1 a2 M)
def tb_X10_triesAmong : List (Nat × Instr × Nat) := [(0, (.iconst 0, 1)), (1, (.istore_n 3, 1)), (2, (.iconst 0, 1)), (3, (.istore 4, 2)), (5, (.iload 4, 2)), (7, (.bipush 12, 2)), (9, (.if_icmp .ge 34, 3)), (12, (.iload_n 2, 1)), (13, (.iload 4, 2)), (15, (.ishr, 1)), (16, (.iconst 1, 1)), (17, (.iand, 1)), (18, (.iconst 1, 1)), (19, (.if_icmp .ne 18, 3)), (22, (.iload_n 3, 1)), (23, (.aload_n 0, 1)), (24, (.getfield 15, 3)), (27, (.iload_n 1, 1)), (28, (.bipush 12, 2)), (30, (.imul, 1)), (31, (.iload 4, 2)), (33, (.iadd, 1)), (34, (.iaload, 1)), (35, (.iadd, 1)), (36, (.istore_n 3, 1)), (37, (.iinc 4 1, 3)), (40, (.goto (-35), 3)), (43, (.iload_n 3, 1)), (44, (.ireturn, 1))]
theorem dm_X10_triesAmong : ∀ q ∈ tb_X10_triesAmong, decode zX10_triesAmong.2.1 q.1 = .ok q.2 := by decide +kernel
def b_X10_triesAmong_5 (n : Nat) (t : Nat) (K5 : Int32 → Int32 → Int32 → Int32 → qM → qR) (a1 a2 a3 a4 : Int32) (M : qM) : qR :=
  (if (12 : Int32) ≤ a4 then some (a3, M) else (if ((a2 >>> (a4 &&& 31)) &&& (1 : Int32)) = (1 : Int32) then qg ((a1 * (12 : Int32)) + a4) 96 (ql (a3 + (M (t + 2) ((a1 * (12 : Int32)) + a4).toNatClampNeg)) (fun x2 => ql (a4 + (1 : Int32)) (fun x3 => K5 a1 a2 x2 x3 M))) else ql (a4 + (1 : Int32)) (fun x1 => K5 a1 a2 a3 x1 M)))
set_option maxRecDepth 4000 in
theorem wb_X10_triesAmong_5 {g : qG} {k : qK} (n : Nat) (j r : Nat) (hj : q_isLaw j) (hr : q_isLaw r) {t : Nat} (ht : q_isTown t) (o : qOk g 0 zX10_triesAmong k) (K5 : Int32 → Int32 → Int32 → Int32 → qM → qR) (hK5 : ∀ (a1 a2 a3 a4 : Int32) (M : qM), qAE g k zX10_triesAmong (qL j r) 5 [some (.inr (some t)), some (.inl a1), some (.inl a2), some (.inl a3), some (.inl a4)] [] (qL j r, M) (K5 a1 a2 a3 a4 M)) (a1 a2 a3 a4 : Int32) (M : qM) : qAE g k zX10_triesAmong (qL j r) 5 [some (.inr (some t)), some (.inl a1), some (.inl a2), some (.inl a3), some (.inl a4)] [] (qL j r, M) (b_X10_triesAmong_5 n t K5 a1 a2 a3 a4 M) := by
  unfold b_X10_triesAmong_5
  refine qr_iload o (q_dm dm_X10_triesAmong 4 rfl) rfl ?_
  refine qr_bipush o (q_dm dm_X10_triesAmong 5 rfl) bi_12 ?_
  refine qr_icmp_ge (tgt := 43) o (q_dm dm_X10_triesAmong 6 rfl) (by decide) ?_ ?_
  · refine qr_iload_n o (q_dm dm_X10_triesAmong 27 rfl) rfl ?_
    exact qr_iret o rfl rfl (q_dm dm_X10_triesAmong 28 rfl)
  · refine qr_iload_n o (q_dm dm_X10_triesAmong 7 rfl) rfl ?_
    refine qr_iload o (q_dm dm_X10_triesAmong 8 rfl) rfl ?_
    refine qr_ishr o (q_dm dm_X10_triesAmong 9 rfl) ?_
    refine qr_iconst o (q_dm dm_X10_triesAmong 10 rfl) ic_1 ?_
    refine qr_iand o (q_dm dm_X10_triesAmong 11 rfl) ?_
    refine qr_iconst o (q_dm dm_X10_triesAmong 12 rfl) ic_1 ?_
    refine qr_icmp_ne (tgt := 37) o (q_dm dm_X10_triesAmong 13 rfl) (by decide) ?_ ?_
    · refine qs_iincl2 (L' := fun x1 => [some (.inr (some t)), some (.inl a1), some (.inl a2), some (.inl a3), some (.inl x1)]) o (q_dm dm_X10_triesAmong 25 rfl) rfl ic_1 (Nat.le_of_ble_eq_true rfl) (fun _ => rfl) (fun x1 => ?_)
      refine qr_goto (tgt := 5) o (q_dm dm_X10_triesAmong 26 rfl) (by decide) ?_
      exact qr_loc (q_leS (q_leS (q_leS (q_leS (q_leS q_le0))))) (hK5 a1 a2 a3 x1 M)
    · refine qr_iload_n o (q_dm dm_X10_triesAmong 14 rfl) rfl ?_
      refine qr_aload_n o (q_dm dm_X10_triesAmong 15 rfl) rfl ?_
      refine qr_getr (kf := 1) o cf_X10 (shT0 j r ht) rfl (Nat.le_of_ble_eq_true rfl) fl_X10_15 (q_dm dm_X10_triesAmong 16 rfl) ?_
      refine qr_iload_n o (q_dm dm_X10_triesAmong 17 rfl) rfl ?_
      refine qr_bipush o (q_dm dm_X10_triesAmong 18 rfl) bi_12 ?_
      refine qr_imul o (q_dm dm_X10_triesAmong 19 rfl) ?_
      refine qr_iload o (q_dm dm_X10_triesAmong 20 rfl) rfl ?_
      refine qr_iadd o (q_dm dm_X10_triesAmong 21 rfl) ?_
      refine qr_iald o (shT2 j r ht) (q_dm dm_X10_triesAmong 22 rfl) ?_
      refine qr_iadd o (q_dm dm_X10_triesAmong 23 rfl) ?_
      refine qr_lt (fun x2 => ?_)
      refine qs_istore_n (L' := [some (.inr (some t)), some (.inl a1), some (.inl a2), some (.inl x2), some (.inl a4)]) o (q_dm dm_X10_triesAmong 24 rfl) (Nat.le_of_ble_eq_true rfl) rfl ?_
      refine qs_iincl2 (L' := fun x3 => [some (.inr (some t)), some (.inl a1), some (.inl a2), some (.inl x2), some (.inl x3)]) o (q_dm dm_X10_triesAmong 25 rfl) rfl ic_1 (Nat.le_of_ble_eq_true rfl) (fun _ => rfl) (fun x3 => ?_)
      refine qr_goto (tgt := 5) o (q_dm dm_X10_triesAmong 26 rfl) (by decide) ?_
      exact qr_loc (q_leS (q_leS (q_leS (q_leS (q_leS q_le0))))) (hK5 a1 a2 x2 x3 M)

def f_X10_triesAmong_5 (n : Nat) (t : Nat) : Nat → Int32 → Int32 → Int32 → Int32 → qM → qR
  | 0, _, _, _, _, _ => none
  | m + 1, a1, a2, a3, a4, M => b_X10_triesAmong_5 n t (f_X10_triesAmong_5 n t m) a1 a2 a3 a4 M
theorem w_X10_triesAmong_5 {g : qG} {k : qK} (n : Nat) (j r : Nat) (hj : q_isLaw j) (hr : q_isLaw r) {t : Nat} (ht : q_isTown t) (o : qOk g 0 zX10_triesAmong k) : ∀ (m : Nat) (a1 a2 a3 a4 : Int32) (M : qM), qAE g k zX10_triesAmong (qL j r) 5 [some (.inr (some t)), some (.inl a1), some (.inl a2), some (.inl a3), some (.inl a4)] [] (qL j r, M) (f_X10_triesAmong_5 n t m a1 a2 a3 a4 M) := by
  intro m
  induction m with
  | zero =>
    intro a1 a2 a3 a4 M
    exact qr_none
  | succ m ih =>
    intro a1 a2 a3 a4 M
    exact wb_X10_triesAmong_5 n j r hj hr ht o (f_X10_triesAmong_5 n t m) ih a1 a2 a3 a4 M
def f_X10_triesAmong (n : Nat) (t : Nat) (a1 a2 : Int32) (M : qM) : qR :=
  f_X10_triesAmong_5 n t n a1 a2 (0 : Int32) (0 : Int32) M
set_option maxRecDepth 4000 in
theorem w_X10_triesAmong {g : qG} {k : qK} (n : Nat) (j r : Nat) (hj : q_isLaw j) (hr : q_isLaw r) {t : Nat} (ht : q_isTown t) (o : qOk g 0 zX10_triesAmong k) (a1 a2 : Int32) (M : qM) : qAE g k zX10_triesAmong (qL j r) 0 [some (.inr (some t)), some (.inl a1), some (.inl a2), none, none] [] (qL j r, M) (f_X10_triesAmong n t a1 a2 M) := by
  unfold f_X10_triesAmong
  refine qr_iconst o (q_dm dm_X10_triesAmong 0 rfl) ic_0 ?_
  refine qs_istore_n (L' := [some (.inr (some t)), some (.inl a1), some (.inl a2), some (.inl (0 : Int32)), none]) o (q_dm dm_X10_triesAmong 1 rfl) (Nat.le_of_ble_eq_true rfl) rfl ?_
  refine qr_iconst o (q_dm dm_X10_triesAmong 2 rfl) ic_0 ?_
  refine qs_istore (L' := [some (.inr (some t)), some (.inl a1), some (.inl a2), some (.inl (0 : Int32)), some (.inl (0 : Int32))]) o (q_dm dm_X10_triesAmong 3 rfl) (Nat.le_of_ble_eq_true rfl) rfl ?_
  exact qr_loc (q_leS (q_leS (q_leS (q_leS (q_leS q_le0))))) (w_X10_triesAmong_5 n j r hj hr ht o n a1 a2 (0 : Int32) (0 : Int32) M)

theorem a_X10_triesAmong (g : qG) (l : Launch) (n : Nat) (j r : Nat) (hj : q_isLaw j) (hr : q_isLaw r) {t : Nat} (ht : q_isTown t) (a1 a2 : Int32) (M : qM) : qAM g l 0 zX10_triesAmong (qL j r) [.inr (some t), .inl a1, .inl a2] (qL j r, M) (f_X10_triesAmong n t a1 a2 M) :=
  qAM.of zv_X10_triesAmong.1 (by show 3 ≤ 5; decide) (fun k hk o => w_X10_triesAmong n j r hj hr ht o a1 a2 M)
def tb_X1_isAlike : List (Nat × Instr × Nat) := [(0, (.aload_n 0, 1)), (1, (.getfield 13, 3)), (4, (.iconst 3, 1)), (5, (.iload_n 1, 1)), (6, (.iastore, 1)), (7, (.aload_n 0, 1)), (8, (.getfield 13, 3)), (11, (.iconst 4, 1)), (12, (.aload_n 0, 1)), (13, (.getfield 28, 3)), (16, (.getfield 37, 3)), (19, (.iload_n 1, 1)), (20, (.iaload, 1)), (21, (.iastore, 1)), (22, (.aload_n 0, 1)), (23, (.getfield 13, 3)), (26, (.iconst 5, 1)), (27, (.aload_n 0, 1)), (28, (.getfield 13, 3)), (31, (.iconst 2, 1)), (32, (.iaload, 1)), (33, (.aload_n 0, 1)), (34, (.getfield 28, 3)), (37, (.getfield 37, 3)), (40, (.iload_n 1, 1)), (41, (.iaload, 1)), (42, (.iand, 1)), (43, (.invokestatic 89, 3)), (46, (.iastore, 1)), (47, (.iconst 0, 1)), (48, (.istore_n 2, 1)), (49, (.iload_n 2, 1)), (50, (.aload_n 0, 1)), (51, (.getfield 24, 3)), (54, (.getfield 61, 3)), (57, (.if_icmp .ge 50, 3)), (60, (.aload_n 0, 1)), (61, (.getfield 24, 3)), (64, (.getfield 65, 3)), (67, (.iload_n 2, 1)), (68, (.iaload, 1)), (69, (.bipush 97, 2)), (71, (.if_icmp .ne 30, 3)), (74, (.aload_n 0, 1)), (75, (.aload_n 0, 1)), (76, (.getfield 24, 3)), (79, (.getfield 68, 3)), (82, (.iload_n 2, 1)), (83, (.iaload, 1)), (84, (.aload_n 0, 1)), (85, (.getfield 24, 3)), (88, (.getfield 71, 3)), (91, (.iload_n 2, 1)), (92, (.iaload, 1)), (93, (.invokevirtual 74, 3)), (96, (.ifCond .eq 5, 3)), (99, (.iconst 1, 1)), (100, (.ireturn, 1)), (101, (.iinc 2 1, 3)), (104, (.goto (-55), 3)), (107, (.iconst 0, 1)), (108, (.ireturn, 1))]
theorem dm_X1_isAlike : ∀ q ∈ tb_X1_isAlike, decode zX1_isAlike.2.1 q.1 = .ok q.2 := by decide +kernel
def b_X1_isAlike_49 (n : Nat) (j : Nat) (K49 : Int32 → qM → qR) (a2 : Int32) (M : qM) : qR :=
  (if (M j 7) ≤ a2 then some ((0 : Int32), M) else qg a2 16 ((if (M (j + 3) a2.toNatClampNeg) = (97 : Int32) then qg a2 16 (qg a2 16 (qc (f_X1_run n j (M (j + 5) a2.toNatClampNeg) (M (j + 6) a2.toNatClampNeg) M) (fun r2 m3 => (if r2 = (0 : Int32) then ql (a2 + (1 : Int32)) (fun x4 => K49 x4 m3) else some ((1 : Int32), m3))))) else ql (a2 + (1 : Int32)) (fun x1 => K49 x1 M))))
set_option maxRecDepth 4000 in
theorem wb_X1_isAlike_49 {g : qG} {k : qK} (n : Nat) (j r : Nat) (hj : q_isLaw j) (hr : q_isLaw r) (o : qOk g 2 zX1_isAlike k) (K49 : Int32 → qM → qR) (hK49 : ∀ (a2 : Int32) (M : qM), qAE g k zX1_isAlike (qL j r) 49 [some (.inr (some 34)), none, some (.inl a2)] [] (qL j r, M) (K49 a2 M)) (a2 : Int32) (M : qM) : qAE g k zX1_isAlike (qL j r) 49 [some (.inr (some 34)), none, some (.inl a2)] [] (qL j r, M) (b_X1_isAlike_49 n j K49 a2 M) := by
  unfold b_X1_isAlike_49
  refine qr_iload_n o (q_dm dm_X1_isAlike 31 rfl) rfl ?_
  refine qr_aload_n o (q_dm dm_X1_isAlike 32 rfl) rfl ?_
  refine qr_getr (kf := 3) o cf_X1 (sh34 j r) rfl (Nat.le_of_ble_eq_true rfl) fl_X1_24 (q_dm dm_X1_isAlike 33 rfl) ?_
  refine qr_getf (kf := 7) o cf_X3 (shW0 j r hj) rfl (Nat.le_of_ble_eq_true rfl) fl_X1_61 (q_dm dm_X1_isAlike 34 rfl) ?_
  refine qr_icmp_ge (tgt := 107) o (q_dm dm_X1_isAlike 35 rfl) (by decide) ?_ ?_
  · refine qr_iconst o (q_dm dm_X1_isAlike 60 rfl) ic_0 ?_
    exact qr_iret o rfl (by decide) (q_dm dm_X1_isAlike 61 rfl)
  · refine qr_aload_n o (q_dm dm_X1_isAlike 36 rfl) rfl ?_
    refine qr_getr (kf := 3) o cf_X1 (sh34 j r) rfl (Nat.le_of_ble_eq_true rfl) fl_X1_24 (q_dm dm_X1_isAlike 37 rfl) ?_
    refine qr_getr (kf := 2) o cf_X3 (shW0 j r hj) rfl (Nat.le_of_ble_eq_true rfl) fl_X1_65 (q_dm dm_X1_isAlike 38 rfl) ?_
    refine qr_iload_n o (q_dm dm_X1_isAlike 39 rfl) rfl ?_
    refine qr_iald o (shW3 j r hj) (q_dm dm_X1_isAlike 40 rfl) ?_
    refine qr_bipush o (q_dm dm_X1_isAlike 41 rfl) bi_97 ?_
    refine qr_icmp_ne (tgt := 101) o (q_dm dm_X1_isAlike 42 rfl) (by decide) ?_ ?_
    · refine qs_iincl2 (L' := fun x1 => [some (.inr (some 34)), none, some (.inl x1)]) o (q_dm dm_X1_isAlike 58 rfl) rfl ic_1 (Nat.le_of_ble_eq_true rfl) (fun _ => rfl) (fun x1 => ?_)
      refine qr_goto (tgt := 49) o (q_dm dm_X1_isAlike 59 rfl) (by decide) ?_
      exact qr_loc (q_leS (q_leN (q_leS q_le0))) (hK49 x1 M)
    · refine qr_aload_n o (q_dm dm_X1_isAlike 43 rfl) rfl ?_
      refine qr_aload_n o (q_dm dm_X1_isAlike 44 rfl) rfl ?_
      refine qr_getr (kf := 3) o cf_X1 (sh34 j r) rfl (Nat.le_of_ble_eq_true rfl) fl_X1_24 (q_dm dm_X1_isAlike 45 rfl) ?_
      refine qr_getr (kf := 4) o cf_X3 (shW0 j r hj) rfl (Nat.le_of_ble_eq_true rfl) fl_X1_68 (q_dm dm_X1_isAlike 46 rfl) ?_
      refine qr_iload_n o (q_dm dm_X1_isAlike 47 rfl) rfl ?_
      refine qr_iald o (shW5 j r hj) (q_dm dm_X1_isAlike 48 rfl) ?_
      refine qr_aload_n o (q_dm dm_X1_isAlike 49 rfl) rfl ?_
      refine qr_getr (kf := 3) o cf_X1 (sh34 j r) rfl (Nat.le_of_ble_eq_true rfl) fl_X1_24 (q_dm dm_X1_isAlike 50 rfl) ?_
      refine qr_getr (kf := 5) o cf_X3 (shW0 j r hj) rfl (Nat.le_of_ble_eq_true rfl) fl_X1_71 (q_dm dm_X1_isAlike 51 rfl) ?_
      refine qr_iload_n o (q_dm dm_X1_isAlike 52 rfl) rfl ?_
      refine qr_iald o (shW6 j r hj) (q_dm dm_X1_isAlike 53 rfl) ?_
      refine qr_callv_i (As := [.inl (M (j + 5) a2.toNatClampNeg), .inl (M (j + 6) a2.toNatClampNeg)]) (S := []) o (a_X1_run g k.2.1 n j r hj hr (M (j + 5) a2.toNatClampNeg) (M (j + 6) a2.toNatClampNeg) M) (Nat.le_of_ble_eq_true rfl) zv_X1_run rfl cf_X1 (sh34 j r) ml_X1_74 (Nat.le_of_ble_eq_true rfl) (q_dm dm_X1_isAlike 54 rfl) (fun r2 m3 => ?_)
      refine qr_if_eq (tgt := 101) o (q_dm dm_X1_isAlike 55 rfl) (by decide) ?_ ?_
      · refine qs_iincl2 (L' := fun x4 => [some (.inr (some 34)), none, some (.inl x4)]) o (q_dm dm_X1_isAlike 58 rfl) rfl ic_1 (Nat.le_of_ble_eq_true rfl) (fun _ => rfl) (fun x4 => ?_)
        refine qr_goto (tgt := 49) o (q_dm dm_X1_isAlike 59 rfl) (by decide) ?_
        exact qr_loc (q_leS (q_leN (q_leS q_le0))) (hK49 x4 m3)
      · refine qr_iconst o (q_dm dm_X1_isAlike 56 rfl) ic_1 ?_
        exact qr_iret o rfl (by decide) (q_dm dm_X1_isAlike 57 rfl)

def f_X1_isAlike_49 (n : Nat) (j : Nat) : Nat → Int32 → qM → qR
  | 0, _, _ => none
  | m + 1, a2, M => b_X1_isAlike_49 n j (f_X1_isAlike_49 n j m) a2 M
theorem w_X1_isAlike_49 {g : qG} {k : qK} (n : Nat) (j r : Nat) (hj : q_isLaw j) (hr : q_isLaw r) (o : qOk g 2 zX1_isAlike k) : ∀ (m : Nat) (a2 : Int32) (M : qM), qAE g k zX1_isAlike (qL j r) 49 [some (.inr (some 34)), none, some (.inl a2)] [] (qL j r, M) (f_X1_isAlike_49 n j m a2 M) := by
  intro m
  induction m with
  | zero =>
    intro a2 M
    exact qr_none
  | succ m ih =>
    intro a2 M
    exact wb_X1_isAlike_49 n j r hj hr o (f_X1_isAlike_49 n j m) ih a2 M
def f_X1_isAlike (n : Nat) (j : Nat) (a1 : Int32) (M : qM) : qR :=
  qlm (mu M 35 3 a1) (fun m1 => qg a1 12 (qlm (mu m1 35 4 (m1 5 a1.toNatClampNeg)) (fun m2 => qg a1 12 (qc (f_J6_bitCount_0f7a4 n ((m2 35 2) &&& (m2 5 a1.toNatClampNeg)) m2) (fun r3 m4 => qlm (mu m4 35 5 r3) (fun m5 => f_X1_isAlike_49 n j n (0 : Int32) m5))))))
set_option maxRecDepth 4000 in
theorem w_X1_isAlike {g : qG} {k : qK} (n : Nat) (j r : Nat) (hj : q_isLaw j) (hr : q_isLaw r) (o : qOk g 2 zX1_isAlike k) (a1 : Int32) (M : qM) : qAE g k zX1_isAlike (qL j r) 0 [some (.inr (some 34)), some (.inl a1), none] [] (qL j r, M) (f_X1_isAlike n j a1 M) := by
  unfold f_X1_isAlike
  refine qr_aload_n o (q_dm dm_X1_isAlike 0 rfl) rfl ?_
  refine qr_getr (kf := 1) o cf_X1 (sh34 j r) rfl (Nat.le_of_ble_eq_true rfl) fl_X1_13 (q_dm dm_X1_isAlike 1 rfl) ?_
  refine qr_iconst o (q_dm dm_X1_isAlike 2 rfl) ic_3 ?_
  refine qr_iload_n o (q_dm dm_X1_isAlike 3 rfl) rfl ?_
  refine qr_iast0 (c := 3) o (sh35 j r) (by decide) (by decide) (q_dm dm_X1_isAlike 4 rfl) ?_
  refine qr_letm (fun m1 => ?_)
  refine qr_aload_n o (q_dm dm_X1_isAlike 5 rfl) rfl ?_
  refine qr_getr (kf := 1) o cf_X1 (sh34 j r) rfl (Nat.le_of_ble_eq_true rfl) fl_X1_13 (q_dm dm_X1_isAlike 6 rfl) ?_
  refine qr_iconst o (q_dm dm_X1_isAlike 7 rfl) ic_4 ?_
  refine qr_aload_n o (q_dm dm_X1_isAlike 8 rfl) rfl ?_
  refine qr_getr (kf := 0) o cf_X1 (sh34 j r) rfl (Nat.le_of_ble_eq_true rfl) fl_X1_28 (q_dm dm_X1_isAlike 9 rfl) ?_
  refine qr_getr (kf := 1) o cf_X2 (sh3 j r) rfl (Nat.le_of_ble_eq_true rfl) fl_X1_37 (q_dm dm_X1_isAlike 10 rfl) ?_
  refine qr_iload_n o (q_dm dm_X1_isAlike 11 rfl) rfl ?_
  refine qr_iald o (sh5 j r) (q_dm dm_X1_isAlike 12 rfl) ?_
  refine qr_iast0 (c := 4) o (sh35 j r) (by decide) (by decide) (q_dm dm_X1_isAlike 13 rfl) ?_
  refine qr_letm (fun m2 => ?_)
  refine qr_aload_n o (q_dm dm_X1_isAlike 14 rfl) rfl ?_
  refine qr_getr (kf := 1) o cf_X1 (sh34 j r) rfl (Nat.le_of_ble_eq_true rfl) fl_X1_13 (q_dm dm_X1_isAlike 15 rfl) ?_
  refine qr_iconst o (q_dm dm_X1_isAlike 16 rfl) ic_5 ?_
  refine qr_aload_n o (q_dm dm_X1_isAlike 17 rfl) rfl ?_
  refine qr_getr (kf := 1) o cf_X1 (sh34 j r) rfl (Nat.le_of_ble_eq_true rfl) fl_X1_13 (q_dm dm_X1_isAlike 18 rfl) ?_
  refine qr_iconst o (q_dm dm_X1_isAlike 19 rfl) ic_2 ?_
  refine qr_iald0 (c := 2) o (sh35 j r) (by decide) (by decide) (q_dm dm_X1_isAlike 20 rfl) ?_
  refine qr_aload_n o (q_dm dm_X1_isAlike 21 rfl) rfl ?_
  refine qr_getr (kf := 0) o cf_X1 (sh34 j r) rfl (Nat.le_of_ble_eq_true rfl) fl_X1_28 (q_dm dm_X1_isAlike 22 rfl) ?_
  refine qr_getr (kf := 1) o cf_X2 (sh3 j r) rfl (Nat.le_of_ble_eq_true rfl) fl_X1_37 (q_dm dm_X1_isAlike 23 rfl) ?_
  refine qr_iload_n o (q_dm dm_X1_isAlike 24 rfl) rfl ?_
  refine qr_iald o (sh5 j r) (q_dm dm_X1_isAlike 25 rfl) ?_
  refine qr_iand o (q_dm dm_X1_isAlike 26 rfl) ?_
  refine qr_calls_i (As := [.inl ((m2 35 2) &&& (m2 5 a1.toNatClampNeg))]) (S := [.inl (5 : Int32), .inr (some 35)]) o (a_J6_bitCount_0f7a4 g k.2.1 n j r hj hr ((m2 35 2) &&& (m2 5 a1.toNatClampNeg)) m2) (Nat.le_of_ble_eq_true rfl) zs_J6_bitCount_0f7a4 rfl ml_X1_89 (Nat.le_of_ble_eq_true rfl) (q_dm dm_X1_isAlike 27 rfl) (fun r3 m4 => ?_)
  refine qr_iast0 (c := 5) o (sh35 j r) (by decide) (by decide) (q_dm dm_X1_isAlike 28 rfl) ?_
  refine qr_letm (fun m5 => ?_)
  refine qr_iconst o (q_dm dm_X1_isAlike 29 rfl) ic_0 ?_
  refine qs_istore_n (L' := [some (.inr (some 34)), some (.inl a1), some (.inl (0 : Int32))]) o (q_dm dm_X1_isAlike 30 rfl) (Nat.le_of_ble_eq_true rfl) rfl ?_
  exact qr_loc (q_leS (q_leN (q_leS q_le0))) (w_X1_isAlike_49 n j r hj hr o n (0 : Int32) m5)

theorem a_X1_isAlike (g : qG) (l : Launch) (n : Nat) (j r : Nat) (hj : q_isLaw j) (hr : q_isLaw r) (a1 : Int32) (M : qM) : qAM g l 2 zX1_isAlike (qL j r) [.inr (some 34), .inl a1] (qL j r, M) (f_X1_isAlike n j a1 M) :=
  qAM.of zv_X1_isAlike.1 (by show 2 ≤ 3; decide) (fun k hk o => w_X1_isAlike n j r hj hr o a1 M)
def tb_X2_knows : List (Nat × Instr × Nat) := [(0, (.iload_n 1, 1)), (1, (.ifCond .lt 25, 3)), (4, (.iload_n 1, 1)), (5, (.bipush 12, 2)), (7, (.if_icmp .ge 19, 3)), (10, (.aload_n 0, 1)), (11, (.getfield 21, 3)), (14, (.iload_n 1, 1)), (15, (.ishr, 1)), (16, (.iconst 1, 1)), (17, (.iand, 1)), (18, (.iconst 1, 1)), (19, (.if_icmp .ne 7, 3)), (22, (.iconst 1, 1)), (23, (.goto 4, 3)), (26, (.iconst 0, 1)), (27, (.ireturn, 1))]
theorem dm_X2_knows : ∀ q ∈ tb_X2_knows, decode zX2_knows.2.1 q.1 = .ok q.2 := by decide +kernel
def f_X2_knows (n : Nat) (a1 : Int32) (M : qM) : qR :=
  (if a1 < (0 : Int32) then some ((0 : Int32), M) else (if (12 : Int32) ≤ a1 then some ((0 : Int32), M) else (if (((M 3 3) >>> (a1 &&& 31)) &&& (1 : Int32)) = (1 : Int32) then some ((1 : Int32), M) else some ((0 : Int32), M))))
set_option maxRecDepth 4000 in
theorem w_X2_knows {g : qG} {k : qK} (n : Nat) (j r : Nat) (hj : q_isLaw j) (hr : q_isLaw r) (o : qOk g 0 zX2_knows k) (a1 : Int32) (M : qM) : qAE g k zX2_knows (qL j r) 0 [some (.inr (some 3)), some (.inl a1)] [] (qL j r, M) (f_X2_knows n a1 M) := by
  unfold f_X2_knows
  refine qr_iload_n o (q_dm dm_X2_knows 0 rfl) rfl ?_
  refine qr_if_lt (tgt := 26) o (q_dm dm_X2_knows 1 rfl) (by decide) ?_ ?_
  · refine qr_iconst o (q_dm dm_X2_knows 15 rfl) ic_0 ?_
    exact qr_iret o rfl (by decide) (q_dm dm_X2_knows 16 rfl)
  · refine qr_iload_n o (q_dm dm_X2_knows 2 rfl) rfl ?_
    refine qr_bipush o (q_dm dm_X2_knows 3 rfl) bi_12 ?_
    refine qr_icmp_ge (tgt := 26) o (q_dm dm_X2_knows 4 rfl) (by decide) ?_ ?_
    · refine qr_iconst o (q_dm dm_X2_knows 15 rfl) ic_0 ?_
      exact qr_iret o rfl (by decide) (q_dm dm_X2_knows 16 rfl)
    · refine qr_aload_n o (q_dm dm_X2_knows 5 rfl) rfl ?_
      refine qr_getf (kf := 3) o cf_X2 (sh3 j r) rfl (Nat.le_of_ble_eq_true rfl) fl_X2_21 (q_dm dm_X2_knows 6 rfl) ?_
      refine qr_iload_n o (q_dm dm_X2_knows 7 rfl) rfl ?_
      refine qr_ishr o (q_dm dm_X2_knows 8 rfl) ?_
      refine qr_iconst o (q_dm dm_X2_knows 9 rfl) ic_1 ?_
      refine qr_iand o (q_dm dm_X2_knows 10 rfl) ?_
      refine qr_iconst o (q_dm dm_X2_knows 11 rfl) ic_1 ?_
      refine qr_icmp_ne (tgt := 26) o (q_dm dm_X2_knows 12 rfl) (by decide) ?_ ?_
      · refine qr_iconst o (q_dm dm_X2_knows 15 rfl) ic_0 ?_
        exact qr_iret o rfl (by decide) (q_dm dm_X2_knows 16 rfl)
      · refine qr_iconst o (q_dm dm_X2_knows 13 rfl) ic_1 ?_
        refine qr_goto (tgt := 27) o (q_dm dm_X2_knows 14 rfl) (by decide) ?_
        exact qr_iret o rfl (by decide) (q_dm dm_X2_knows 16 rfl)

theorem a_X2_knows (g : qG) (l : Launch) (n : Nat) (j r : Nat) (hj : q_isLaw j) (hr : q_isLaw r) (a1 : Int32) (M : qM) : qAM g l 0 zX2_knows (qL j r) [.inr (some 3), .inl a1] (qL j r, M) (f_X2_knows n a1 M) :=
  qAM.of zv_X2_knows.1 (by show 2 ≤ 2; decide) (fun k hk o => w_X2_knows n j r hj hr o a1 M)
def tb_X1_alikes : List (Nat × Instr × Nat) := [(0, (.iconst 0, 1)), (1, (.istore_n 3, 1)), (2, (.aload_n 0, 1)), (3, (.iload_n 1, 1)), (4, (.aload_n 0, 1)), (5, (.getfield 28, 3)), (8, (.getfield 32, 3)), (11, (.iload_n 1, 1)), (12, (.iaload, 1)), (13, (.aload_n 0, 1)), (14, (.getfield 28, 3)), (17, (.getfield 37, 3)), (20, (.iload_n 1, 1)), (21, (.iaload, 1)), (22, (.iload_n 2, 1)), (23, (.invokevirtual 40, 3)), (26, (.iconst 0, 1)), (27, (.istore 4, 2)), (29, (.iload 4, 2)), (31, (.bipush 12, 2)), (33, (.if_icmp .ge 43, 3)), (36, (.iload 4, 2)), (38, (.iload_n 1, 1)), (39, (.if_icmp .eq 24, 3)), (42, (.aload_n 0, 1)), (43, (.getfield 28, 3)), (46, (.iload 4, 2)), (48, (.invokevirtual 48, 3)), (51, (.ifCond .eq 19, 3)), (54, (.aload_n 0, 1)), (55, (.iload 4, 2)), (57, (.invokevirtual 44, 3)), (60, (.ifCond .eq 10, 3)), (63, (.iload_n 3, 1)), (64, (.iconst 1, 1)), (65, (.iload 4, 2)), (67, (.ishl, 1)), (68, (.ior, 1)), (69, (.istore_n 3, 1)), (70, (.iinc 4 1, 3)), (73, (.goto (-44), 3)), (76, (.iload_n 3, 1)), (77, (.ireturn, 1))]
theorem dm_X1_alikes : ∀ q ∈ tb_X1_alikes, decode zX1_alikes.2.1 q.1 = .ok q.2 := by decide +kernel
def f_X1_alikes_63 (n : Nat) (j : Nat) (K29 : Int32 → Int32 → Int32 → qM → qR) (a1 a3 a4 : Int32) (M : qM) : qR :=
  ql (a3 ||| ((1 : Int32) <<< (a4 &&& 31))) (fun x1 => ql (a4 + (1 : Int32)) (fun x2 => K29 a1 x1 x2 M))
set_option maxRecDepth 4000 in
theorem w_X1_alikes_63 {g : qG} {k : qK} (n : Nat) (j r : Nat) (hj : q_isLaw j) (hr : q_isLaw r) (o : qOk g 3 zX1_alikes k) (K29 : Int32 → Int32 → Int32 → qM → qR) (hK29 : ∀ (a1 a3 a4 : Int32) (M : qM), qAE g k zX1_alikes (qL j r) 29 [some (.inr (some 34)), some (.inl a1), none, some (.inl a3), some (.inl a4)] [] (qL j r, M) (K29 a1 a3 a4 M)) (a1 a3 a4 : Int32) (M : qM) : qAE g k zX1_alikes (qL j r) 63 [some (.inr (some 34)), some (.inl a1), none, some (.inl a3), some (.inl a4)] [] (qL j r, M) (f_X1_alikes_63 n j K29 a1 a3 a4 M) := by
  unfold f_X1_alikes_63
  refine qr_iload_n o (q_dm dm_X1_alikes 33 rfl) rfl ?_
  refine qr_iconst o (q_dm dm_X1_alikes 34 rfl) ic_1 ?_
  refine qr_iload o (q_dm dm_X1_alikes 35 rfl) rfl ?_
  refine qr_ishl o (q_dm dm_X1_alikes 36 rfl) ?_
  refine qr_ior o (q_dm dm_X1_alikes 37 rfl) ?_
  refine qr_lt (fun x1 => ?_)
  refine qs_istore_n (L' := [some (.inr (some 34)), some (.inl a1), none, some (.inl x1), some (.inl a4)]) o (q_dm dm_X1_alikes 38 rfl) (Nat.le_of_ble_eq_true rfl) rfl ?_
  refine qs_iincl2 (L' := fun x2 => [some (.inr (some 34)), some (.inl a1), none, some (.inl x1), some (.inl x2)]) o (q_dm dm_X1_alikes 39 rfl) rfl ic_1 (Nat.le_of_ble_eq_true rfl) (fun _ => rfl) (fun x2 => ?_)
  refine qr_goto (tgt := 29) o (q_dm dm_X1_alikes 40 rfl) (by decide) ?_
  exact qr_loc (q_leS (q_leS (q_leN (q_leS (q_leS q_le0))))) (hK29 a1 x1 x2 M)

def b_X1_alikes_29 (n : Nat) (j : Nat) (K29 : Int32 → Int32 → Int32 → qM → qR) (a1 a3 a4 : Int32) (M : qM) : qR :=
  (if (12 : Int32) ≤ a4 then some (a3, M) else (if a4 = a1 then f_X1_alikes_63 n j K29 a1 a3 a4 M else qc (f_X2_knows n a4 M) (fun r1 m2 => (if r1 = (0 : Int32) then ql (a4 + (1 : Int32)) (fun x3 => K29 a1 a3 x3 m2) else qc (f_X1_isAlike n j a4 m2) (fun r4 m5 => (if r4 = (0 : Int32) then ql (a4 + (1 : Int32)) (fun x6 => K29 a1 a3 x6 m5) else f_X1_alikes_63 n j K29 a1 a3 a4 m5))))))
set_option maxRecDepth 4000 in
theorem wb_X1_alikes_29 {g : qG} {k : qK} (n : Nat) (j r : Nat) (hj : q_isLaw j) (hr : q_isLaw r) (o : qOk g 3 zX1_alikes k) (K29 : Int32 → Int32 → Int32 → qM → qR) (hK29 : ∀ (a1 a3 a4 : Int32) (M : qM), qAE g k zX1_alikes (qL j r) 29 [some (.inr (some 34)), some (.inl a1), none, some (.inl a3), some (.inl a4)] [] (qL j r, M) (K29 a1 a3 a4 M)) (a1 a3 a4 : Int32) (M : qM) : qAE g k zX1_alikes (qL j r) 29 [some (.inr (some 34)), some (.inl a1), none, some (.inl a3), some (.inl a4)] [] (qL j r, M) (b_X1_alikes_29 n j K29 a1 a3 a4 M) := by
  unfold b_X1_alikes_29
  refine qr_iload o (q_dm dm_X1_alikes 18 rfl) rfl ?_
  refine qr_bipush o (q_dm dm_X1_alikes 19 rfl) bi_12 ?_
  refine qr_icmp_ge (tgt := 76) o (q_dm dm_X1_alikes 20 rfl) (by decide) ?_ ?_
  · refine qr_iload_n o (q_dm dm_X1_alikes 41 rfl) rfl ?_
    exact qr_iret o rfl rfl (q_dm dm_X1_alikes 42 rfl)
  · refine qr_iload o (q_dm dm_X1_alikes 21 rfl) rfl ?_
    refine qr_iload_n o (q_dm dm_X1_alikes 22 rfl) rfl ?_
    refine qr_icmp_eq (tgt := 63) o (q_dm dm_X1_alikes 23 rfl) (by decide) ?_ ?_
    · exact qr_loc (q_leS (q_leS (q_leN (q_leS (q_leS q_le0))))) (w_X1_alikes_63 n j r hj hr o K29 hK29 a1 a3 a4 M)
    · refine qr_aload_n o (q_dm dm_X1_alikes 24 rfl) rfl ?_
      refine qr_getr (kf := 0) o cf_X1 (sh34 j r) rfl (Nat.le_of_ble_eq_true rfl) fl_X1_28 (q_dm dm_X1_alikes 25 rfl) ?_
      refine qr_iload o (q_dm dm_X1_alikes 26 rfl) rfl ?_
      refine qr_callv_i (As := [.inl a4]) (S := []) o (a_X2_knows g k.2.1 n j r hj hr a4 M) (Nat.le_of_ble_eq_true rfl) zv_X2_knows rfl cf_X2 (sh3 j r) ml_X1_48 (Nat.le_of_ble_eq_true rfl) (q_dm dm_X1_alikes 27 rfl) (fun r1 m2 => ?_)
      refine qr_if_eq (tgt := 70) o (q_dm dm_X1_alikes 28 rfl) (by decide) ?_ ?_
      · refine qs_iincl2 (L' := fun x3 => [some (.inr (some 34)), some (.inl a1), none, some (.inl a3), some (.inl x3)]) o (q_dm dm_X1_alikes 39 rfl) rfl ic_1 (Nat.le_of_ble_eq_true rfl) (fun _ => rfl) (fun x3 => ?_)
        refine qr_goto (tgt := 29) o (q_dm dm_X1_alikes 40 rfl) (by decide) ?_
        exact qr_loc (q_leS (q_leS (q_leN (q_leS (q_leS q_le0))))) (hK29 a1 a3 x3 m2)
      · refine qr_aload_n o (q_dm dm_X1_alikes 29 rfl) rfl ?_
        refine qr_iload o (q_dm dm_X1_alikes 30 rfl) rfl ?_
        refine qr_callv_i (As := [.inl a4]) (S := []) o (a_X1_isAlike g k.2.1 n j r hj hr a4 m2) (Nat.le_of_ble_eq_true rfl) zv_X1_isAlike rfl cf_X1 (sh34 j r) ml_X1_44 (Nat.le_of_ble_eq_true rfl) (q_dm dm_X1_alikes 31 rfl) (fun r4 m5 => ?_)
        refine qr_if_eq (tgt := 70) o (q_dm dm_X1_alikes 32 rfl) (by decide) ?_ ?_
        · refine qs_iincl2 (L' := fun x6 => [some (.inr (some 34)), some (.inl a1), none, some (.inl a3), some (.inl x6)]) o (q_dm dm_X1_alikes 39 rfl) rfl ic_1 (Nat.le_of_ble_eq_true rfl) (fun _ => rfl) (fun x6 => ?_)
          refine qr_goto (tgt := 29) o (q_dm dm_X1_alikes 40 rfl) (by decide) ?_
          exact qr_loc (q_leS (q_leS (q_leN (q_leS (q_leS q_le0))))) (hK29 a1 a3 x6 m5)
        · exact qr_loc (q_leS (q_leS (q_leN (q_leS (q_leS q_le0))))) (w_X1_alikes_63 n j r hj hr o K29 hK29 a1 a3 a4 m5)

def f_X1_alikes_29 (n : Nat) (j : Nat) : Nat → Int32 → Int32 → Int32 → qM → qR
  | 0, _, _, _, _ => none
  | m + 1, a1, a3, a4, M => b_X1_alikes_29 n j (f_X1_alikes_29 n j m) a1 a3 a4 M
theorem w_X1_alikes_29 {g : qG} {k : qK} (n : Nat) (j r : Nat) (hj : q_isLaw j) (hr : q_isLaw r) (o : qOk g 3 zX1_alikes k) : ∀ (m : Nat) (a1 a3 a4 : Int32) (M : qM), qAE g k zX1_alikes (qL j r) 29 [some (.inr (some 34)), some (.inl a1), none, some (.inl a3), some (.inl a4)] [] (qL j r, M) (f_X1_alikes_29 n j m a1 a3 a4 M) := by
  intro m
  induction m with
  | zero =>
    intro a1 a3 a4 M
    exact qr_none
  | succ m ih =>
    intro a1 a3 a4 M
    exact wb_X1_alikes_29 n j r hj hr o (f_X1_alikes_29 n j m) ih a1 a3 a4 M
def f_X1_alikes (n : Nat) (j : Nat) (a1 a2 : Int32) (M : qM) : qR :=
  qg a1 12 (qg a1 12 (qc (f_X1_tellDeed n a1 (M 4 a1.toNatClampNeg) (M 5 a1.toNatClampNeg) a2 M) (fun _ m1 => f_X1_alikes_29 n j n a1 (0 : Int32) (0 : Int32) m1)))
set_option maxRecDepth 4000 in
theorem w_X1_alikes {g : qG} {k : qK} (n : Nat) (j r : Nat) (hj : q_isLaw j) (hr : q_isLaw r) (o : qOk g 3 zX1_alikes k) (a1 a2 : Int32) (M : qM) : qAE g k zX1_alikes (qL j r) 0 [some (.inr (some 34)), some (.inl a1), some (.inl a2), none, none] [] (qL j r, M) (f_X1_alikes n j a1 a2 M) := by
  unfold f_X1_alikes
  refine qr_iconst o (q_dm dm_X1_alikes 0 rfl) ic_0 ?_
  refine qs_istore_n (L' := [some (.inr (some 34)), some (.inl a1), some (.inl a2), some (.inl (0 : Int32)), none]) o (q_dm dm_X1_alikes 1 rfl) (Nat.le_of_ble_eq_true rfl) rfl ?_
  refine qr_aload_n o (q_dm dm_X1_alikes 2 rfl) rfl ?_
  refine qr_iload_n o (q_dm dm_X1_alikes 3 rfl) rfl ?_
  refine qr_aload_n o (q_dm dm_X1_alikes 4 rfl) rfl ?_
  refine qr_getr (kf := 0) o cf_X1 (sh34 j r) rfl (Nat.le_of_ble_eq_true rfl) fl_X1_28 (q_dm dm_X1_alikes 5 rfl) ?_
  refine qr_getr (kf := 0) o cf_X2 (sh3 j r) rfl (Nat.le_of_ble_eq_true rfl) fl_X1_32 (q_dm dm_X1_alikes 6 rfl) ?_
  refine qr_iload_n o (q_dm dm_X1_alikes 7 rfl) rfl ?_
  refine qr_iald o (sh4 j r) (q_dm dm_X1_alikes 8 rfl) ?_
  refine qr_aload_n o (q_dm dm_X1_alikes 9 rfl) rfl ?_
  refine qr_getr (kf := 0) o cf_X1 (sh34 j r) rfl (Nat.le_of_ble_eq_true rfl) fl_X1_28 (q_dm dm_X1_alikes 10 rfl) ?_
  refine qr_getr (kf := 1) o cf_X2 (sh3 j r) rfl (Nat.le_of_ble_eq_true rfl) fl_X1_37 (q_dm dm_X1_alikes 11 rfl) ?_
  refine qr_iload_n o (q_dm dm_X1_alikes 12 rfl) rfl ?_
  refine qr_iald o (sh5 j r) (q_dm dm_X1_alikes 13 rfl) ?_
  refine qr_iload_n o (q_dm dm_X1_alikes 14 rfl) rfl ?_
  refine qr_callv_v (As := [.inl a1, .inl (M 4 a1.toNatClampNeg), .inl (M 5 a1.toNatClampNeg), .inl a2]) (S := []) o (a_X1_tellDeed g k.2.1 n j r hj hr a1 (M 4 a1.toNatClampNeg) (M 5 a1.toNatClampNeg) a2 M) (Nat.le_of_ble_eq_true rfl) zv_X1_tellDeed rfl cf_X1 (sh34 j r) ml_X1_40 (Nat.le_of_ble_eq_true rfl) (q_dm dm_X1_alikes 15 rfl) (fun _ m1 => ?_)
  refine qr_iconst o (q_dm dm_X1_alikes 16 rfl) ic_0 ?_
  refine qs_istore (L' := [some (.inr (some 34)), some (.inl a1), some (.inl a2), some (.inl (0 : Int32)), some (.inl (0 : Int32))]) o (q_dm dm_X1_alikes 17 rfl) (Nat.le_of_ble_eq_true rfl) rfl ?_
  exact qr_loc (q_leS (q_leS (q_leN (q_leS (q_leS q_le0))))) (w_X1_alikes_29 n j r hj hr o n a1 (0 : Int32) (0 : Int32) m1)

theorem a_X1_alikes (g : qG) (l : Launch) (n : Nat) (j r : Nat) (hj : q_isLaw j) (hr : q_isLaw r) (a1 a2 : Int32) (M : qM) : qAM g l 3 zX1_alikes (qL j r) [.inr (some 34), .inl a1, .inl a2] (qL j r, M) (f_X1_alikes n j a1 a2 M) :=
  qAM.of zv_X1_alikes.1 (by show 3 ≤ 5; decide) (fun k hk o => w_X1_alikes n j r hj hr o a1 a2 M)
def tb_X1_voidTries : List (Nat × Instr × Nat) := [(0, (.aload_n 0, 1)), (1, (.bipush 118, 2)), (3, (.bipush 99, 2)), (5, (.iconst 1, 1)), (6, (.invokevirtual 57, 3)), (9, (.ireturn, 1))]
theorem dm_X1_voidTries : ∀ q ∈ tb_X1_voidTries, decode zX1_voidTries.2.1 q.1 = .ok q.2 := by decide +kernel
def f_X1_voidTries (n : Nat) (j : Nat) (M : qM) : qR :=
  qc (f_X1_amount n j (118 : Int32) (99 : Int32) (1 : Int32) M) (fun r1 m2 => some (r1, m2))
set_option maxRecDepth 4000 in
theorem w_X1_voidTries {g : qG} {k : qK} (n : Nat) (j r : Nat) (hj : q_isLaw j) (hr : q_isLaw r) (o : qOk g 3 zX1_voidTries k) (M : qM) : qAE g k zX1_voidTries (qL j r) 0 [some (.inr (some 34))] [] (qL j r, M) (f_X1_voidTries n j  M) := by
  unfold f_X1_voidTries
  refine qr_aload_n o (q_dm dm_X1_voidTries 0 rfl) rfl ?_
  refine qr_bipush o (q_dm dm_X1_voidTries 1 rfl) bi_118 ?_
  refine qr_bipush o (q_dm dm_X1_voidTries 2 rfl) bi_99 ?_
  refine qr_iconst o (q_dm dm_X1_voidTries 3 rfl) ic_1 ?_
  refine qr_callv_i (As := [.inl (118 : Int32), .inl (99 : Int32), .inl (1 : Int32)]) (S := []) o (a_X1_amount g k.2.1 n j r hj hr (118 : Int32) (99 : Int32) (1 : Int32) M) (Nat.le_of_ble_eq_true rfl) zv_X1_amount rfl cf_X1 (sh34 j r) ml_X1_57 (Nat.le_of_ble_eq_true rfl) (q_dm dm_X1_voidTries 4 rfl) (fun r1 m2 => ?_)
  exact qr_iret o rfl rfl (q_dm dm_X1_voidTries 5 rfl)

theorem a_X1_voidTries (g : qG) (l : Launch) (n : Nat) (j r : Nat) (hj : q_isLaw j) (hr : q_isLaw r) (M : qM) : qAM g l 3 zX1_voidTries (qL j r) [.inr (some 34)] (qL j r, M) (f_X1_voidTries n j  M) :=
  qAM.of zv_X1_voidTries.1 (by show 1 ≤ 1; decide) (fun k hk o => w_X1_voidTries n j r hj hr o  M)
def tb_X0_attempt : List (Nat × Instr × Nat) := [(0, (.aload_n 0, 1)), (1, (.getfield 15, 3)), (4, (.iload_n 3, 1)), (5, (.aload_n 1, 1)), (6, (.getfield 19, 3)), (9, (.invokevirtual 25, 3)), (12, (.istore 5, 2)), (14, (.aload_n 0, 1)), (15, (.aload_n 1, 1)), (16, (.iload_n 2, 1)), (17, (.iload 5, 2)), (19, (.invokevirtual 31, 3)), (22, (.aload_n 0, 1)), (23, (.aload_n 1, 1)), (24, (.iload_n 2, 1)), (25, (.iload 5, 2)), (27, (.invokevirtual 35, 3)), (30, (.putfield 38, 3)), (33, (.aload_n 0, 1)), (34, (.aload_n 1, 1)), (35, (.iload_n 2, 1)), (36, (.iload_n 3, 1)), (37, (.iload 4, 2)), (39, (.invokevirtual 41, 3)), (42, (.aload_n 0, 1)), (43, (.aload_n 0, 1)), (44, (.getfield 15, 3)), (47, (.invokevirtual 45, 3)), (50, (.putfield 49, 3)), (53, (.aload_n 1, 1)), (54, (.iload_n 2, 1)), (55, (.iload_n 3, 1)), (56, (.invokevirtual 52, 3)), (59, (.aload_n 0, 1)), (60, (.getfield 38, 3)), (63, (.aload_n 0, 1)), (64, (.getfield 49, 3)), (67, (.if_icmp .ge 5, 3)), (70, (.iconst 0, 1)), (71, (.ireturn, 1)), (72, (.aload_n 1, 1)), (73, (.iload_n 2, 1)), (74, (.aload_n 0, 1)), (75, (.getfield 9, 3)), (78, (.getfield 56, 3)), (81, (.iload_n 3, 1)), (82, (.iaload, 1)), (83, (.invokevirtual 62, 3)), (86, (.ifCond .ne 6, 3)), (89, (.bipush (-2), 2)), (91, (.ireturn, 1)), (92, (.aload_n 1, 1)), (93, (.iload_n 2, 1)), (94, (.iload_n 3, 1)), (95, (.invokevirtual 66, 3)), (98, (.iconst 1, 1)), (99, (.ireturn, 1))]
theorem dm_X0_attempt : ∀ q ∈ tb_X0_attempt, decode zX0_attempt.2.1 q.1 = .ok q.2 := by decide +kernel
def f_X0_attempt (n : Nat) (t j : Nat) (a2 a3 a4 : Int32) (M : qM) : qR :=
  qc (f_X1_alikes n j a3 (M t 9) M) (fun r1 m2 => qc (f_X0_forget n t j a2 r1 m2) (fun _ m3 => qc (f_X10_triesAmong n t a2 r1 m3) (fun r4 m5 => qlm (mu m5 44 2 r4) (fun m6 => qc (f_X0_tellAll n t a2 a3 a4 m6) (fun _ m7 => qc (f_X1_voidTries n j m7) (fun r8 m9 => qlm (mu m9 44 3 r8) (fun m10 => qc (f_X10_addTry n t a2 a3 m10) (fun _ m11 => (if (m11 44 3) ≤ (m11 44 2) then qg a3 12 (qc (f_X10_hasCounted n t a2 (m11 6 a3.toNatClampNeg) m11) (fun r12 m13 => (if r12 = (0 : Int32) then some ((-2 : Int32), m13) else qc (f_X10_addCounted n t a2 a3 m13) (fun _ m14 => some ((1 : Int32), m14))))) else some ((0 : Int32), m11))))))))))
set_option maxRecDepth 4000 in
theorem w_X0_attempt {g : qG} {k : qK} (n : Nat) (j r : Nat) (hj : q_isLaw j) (hr : q_isLaw r) {t : Nat} (ht : q_isTown t) (o : qOk g 4 zX0_attempt k) (a2 a3 a4 : Int32) (M : qM) : qAE g k zX0_attempt (qL j r) 0 [some (.inr (some 44)), some (.inr (some t)), some (.inl a2), some (.inl a3), some (.inl a4), none] [] (qL j r, M) (f_X0_attempt n t j a2 a3 a4 M) := by
  unfold f_X0_attempt
  refine qr_aload_n o (q_dm dm_X0_attempt 0 rfl) rfl ?_
  refine qr_getr (kf := 1) o cf_X0 (sh44 j r) rfl (Nat.le_of_ble_eq_true rfl) fl_X0_15 (q_dm dm_X0_attempt 1 rfl) ?_
  refine qr_iload_n o (q_dm dm_X0_attempt 2 rfl) rfl ?_
  refine qr_aload_n o (q_dm dm_X0_attempt 3 rfl) rfl ?_
  refine qr_getf (kf := 9) o cf_X10 (shT0 j r ht) rfl (Nat.le_of_ble_eq_true rfl) fl_X0_19 (q_dm dm_X0_attempt 4 rfl) ?_
  refine qr_callv_i (As := [.inl a3, .inl (M t 9)]) (S := []) o (a_X1_alikes g k.2.1 n j r hj hr a3 (M t 9) M) (Nat.le_of_ble_eq_true rfl) zv_X1_alikes rfl cf_X1 (sh34 j r) ml_X0_25 (Nat.le_of_ble_eq_true rfl) (q_dm dm_X0_attempt 5 rfl) (fun r1 m2 => ?_)
  refine qs_istore (L' := [some (.inr (some 44)), some (.inr (some t)), some (.inl a2), some (.inl a3), some (.inl a4), some (.inl r1)]) o (q_dm dm_X0_attempt 6 rfl) (Nat.le_of_ble_eq_true rfl) rfl ?_
  refine qr_aload_n o (q_dm dm_X0_attempt 7 rfl) rfl ?_
  refine qr_aload_n o (q_dm dm_X0_attempt 8 rfl) rfl ?_
  refine qr_iload_n o (q_dm dm_X0_attempt 9 rfl) rfl ?_
  refine qr_iload o (q_dm dm_X0_attempt 10 rfl) rfl ?_
  refine qr_callv_v (As := [.inr (some t), .inl a2, .inl r1]) (S := []) o (a_X0_forget g k.2.1 n j r hj hr ht a2 r1 m2) (Nat.le_of_ble_eq_true rfl) zv_X0_forget rfl cf_X0 (sh44 j r) ml_X0_31 (Nat.le_of_ble_eq_true rfl) (q_dm dm_X0_attempt 11 rfl) (fun _ m3 => ?_)
  refine qr_aload_n o (q_dm dm_X0_attempt 12 rfl) rfl ?_
  refine qr_aload_n o (q_dm dm_X0_attempt 13 rfl) rfl ?_
  refine qr_iload_n o (q_dm dm_X0_attempt 14 rfl) rfl ?_
  refine qr_iload o (q_dm dm_X0_attempt 15 rfl) rfl ?_
  refine qr_callv_i (As := [.inl a2, .inl r1]) (S := [.inr (some 44)]) o (a_X10_triesAmong g k.2.1 n j r hj hr ht a2 r1 m3) (Nat.le_of_ble_eq_true rfl) zv_X10_triesAmong rfl cf_X10 (shT0 j r ht) ml_X0_35 (Nat.le_of_ble_eq_true rfl) (q_dm dm_X0_attempt 16 rfl) (fun r4 m5 => ?_)
  refine qr_putf (kf := 2) o cf_X0 (sh44 j r) rfl (Nat.le_of_ble_eq_true rfl) fl_X0_38 rfl (by decide +kernel) (q_dm dm_X0_attempt 17 rfl) ?_
  refine qr_letm (fun m6 => ?_)
  refine qr_aload_n o (q_dm dm_X0_attempt 18 rfl) rfl ?_
  refine qr_aload_n o (q_dm dm_X0_attempt 19 rfl) rfl ?_
  refine qr_iload_n o (q_dm dm_X0_attempt 20 rfl) rfl ?_
  refine qr_iload_n o (q_dm dm_X0_attempt 21 rfl) rfl ?_
  refine qr_iload o (q_dm dm_X0_attempt 22 rfl) rfl ?_
  refine qr_callv_v (As := [.inr (some t), .inl a2, .inl a3, .inl a4]) (S := []) o (a_X0_tellAll g k.2.1 n j r hj hr ht a2 a3 a4 m6) (Nat.le_of_ble_eq_true rfl) zv_X0_tellAll rfl cf_X0 (sh44 j r) ml_X0_41 (Nat.le_of_ble_eq_true rfl) (q_dm dm_X0_attempt 23 rfl) (fun _ m7 => ?_)
  refine qr_aload_n o (q_dm dm_X0_attempt 24 rfl) rfl ?_
  refine qr_aload_n o (q_dm dm_X0_attempt 25 rfl) rfl ?_
  refine qr_getr (kf := 1) o cf_X0 (sh44 j r) rfl (Nat.le_of_ble_eq_true rfl) fl_X0_15 (q_dm dm_X0_attempt 26 rfl) ?_
  refine qr_callv_i (As := []) (S := [.inr (some 44)]) o (a_X1_voidTries g k.2.1 n j r hj hr  m7) (Nat.le_of_ble_eq_true rfl) zv_X1_voidTries rfl cf_X1 (sh34 j r) ml_X0_45 (Nat.le_of_ble_eq_true rfl) (q_dm dm_X0_attempt 27 rfl) (fun r8 m9 => ?_)
  refine qr_putf (kf := 3) o cf_X0 (sh44 j r) rfl (Nat.le_of_ble_eq_true rfl) fl_X0_49 rfl (by decide +kernel) (q_dm dm_X0_attempt 28 rfl) ?_
  refine qr_letm (fun m10 => ?_)
  refine qr_aload_n o (q_dm dm_X0_attempt 29 rfl) rfl ?_
  refine qr_iload_n o (q_dm dm_X0_attempt 30 rfl) rfl ?_
  refine qr_iload_n o (q_dm dm_X0_attempt 31 rfl) rfl ?_
  refine qr_callv_v (As := [.inl a2, .inl a3]) (S := []) o (a_X10_addTry g k.2.1 n j r hj hr ht a2 a3 m10) (Nat.le_of_ble_eq_true rfl) zv_X10_addTry rfl cf_X10 (shT0 j r ht) ml_X0_52 (Nat.le_of_ble_eq_true rfl) (q_dm dm_X0_attempt 32 rfl) (fun _ m11 => ?_)
  refine qr_aload_n o (q_dm dm_X0_attempt 33 rfl) rfl ?_
  refine qr_getf (kf := 2) o cf_X0 (sh44 j r) rfl (Nat.le_of_ble_eq_true rfl) fl_X0_38 (q_dm dm_X0_attempt 34 rfl) ?_
  refine qr_aload_n o (q_dm dm_X0_attempt 35 rfl) rfl ?_
  refine qr_getf (kf := 3) o cf_X0 (sh44 j r) rfl (Nat.le_of_ble_eq_true rfl) fl_X0_49 (q_dm dm_X0_attempt 36 rfl) ?_
  refine qr_icmp_ge (tgt := 72) o (q_dm dm_X0_attempt 37 rfl) (by decide) ?_ ?_
  · refine qr_aload_n o (q_dm dm_X0_attempt 40 rfl) rfl ?_
    refine qr_iload_n o (q_dm dm_X0_attempt 41 rfl) rfl ?_
    refine qr_aload_n o (q_dm dm_X0_attempt 42 rfl) rfl ?_
    refine qr_getr (kf := 0) o cf_X0 (sh44 j r) rfl (Nat.le_of_ble_eq_true rfl) fl_X0_9 (q_dm dm_X0_attempt 43 rfl) ?_
    refine qr_getr (kf := 2) o cf_X2 (sh3 j r) rfl (Nat.le_of_ble_eq_true rfl) fl_X0_56 (q_dm dm_X0_attempt 44 rfl) ?_
    refine qr_iload_n o (q_dm dm_X0_attempt 45 rfl) rfl ?_
    refine qr_iald o (sh6 j r) (q_dm dm_X0_attempt 46 rfl) ?_
    refine qr_callv_i (As := [.inl a2, .inl (m11 6 a3.toNatClampNeg)]) (S := []) o (a_X10_hasCounted g k.2.1 n j r hj hr ht a2 (m11 6 a3.toNatClampNeg) m11) (Nat.le_of_ble_eq_true rfl) zv_X10_hasCounted rfl cf_X10 (shT0 j r ht) ml_X0_62 (Nat.le_of_ble_eq_true rfl) (q_dm dm_X0_attempt 47 rfl) (fun r12 m13 => ?_)
    refine qr_if_ne (tgt := 92) o (q_dm dm_X0_attempt 48 rfl) (by decide) ?_ ?_
    · refine qr_aload_n o (q_dm dm_X0_attempt 51 rfl) rfl ?_
      refine qr_iload_n o (q_dm dm_X0_attempt 52 rfl) rfl ?_
      refine qr_iload_n o (q_dm dm_X0_attempt 53 rfl) rfl ?_
      refine qr_callv_v (As := [.inl a2, .inl a3]) (S := []) o (a_X10_addCounted g k.2.1 n j r hj hr ht a2 a3 m13) (Nat.le_of_ble_eq_true rfl) zv_X10_addCounted rfl cf_X10 (shT0 j r ht) ml_X0_66 (Nat.le_of_ble_eq_true rfl) (q_dm dm_X0_attempt 54 rfl) (fun _ m14 => ?_)
      refine qr_iconst o (q_dm dm_X0_attempt 55 rfl) ic_1 ?_
      exact qr_iret o rfl rfl (q_dm dm_X0_attempt 56 rfl)
    · refine qr_bipush o (q_dm dm_X0_attempt 49 rfl) bi_m2 ?_
      exact qr_iret o rfl rfl (q_dm dm_X0_attempt 50 rfl)
  · refine qr_iconst o (q_dm dm_X0_attempt 38 rfl) ic_0 ?_
    exact qr_iret o rfl rfl (q_dm dm_X0_attempt 39 rfl)

theorem a_X0_attempt (g : qG) (l : Launch) (n : Nat) (j r : Nat) (hj : q_isLaw j) (hr : q_isLaw r) {t : Nat} (ht : q_isTown t) (a2 a3 a4 : Int32) (M : qM) : qAM g l 4 zX0_attempt (qL j r) [.inr (some 44), .inr (some t), .inl a2, .inl a3, .inl a4] (qL j r, M) (f_X0_attempt n t j a2 a3 a4 M) :=
  qAM.of zv_X0_attempt.1 (by show 5 ≤ 6; decide) (fun k hk o => w_X0_attempt n j r hj hr ht o a2 a3 a4 M)
def tb_X0_price : List (Nat × Instr × Nat) := [(0, (.aload_n 0, 1)), (1, (.aload_n 1, 1)), (2, (.iload_n 2, 1)), (3, (.iload_n 3, 1)), (4, (.iload 4, 2)), (6, (.invokevirtual 41, 3)), (9, (.aload_n 0, 1)), (10, (.getfield 15, 3)), (13, (.bipush 99, 2)), (15, (.sipush 999, 3)), (18, (.iconst 0, 1)), (19, (.invokevirtual 69, 3)), (22, (.ireturn, 1))]
theorem dm_X0_price : ∀ q ∈ tb_X0_price, decode zX0_price.2.1 q.1 = .ok q.2 := by decide +kernel
def f_X0_price (n : Nat) (t j : Nat) (a2 a3 a4 : Int32) (M : qM) : qR :=
  qc (f_X0_tellAll n t a2 a3 a4 M) (fun _ m1 => qc (f_X1_amount n j (99 : Int32) (999 : Int32) (0 : Int32) m1) (fun r2 m3 => some (r2, m3)))
set_option maxRecDepth 4000 in
theorem w_X0_price {g : qG} {k : qK} (n : Nat) (j r : Nat) (hj : q_isLaw j) (hr : q_isLaw r) {t : Nat} (ht : q_isTown t) (o : qOk g 3 zX0_price k) (a2 a3 a4 : Int32) (M : qM) : qAE g k zX0_price (qL j r) 0 [some (.inr (some 44)), some (.inr (some t)), some (.inl a2), some (.inl a3), some (.inl a4)] [] (qL j r, M) (f_X0_price n t j a2 a3 a4 M) := by
  unfold f_X0_price
  refine qr_aload_n o (q_dm dm_X0_price 0 rfl) rfl ?_
  refine qr_aload_n o (q_dm dm_X0_price 1 rfl) rfl ?_
  refine qr_iload_n o (q_dm dm_X0_price 2 rfl) rfl ?_
  refine qr_iload_n o (q_dm dm_X0_price 3 rfl) rfl ?_
  refine qr_iload o (q_dm dm_X0_price 4 rfl) rfl ?_
  refine qr_callv_v (As := [.inr (some t), .inl a2, .inl a3, .inl a4]) (S := []) o (a_X0_tellAll g k.2.1 n j r hj hr ht a2 a3 a4 M) (Nat.le_of_ble_eq_true rfl) zv_X0_tellAll rfl cf_X0 (sh44 j r) ml_X0_41 (Nat.le_of_ble_eq_true rfl) (q_dm dm_X0_price 5 rfl) (fun _ m1 => ?_)
  refine qr_aload_n o (q_dm dm_X0_price 6 rfl) rfl ?_
  refine qr_getr (kf := 1) o cf_X0 (sh44 j r) rfl (Nat.le_of_ble_eq_true rfl) fl_X0_15 (q_dm dm_X0_price 7 rfl) ?_
  refine qr_bipush o (q_dm dm_X0_price 8 rfl) bi_99 ?_
  refine qr_sipush o (q_dm dm_X0_price 9 rfl) si_999 ?_
  refine qr_iconst o (q_dm dm_X0_price 10 rfl) ic_0 ?_
  refine qr_callv_i (As := [.inl (99 : Int32), .inl (999 : Int32), .inl (0 : Int32)]) (S := []) o (a_X1_amount g k.2.1 n j r hj hr (99 : Int32) (999 : Int32) (0 : Int32) m1) (Nat.le_of_ble_eq_true rfl) zv_X1_amount rfl cf_X1 (sh34 j r) ml_X0_69 (Nat.le_of_ble_eq_true rfl) (q_dm dm_X0_price 11 rfl) (fun r2 m3 => ?_)
  exact qr_iret o rfl rfl (q_dm dm_X0_price 12 rfl)

theorem a_X0_price (g : qG) (l : Launch) (n : Nat) (j r : Nat) (hj : q_isLaw j) (hr : q_isLaw r) {t : Nat} (ht : q_isTown t) (a2 a3 a4 : Int32) (M : qM) : qAM g l 3 zX0_price (qL j r) [.inr (some 44), .inr (some t), .inl a2, .inl a3, .inl a4] (qL j r, M) (f_X0_price n t j a2 a3 a4 M) :=
  qAM.of zv_X0_price.1 (by show 5 ≤ 5; decide) (fun k hk o => w_X0_price n j r hj hr ht o a2 a3 a4 M)
def tb_X0_buyGo : List (Nat × Instr × Nat) := [(0, (.aload_n 1, 1)), (1, (.getfield 73, 3)), (4, (.iload 4, 2)), (6, (.bipush 12, 2)), (8, (.imul, 1)), (9, (.iload_n 3, 1)), (10, (.iadd, 1)), (11, (.iaload, 1)), (12, (.ifCond .ne 6, 3)), (15, (.bipush (-3), 2)), (17, (.ireturn, 1)), (18, (.aload_n 0, 1)), (19, (.aload_n 1, 1)), (20, (.iload_n 2, 1)), (21, (.iload_n 3, 1)), (22, (.iload 4, 2)), (24, (.invokevirtual 76, 3)), (27, (.istore 5, 2)), (29, (.aload_n 1, 1)), (30, (.getfield 80, 3)), (33, (.iload_n 2, 1)), (34, (.iaload, 1)), (35, (.iload 5, 2)), (37, (.if_icmp .ge 6, 3)), (40, (.bipush (-2), 2)), (42, (.ireturn, 1)), (43, (.aload_n 1, 1)), (44, (.getfield 80, 3)), (47, (.iload_n 2, 1)), (48, (.dup2, 1)), (49, (.iaload, 1)), (50, (.iload 5, 2)), (52, (.isub, 1)), (53, (.iastore, 1)), (54, (.aload_n 1, 1)), (55, (.getfield 80, 3)), (58, (.iload 4, 2)), (60, (.ldc 83, 2)), (62, (.aload_n 1, 1)), (63, (.getfield 80, 3)), (66, (.iload 4, 2)), (68, (.iaload, 1)), (69, (.iload 5, 2)), (71, (.iadd, 1)), (72, (.invokestatic 84, 3)), (75, (.iastore, 1)), (76, (.aload_n 1, 1)), (77, (.getfield 73, 3)), (80, (.iload 4, 2)), (82, (.bipush 12, 2)), (84, (.imul, 1)), (85, (.iload_n 3, 1)), (86, (.iadd, 1)), (87, (.dup2, 1)), (88, (.iaload, 1)), (89, (.iconst 1, 1)), (90, (.isub, 1)), (91, (.iastore, 1)), (92, (.aload_n 1, 1)), (93, (.iload_n 2, 1)), (94, (.iload_n 3, 1)), (95, (.invokevirtual 52, 3)), (98, (.iload 5, 2)), (100, (.ireturn, 1))]
theorem dm_X0_buyGo : ∀ q ∈ tb_X0_buyGo, decode zX0_buyGo.2.1 q.1 = .ok q.2 := by decide +kernel
def f_X0_buyGo (n : Nat) (t j : Nat) (a2 a3 a4 : Int32) (M : qM) : qR :=
  qg ((a4 * (12 : Int32)) + a3) 96 ((if (M (t + 2) ((a4 * (12 : Int32)) + a3).toNatClampNeg) = (0 : Int32) then some ((-3 : Int32), M) else qc (f_X0_price n t j a2 a3 a4 M) (fun r1 m2 => qg a2 8 ((if r1 ≤ (m2 (t + 1) a2.toNatClampNeg) then qg a2 8 (qg a2 8 (qlm (mu m2 (t + 1) a2.toNatClampNeg ((m2 (t + 1) a2.toNatClampNeg) - r1)) (fun m3 => qg a4 8 (qg a4 8 (qlm (mu m3 (t + 1) a4.toNatClampNeg (qmin (99999 : Int32) ((m3 (t + 1) a4.toNatClampNeg) + r1))) (fun m4 => ql ((a4 * (12 : Int32)) + a3) (fun x5 => qg x5 96 (qg x5 96 (qlm (mu m4 (t + 2) x5.toNatClampNeg ((m4 (t + 2) x5.toNatClampNeg) - (1 : Int32))) (fun m6 => qc (f_X10_addTry n t a2 a3 m6) (fun _ m7 => some (r1, m7)))))))))))) else some ((-2 : Int32), m2))))))
set_option maxRecDepth 4000 in
theorem w_X0_buyGo {g : qG} {k : qK} (n : Nat) (j r : Nat) (hj : q_isLaw j) (hr : q_isLaw r) {t : Nat} (ht : q_isTown t) (o : qOk g 4 zX0_buyGo k) (a2 a3 a4 : Int32) (M : qM) : qAE g k zX0_buyGo (qL j r) 0 [some (.inr (some 44)), some (.inr (some t)), some (.inl a2), some (.inl a3), some (.inl a4), none] [] (qL j r, M) (f_X0_buyGo n t j a2 a3 a4 M) := by
  unfold f_X0_buyGo
  refine qr_aload_n o (q_dm dm_X0_buyGo 0 rfl) rfl ?_
  refine qr_getr (kf := 1) o cf_X10 (shT0 j r ht) rfl (Nat.le_of_ble_eq_true rfl) fl_X0_73 (q_dm dm_X0_buyGo 1 rfl) ?_
  refine qr_iload o (q_dm dm_X0_buyGo 2 rfl) rfl ?_
  refine qr_bipush o (q_dm dm_X0_buyGo 3 rfl) bi_12 ?_
  refine qr_imul o (q_dm dm_X0_buyGo 4 rfl) ?_
  refine qr_iload_n o (q_dm dm_X0_buyGo 5 rfl) rfl ?_
  refine qr_iadd o (q_dm dm_X0_buyGo 6 rfl) ?_
  refine qr_iald o (shT2 j r ht) (q_dm dm_X0_buyGo 7 rfl) ?_
  refine qr_if_ne (tgt := 18) o (q_dm dm_X0_buyGo 8 rfl) (by decide) ?_ ?_
  · refine qr_aload_n o (q_dm dm_X0_buyGo 11 rfl) rfl ?_
    refine qr_aload_n o (q_dm dm_X0_buyGo 12 rfl) rfl ?_
    refine qr_iload_n o (q_dm dm_X0_buyGo 13 rfl) rfl ?_
    refine qr_iload_n o (q_dm dm_X0_buyGo 14 rfl) rfl ?_
    refine qr_iload o (q_dm dm_X0_buyGo 15 rfl) rfl ?_
    refine qr_callv_i (As := [.inr (some t), .inl a2, .inl a3, .inl a4]) (S := []) o (a_X0_price g k.2.1 n j r hj hr ht a2 a3 a4 M) (Nat.le_of_ble_eq_true rfl) zv_X0_price rfl cf_X0 (sh44 j r) ml_X0_76 (Nat.le_of_ble_eq_true rfl) (q_dm dm_X0_buyGo 16 rfl) (fun r1 m2 => ?_)
    refine qs_istore (L' := [some (.inr (some 44)), some (.inr (some t)), some (.inl a2), some (.inl a3), some (.inl a4), some (.inl r1)]) o (q_dm dm_X0_buyGo 17 rfl) (Nat.le_of_ble_eq_true rfl) rfl ?_
    refine qr_aload_n o (q_dm dm_X0_buyGo 18 rfl) rfl ?_
    refine qr_getr (kf := 0) o cf_X10 (shT0 j r ht) rfl (Nat.le_of_ble_eq_true rfl) fl_X0_80 (q_dm dm_X0_buyGo 19 rfl) ?_
    refine qr_iload_n o (q_dm dm_X0_buyGo 20 rfl) rfl ?_
    refine qr_iald o (shT1 j r ht) (q_dm dm_X0_buyGo 21 rfl) ?_
    refine qr_iload o (q_dm dm_X0_buyGo 22 rfl) rfl ?_
    refine qr_icmp_ge (tgt := 43) o (q_dm dm_X0_buyGo 23 rfl) (by decide) ?_ ?_
    · refine qr_aload_n o (q_dm dm_X0_buyGo 26 rfl) rfl ?_
      refine qr_getr (kf := 0) o cf_X10 (shT0 j r ht) rfl (Nat.le_of_ble_eq_true rfl) fl_X0_80 (q_dm dm_X0_buyGo 27 rfl) ?_
      refine qr_iload_n o (q_dm dm_X0_buyGo 28 rfl) rfl ?_
      refine qr_dup2 o (q_dm dm_X0_buyGo 29 rfl) ?_
      refine qr_iald o (shT1 j r ht) (q_dm dm_X0_buyGo 30 rfl) ?_
      refine qr_iload o (q_dm dm_X0_buyGo 31 rfl) rfl ?_
      refine qr_isub o (q_dm dm_X0_buyGo 32 rfl) ?_
      refine qr_iast o (shT1 j r ht) (q_dm dm_X0_buyGo 33 rfl) ?_
      refine qr_letm (fun m3 => ?_)
      refine qr_aload_n o (q_dm dm_X0_buyGo 34 rfl) rfl ?_
      refine qr_getr (kf := 0) o cf_X10 (shT0 j r ht) rfl (Nat.le_of_ble_eq_true rfl) fl_X0_80 (q_dm dm_X0_buyGo 35 rfl) ?_
      refine qr_iload o (q_dm dm_X0_buyGo 36 rfl) rfl ?_
      refine qr_ldc o (q_dm dm_X0_buyGo 37 rfl) kc_X0_83 ?_
      refine qr_aload_n o (q_dm dm_X0_buyGo 38 rfl) rfl ?_
      refine qr_getr (kf := 0) o cf_X10 (shT0 j r ht) rfl (Nat.le_of_ble_eq_true rfl) fl_X0_80 (q_dm dm_X0_buyGo 39 rfl) ?_
      refine qr_iload o (q_dm dm_X0_buyGo 40 rfl) rfl ?_
      refine qr_iald o (shT1 j r ht) (q_dm dm_X0_buyGo 41 rfl) ?_
      refine qr_iload o (q_dm dm_X0_buyGo 42 rfl) rfl ?_
      refine qr_iadd o (q_dm dm_X0_buyGo 43 rfl) ?_
      refine qr_min o ml_X0_84 (by omega) (Nat.le_of_ble_eq_true rfl) (q_dm dm_X0_buyGo 44 rfl) ?_
      refine qr_iast o (shT1 j r ht) (q_dm dm_X0_buyGo 45 rfl) ?_
      refine qr_letm (fun m4 => ?_)
      refine qr_aload_n o (q_dm dm_X0_buyGo 46 rfl) rfl ?_
      refine qr_getr (kf := 1) o cf_X10 (shT0 j r ht) rfl (Nat.le_of_ble_eq_true rfl) fl_X0_73 (q_dm dm_X0_buyGo 47 rfl) ?_
      refine qr_iload o (q_dm dm_X0_buyGo 48 rfl) rfl ?_
      refine qr_bipush o (q_dm dm_X0_buyGo 49 rfl) bi_12 ?_
      refine qr_imul o (q_dm dm_X0_buyGo 50 rfl) ?_
      refine qr_iload_n o (q_dm dm_X0_buyGo 51 rfl) rfl ?_
      refine qr_iadd o (q_dm dm_X0_buyGo 52 rfl) ?_
      refine qr_lt (fun x5 => ?_)
      refine qr_dup2 o (q_dm dm_X0_buyGo 53 rfl) ?_
      refine qr_iald o (shT2 j r ht) (q_dm dm_X0_buyGo 54 rfl) ?_
      refine qr_iconst o (q_dm dm_X0_buyGo 55 rfl) ic_1 ?_
      refine qr_isub o (q_dm dm_X0_buyGo 56 rfl) ?_
      refine qr_iast o (shT2 j r ht) (q_dm dm_X0_buyGo 57 rfl) ?_
      refine qr_letm (fun m6 => ?_)
      refine qr_aload_n o (q_dm dm_X0_buyGo 58 rfl) rfl ?_
      refine qr_iload_n o (q_dm dm_X0_buyGo 59 rfl) rfl ?_
      refine qr_iload_n o (q_dm dm_X0_buyGo 60 rfl) rfl ?_
      refine qr_callv_v (As := [.inl a2, .inl a3]) (S := []) o (a_X10_addTry g k.2.1 n j r hj hr ht a2 a3 m6) (Nat.le_of_ble_eq_true rfl) zv_X10_addTry rfl cf_X10 (shT0 j r ht) ml_X0_52 (Nat.le_of_ble_eq_true rfl) (q_dm dm_X0_buyGo 61 rfl) (fun _ m7 => ?_)
      refine qr_iload o (q_dm dm_X0_buyGo 62 rfl) rfl ?_
      exact qr_iret o rfl rfl (q_dm dm_X0_buyGo 63 rfl)
    · refine qr_bipush o (q_dm dm_X0_buyGo 24 rfl) bi_m2 ?_
      exact qr_iret o rfl rfl (q_dm dm_X0_buyGo 25 rfl)
  · refine qr_bipush o (q_dm dm_X0_buyGo 9 rfl) bi_m3 ?_
    exact qr_iret o rfl rfl (q_dm dm_X0_buyGo 10 rfl)

theorem a_X0_buyGo (g : qG) (l : Launch) (n : Nat) (j r : Nat) (hj : q_isLaw j) (hr : q_isLaw r) {t : Nat} (ht : q_isTown t) (a2 a3 a4 : Int32) (M : qM) : qAM g l 4 zX0_buyGo (qL j r) [.inr (some 44), .inr (some t), .inl a2, .inl a3, .inl a4] (qL j r, M) (f_X0_buyGo n t j a2 a3 a4 M) :=
  qAM.of zv_X0_buyGo.1 (by show 5 ≤ 6; decide) (fun k hk o => w_X0_buyGo n j r hj hr ht o a2 a3 a4 M)
def tb_X0_cameOfDays : List (Nat × Instr × Nat) := [(0, (.iload_n 1, 1)), (1, (.tableswitch 60 0 4 #[35, 40, 45, 50, 55], 35)), (36, (.aload_n 0, 1)), (37, (.getfield 89, 3)), (40, (.ireturn, 1)), (41, (.aload_n 0, 1)), (42, (.getfield 92, 3)), (45, (.ireturn, 1)), (46, (.aload_n 0, 1)), (47, (.getfield 98, 3)), (50, (.ireturn, 1)), (51, (.aload_n 0, 1)), (52, (.getfield 101, 3)), (55, (.ireturn, 1)), (56, (.aload_n 0, 1)), (57, (.getfield 104, 3)), (60, (.ireturn, 1)), (61, (.aload_n 0, 1)), (62, (.getfield 95, 3)), (65, (.ireturn, 1))]
theorem dm_X0_cameOfDays : ∀ q ∈ tb_X0_cameOfDays, decode zX0_cameOfDays.2.1 q.1 = .ok q.2 := by decide +kernel
def f_X0_cameOfDays (n : Nat) (a1 : Int32) (M : qM) : qR :=
  qsw a1 [((0 : Int32), some ((M 44 4), M)), ((1 : Int32), some ((M 44 5), M)), ((2 : Int32), some ((M 44 7), M)), ((3 : Int32), some ((M 44 8), M)), ((4 : Int32), some ((M 44 9), M))] (some ((M 44 6), M))
set_option maxRecDepth 4000 in
theorem w_X0_cameOfDays {g : qG} {k : qK} (n : Nat) (j r : Nat) (hj : q_isLaw j) (hr : q_isLaw r) (o : qOk g 0 zX0_cameOfDays k) (a1 : Int32) (M : qM) : qAE g k zX0_cameOfDays (qL j r) 0 [some (.inr (some 44)), some (.inl a1)] [] (qL j r, M) (f_X0_cameOfDays n a1 M) := by
  unfold f_X0_cameOfDays
  refine qr_iload_n o (q_dm dm_X0_cameOfDays 0 rfl) rfl ?_
  refine qr_tablep (tgt := 61) o (q_dm dm_X0_cameOfDays 1 rfl) (by show (_ : Int) + (5 : Nat) = _; decide) (by decide) ?_ (q_tbc (35) 36 (by decide) rfl (by decide) ?_ (q_tbc (40) 41 (by decide) rfl (by decide) ?_ (q_tbc (45) 46 (by decide) rfl (by decide) ?_ (q_tbc (50) 51 (by decide) rfl (by decide) ?_ (q_tbc (55) 56 (by decide) rfl (by decide) ?_ q_tbn)))))
  · refine qr_aload_n o (q_dm dm_X0_cameOfDays 17 rfl) rfl ?_
    refine qr_getf (kf := 6) o cf_X0 (sh44 j r) rfl (Nat.le_of_ble_eq_true rfl) fl_X0_95 (q_dm dm_X0_cameOfDays 18 rfl) ?_
    exact qr_iret o rfl rfl (q_dm dm_X0_cameOfDays 19 rfl)
  · refine qr_aload_n o (q_dm dm_X0_cameOfDays 2 rfl) rfl ?_
    refine qr_getf (kf := 4) o cf_X0 (sh44 j r) rfl (Nat.le_of_ble_eq_true rfl) fl_X0_89 (q_dm dm_X0_cameOfDays 3 rfl) ?_
    exact qr_iret o rfl rfl (q_dm dm_X0_cameOfDays 4 rfl)
  · refine qr_aload_n o (q_dm dm_X0_cameOfDays 5 rfl) rfl ?_
    refine qr_getf (kf := 5) o cf_X0 (sh44 j r) rfl (Nat.le_of_ble_eq_true rfl) fl_X0_92 (q_dm dm_X0_cameOfDays 6 rfl) ?_
    exact qr_iret o rfl rfl (q_dm dm_X0_cameOfDays 7 rfl)
  · refine qr_aload_n o (q_dm dm_X0_cameOfDays 8 rfl) rfl ?_
    refine qr_getf (kf := 7) o cf_X0 (sh44 j r) rfl (Nat.le_of_ble_eq_true rfl) fl_X0_98 (q_dm dm_X0_cameOfDays 9 rfl) ?_
    exact qr_iret o rfl rfl (q_dm dm_X0_cameOfDays 10 rfl)
  · refine qr_aload_n o (q_dm dm_X0_cameOfDays 11 rfl) rfl ?_
    refine qr_getf (kf := 8) o cf_X0 (sh44 j r) rfl (Nat.le_of_ble_eq_true rfl) fl_X0_101 (q_dm dm_X0_cameOfDays 12 rfl) ?_
    exact qr_iret o rfl rfl (q_dm dm_X0_cameOfDays 13 rfl)
  · refine qr_aload_n o (q_dm dm_X0_cameOfDays 14 rfl) rfl ?_
    refine qr_getf (kf := 9) o cf_X0 (sh44 j r) rfl (Nat.le_of_ble_eq_true rfl) fl_X0_104 (q_dm dm_X0_cameOfDays 15 rfl) ?_
    exact qr_iret o rfl rfl (q_dm dm_X0_cameOfDays 16 rfl)

theorem a_X0_cameOfDays (g : qG) (l : Launch) (n : Nat) (j r : Nat) (hj : q_isLaw j) (hr : q_isLaw r) (a1 : Int32) (M : qM) : qAM g l 0 zX0_cameOfDays (qL j r) [.inr (some 44), .inl a1] (qL j r, M) (f_X0_cameOfDays n a1 M) :=
  qAM.of zv_X0_cameOfDays.1 (by show 2 ≤ 2; decide) (fun k hk o => w_X0_cameOfDays n j r hj hr o a1 M)
def tb_X0_noteOutcome : List (Nat × Instr × Nat) := [(0, (.iload 4, 2)), (2, (.iconst 1, 1)), (3, (.if_icmp .ne 13, 3)), (6, (.aload_n 0, 1)), (7, (.dup, 1)), (8, (.getfield 92, 3)), (11, (.iconst 1, 1)), (12, (.iadd, 1)), (13, (.putfield 92, 3)), (16, (.iload 4, 2)), (18, (.bipush (-2), 2)), (20, (.if_icmp .ne 27, 3)), (23, (.aload_n 0, 1)), (24, (.getfield 98, 3)), (27, (.bipush (-2), 2)), (29, (.if_icmp .ne 18, 3)), (32, (.aload_n 0, 1)), (33, (.iload_n 1, 1)), (34, (.putfield 98, 3)), (37, (.aload_n 0, 1)), (38, (.iload_n 2, 1)), (39, (.putfield 101, 3)), (42, (.aload_n 0, 1)), (43, (.iload_n 3, 1)), (44, (.putfield 104, 3)), (47, (.return_, 1))]
theorem dm_X0_noteOutcome : ∀ q ∈ tb_X0_noteOutcome, decode zX0_noteOutcome.2.1 q.1 = .ok q.2 := by decide +kernel
def f_X0_noteOutcome_16 (n : Nat) (a1 a2 a3 a4 : Int32) (M : qM) : qR :=
  (if a4 = (-2 : Int32) then (if (M 44 7) = (-2 : Int32) then qlm (mu M 44 7 a1) (fun m1 => qlm (mu m1 44 8 a2) (fun m2 => qlm (mu m2 44 9 a3) (fun m3 => some (0, m3)))) else some (0, M)) else some (0, M))
set_option maxRecDepth 4000 in
theorem w_X0_noteOutcome_16 {g : qG} {k : qK} (n : Nat) (j r : Nat) (hj : q_isLaw j) (hr : q_isLaw r) (o : qOk g 0 zX0_noteOutcome k) (a1 a2 a3 a4 : Int32) (M : qM) : qAE g k zX0_noteOutcome (qL j r) 16 [some (.inr (some 44)), some (.inl a1), some (.inl a2), some (.inl a3), some (.inl a4)] [] (qL j r, M) (f_X0_noteOutcome_16 n a1 a2 a3 a4 M) := by
  unfold f_X0_noteOutcome_16
  refine qr_iload o (q_dm dm_X0_noteOutcome 9 rfl) rfl ?_
  refine qr_bipush o (q_dm dm_X0_noteOutcome 10 rfl) bi_m2 ?_
  refine qr_icmp_ne (tgt := 47) o (q_dm dm_X0_noteOutcome 11 rfl) (by decide) ?_ ?_
  · exact qr_vret o rfl (q_dm dm_X0_noteOutcome 25 rfl)
  · refine qr_aload_n o (q_dm dm_X0_noteOutcome 12 rfl) rfl ?_
    refine qr_getf (kf := 7) o cf_X0 (sh44 j r) rfl (Nat.le_of_ble_eq_true rfl) fl_X0_98 (q_dm dm_X0_noteOutcome 13 rfl) ?_
    refine qr_bipush o (q_dm dm_X0_noteOutcome 14 rfl) bi_m2 ?_
    refine qr_icmp_ne (tgt := 47) o (q_dm dm_X0_noteOutcome 15 rfl) (by decide) ?_ ?_
    · exact qr_vret o rfl (q_dm dm_X0_noteOutcome 25 rfl)
    · refine qr_aload_n o (q_dm dm_X0_noteOutcome 16 rfl) rfl ?_
      refine qr_iload_n o (q_dm dm_X0_noteOutcome 17 rfl) rfl ?_
      refine qr_putf (kf := 7) o cf_X0 (sh44 j r) rfl (Nat.le_of_ble_eq_true rfl) fl_X0_98 rfl (by decide +kernel) (q_dm dm_X0_noteOutcome 18 rfl) ?_
      refine qr_letm (fun m1 => ?_)
      refine qr_aload_n o (q_dm dm_X0_noteOutcome 19 rfl) rfl ?_
      refine qr_iload_n o (q_dm dm_X0_noteOutcome 20 rfl) rfl ?_
      refine qr_putf (kf := 8) o cf_X0 (sh44 j r) rfl (Nat.le_of_ble_eq_true rfl) fl_X0_101 rfl (by decide +kernel) (q_dm dm_X0_noteOutcome 21 rfl) ?_
      refine qr_letm (fun m2 => ?_)
      refine qr_aload_n o (q_dm dm_X0_noteOutcome 22 rfl) rfl ?_
      refine qr_iload_n o (q_dm dm_X0_noteOutcome 23 rfl) rfl ?_
      refine qr_putf (kf := 9) o cf_X0 (sh44 j r) rfl (Nat.le_of_ble_eq_true rfl) fl_X0_104 rfl (by decide +kernel) (q_dm dm_X0_noteOutcome 24 rfl) ?_
      refine qr_letm (fun m3 => ?_)
      exact qr_vret o rfl (q_dm dm_X0_noteOutcome 25 rfl)

def f_X0_noteOutcome (n : Nat) (a1 a2 a3 a4 : Int32) (M : qM) : qR :=
  (if a4 = (1 : Int32) then qlm (mu M 44 5 ((M 44 5) + (1 : Int32))) (fun m1 => f_X0_noteOutcome_16 n a1 a2 a3 a4 m1) else f_X0_noteOutcome_16 n a1 a2 a3 a4 M)
set_option maxRecDepth 4000 in
theorem w_X0_noteOutcome {g : qG} {k : qK} (n : Nat) (j r : Nat) (hj : q_isLaw j) (hr : q_isLaw r) (o : qOk g 0 zX0_noteOutcome k) (a1 a2 a3 a4 : Int32) (M : qM) : qAE g k zX0_noteOutcome (qL j r) 0 [some (.inr (some 44)), some (.inl a1), some (.inl a2), some (.inl a3), some (.inl a4)] [] (qL j r, M) (f_X0_noteOutcome n a1 a2 a3 a4 M) := by
  unfold f_X0_noteOutcome
  refine qr_iload o (q_dm dm_X0_noteOutcome 0 rfl) rfl ?_
  refine qr_iconst o (q_dm dm_X0_noteOutcome 1 rfl) ic_1 ?_
  refine qr_icmp_ne (tgt := 16) o (q_dm dm_X0_noteOutcome 2 rfl) (by decide) ?_ ?_
  · exact qr_loc (q_leS (q_leS (q_leS (q_leS (q_leS q_le0))))) (w_X0_noteOutcome_16 n j r hj hr o a1 a2 a3 a4 M)
  · refine qr_aload_n o (q_dm dm_X0_noteOutcome 3 rfl) rfl ?_
    refine qr_dup o (q_dm dm_X0_noteOutcome 4 rfl) ?_
    refine qr_getf (kf := 5) o cf_X0 (sh44 j r) rfl (Nat.le_of_ble_eq_true rfl) fl_X0_92 (q_dm dm_X0_noteOutcome 5 rfl) ?_
    refine qr_iconst o (q_dm dm_X0_noteOutcome 6 rfl) ic_1 ?_
    refine qr_iadd o (q_dm dm_X0_noteOutcome 7 rfl) ?_
    refine qr_putf (kf := 5) o cf_X0 (sh44 j r) rfl (Nat.le_of_ble_eq_true rfl) fl_X0_92 rfl (by decide +kernel) (q_dm dm_X0_noteOutcome 8 rfl) ?_
    refine qr_letm (fun m1 => ?_)
    exact qr_loc (q_leS (q_leS (q_leS (q_leS (q_leS q_le0))))) (w_X0_noteOutcome_16 n j r hj hr o a1 a2 a3 a4 m1)

theorem a_X0_noteOutcome (g : qG) (l : Launch) (n : Nat) (j r : Nat) (hj : q_isLaw j) (hr : q_isLaw r) (a1 a2 a3 a4 : Int32) (M : qM) : qAM g l 0 zX0_noteOutcome (qL j r) [.inr (some 44), .inl a1, .inl a2, .inl a3, .inl a4] (qL j r, M) (f_X0_noteOutcome n a1 a2 a3 a4 M) :=
  qAM.of zv_X0_noteOutcome.1 (by show 5 ≤ 5; decide) (fun k hk o => w_X0_noteOutcome n j r hj hr o a1 a2 a3 a4 M)
def tb_X10_knows : List (Nat × Instr × Nat) := [(0, (.iload_n 1, 1)), (1, (.ifCond .lt 25, 3)), (4, (.iload_n 1, 1)), (5, (.bipush 8, 2)), (7, (.if_icmp .ge 19, 3)), (10, (.aload_n 0, 1)), (11, (.getfield 42, 3)), (14, (.iload_n 1, 1)), (15, (.ishr, 1)), (16, (.iconst 1, 1)), (17, (.iand, 1)), (18, (.iconst 1, 1)), (19, (.if_icmp .ne 7, 3)), (22, (.iconst 1, 1)), (23, (.goto 4, 3)), (26, (.iconst 0, 1)), (27, (.ireturn, 1))]
theorem dm_X10_knows : ∀ q ∈ tb_X10_knows, decode zX10_knows.2.1 q.1 = .ok q.2 := by decide +kernel
def f_X10_knows (n : Nat) (t : Nat) (a1 : Int32) (M : qM) : qR :=
  (if a1 < (0 : Int32) then some ((0 : Int32), M) else (if (8 : Int32) ≤ a1 then some ((0 : Int32), M) else (if (((M t 8) >>> (a1 &&& 31)) &&& (1 : Int32)) = (1 : Int32) then some ((1 : Int32), M) else some ((0 : Int32), M))))
set_option maxRecDepth 4000 in
theorem w_X10_knows {g : qG} {k : qK} (n : Nat) (j r : Nat) (hj : q_isLaw j) (hr : q_isLaw r) {t : Nat} (ht : q_isTown t) (o : qOk g 0 zX10_knows k) (a1 : Int32) (M : qM) : qAE g k zX10_knows (qL j r) 0 [some (.inr (some t)), some (.inl a1)] [] (qL j r, M) (f_X10_knows n t a1 M) := by
  unfold f_X10_knows
  refine qr_iload_n o (q_dm dm_X10_knows 0 rfl) rfl ?_
  refine qr_if_lt (tgt := 26) o (q_dm dm_X10_knows 1 rfl) (by decide) ?_ ?_
  · refine qr_iconst o (q_dm dm_X10_knows 15 rfl) ic_0 ?_
    exact qr_iret o rfl (by decide) (q_dm dm_X10_knows 16 rfl)
  · refine qr_iload_n o (q_dm dm_X10_knows 2 rfl) rfl ?_
    refine qr_bipush o (q_dm dm_X10_knows 3 rfl) bi_8 ?_
    refine qr_icmp_ge (tgt := 26) o (q_dm dm_X10_knows 4 rfl) (by decide) ?_ ?_
    · refine qr_iconst o (q_dm dm_X10_knows 15 rfl) ic_0 ?_
      exact qr_iret o rfl (by decide) (q_dm dm_X10_knows 16 rfl)
    · refine qr_aload_n o (q_dm dm_X10_knows 5 rfl) rfl ?_
      refine qr_getf (kf := 8) o cf_X10 (shT0 j r ht) rfl (Nat.le_of_ble_eq_true rfl) fl_X10_42 (q_dm dm_X10_knows 6 rfl) ?_
      refine qr_iload_n o (q_dm dm_X10_knows 7 rfl) rfl ?_
      refine qr_ishr o (q_dm dm_X10_knows 8 rfl) ?_
      refine qr_iconst o (q_dm dm_X10_knows 9 rfl) ic_1 ?_
      refine qr_iand o (q_dm dm_X10_knows 10 rfl) ?_
      refine qr_iconst o (q_dm dm_X10_knows 11 rfl) ic_1 ?_
      refine qr_icmp_ne (tgt := 26) o (q_dm dm_X10_knows 12 rfl) (by decide) ?_ ?_
      · refine qr_iconst o (q_dm dm_X10_knows 15 rfl) ic_0 ?_
        exact qr_iret o rfl (by decide) (q_dm dm_X10_knows 16 rfl)
      · refine qr_iconst o (q_dm dm_X10_knows 13 rfl) ic_1 ?_
        refine qr_goto (tgt := 27) o (q_dm dm_X10_knows 14 rfl) (by decide) ?_
        exact qr_iret o rfl (by decide) (q_dm dm_X10_knows 16 rfl)

theorem a_X10_knows (g : qG) (l : Launch) (n : Nat) (j r : Nat) (hj : q_isLaw j) (hr : q_isLaw r) {t : Nat} (ht : q_isTown t) (a1 : Int32) (M : qM) : qAM g l 0 zX10_knows (qL j r) [.inr (some t), .inl a1] (qL j r, M) (f_X10_knows n t a1 M) :=
  qAM.of zv_X10_knows.1 (by show 2 ≤ 2; decide) (fun k hk o => w_X10_knows n j r hj hr ht o a1 M)

def tb_X0_doSteps : List (Nat × Instr × Nat) := [(0, (.bipush 12, 2)), (2, (.istore_n 3, 1)), (3, (.aload_n 1, 1)), (4, (.getfield 115, 3)), (7, (.iload_n 2, 1)), (8, (.iaload, 1)), (9, (.istore 4, 2)), (11, (.iload 4, 2)), (13, (.aload_n 1, 1)), (14, (.getfield 118, 3)), (17, (.iload_n 2, 1)), (18, (.iaload, 1)), (19, (.if_icmp .ge 159, 3)), (22, (.aload_n 1, 1)), (23, (.getfield 121, 3)), (26, (.iload_n 2, 1)), (27, (.bipush 40, 2)), (29, (.imul, 1)), (30, (.iload 4, 2)), (32, (.iadd, 1)), (33, (.iaload, 1)), (34, (.istore 5, 2)), (36, (.aload_n 1, 1)), (37, (.getfield 124, 3)), (40, (.iload_n 2, 1)), (41, (.bipush 40, 2)), (43, (.imul, 1)), (44, (.iload 4, 2)), (46, (.iadd, 1)), (47, (.iaload, 1)), (48, (.istore 6, 2)), (50, (.aload_n 0, 1)), (51, (.getfield 9, 3)), (54, (.iload 5, 2)), (56, (.invokevirtual 127, 3)), (59, (.ifCond .eq 103, 3)), (62, (.iload 6, 2)), (64, (.bipush 8, 2)), (66, (.if_icmp .eq 18, 3)), (69, (.iload 6, 2)), (71, (.iload_n 2, 1)), (72, (.if_icmp .eq 90, 3)), (75, (.aload_n 1, 1)), (76, (.iload 6, 2)), (78, (.invokevirtual 107, 3)), (81, (.ifCond .eq 81, 3)), (84, (.aload_n 0, 1)), (85, (.getfield 9, 3)), (88, (.getfield 128, 3)), (91, (.iload 5, 2)), (93, (.iaload, 1)), (94, (.iload_n 3, 1)), (95, (.if_icmp .le 4, 3)), (98, (.return_, 1)), (99, (.iload_n 3, 1)), (100, (.aload_n 0, 1)), (101, (.getfield 9, 3)), (104, (.getfield 128, 3)), (107, (.iload 5, 2)), (109, (.iaload, 1)), (110, (.isub, 1)), (111, (.istore_n 3, 1)), (112, (.aload_n 0, 1)), (113, (.dup, 1)), (114, (.getfield 95, 3)), (117, (.aload_n 0, 1)), (118, (.getfield 9, 3)), (121, (.getfield 128, 3)), (124, (.iload 5, 2)), (126, (.iaload, 1)), (127, (.iadd, 1)), (128, (.putfield 95, 3)), (131, (.aload_n 0, 1)), (132, (.dup, 1)), (133, (.getfield 89, 3)), (136, (.iconst 1, 1)), (137, (.iadd, 1)), (138, (.putfield 89, 3)), (141, (.aload_n 0, 1)), (142, (.aload_n 1, 1)), (143, (.getfield 19, 3)), (146, (.iload_n 2, 1)), (147, (.iload 5, 2)), (149, (.aload_n 0, 1)), (150, (.aload_n 1, 1)), (151, (.iload_n 2, 1)), (152, (.iload 5, 2)), (154, (.iload 6, 2)), (156, (.invokevirtual 131, 3)), (159, (.invokevirtual 134, 3)), (162, (.aload_n 1, 1)), (163, (.getfield 115, 3)), (166, (.iload_n 2, 1)), (167, (.iload 4, 2)), (169, (.iconst 1, 1)), (170, (.iadd, 1)), (171, (.iastore, 1)), (172, (.iinc 4 1, 3)), (175, (.goto (-164), 3)), (178, (.return_, 1))]
theorem dm_X0_doSteps : ∀ q ∈ tb_X0_doSteps, decode zX0_doSteps.2.1 q.1 = .ok q.2 := by decide +kernel
def f_X0_doSteps_162 (n : Nat) (t j : Nat) (K11 : Int32 → Int32 → Int32 → qM → qR) (a2 a3 a4 : Int32) (M : qM) : qR :=
  qg a2 8 (qlm (mu M (t + 8) a2.toNatClampNeg (a4 + (1 : Int32))) (fun m1 => ql (a4 + (1 : Int32)) (fun x2 => K11 a2 a3 x2 m1)))
set_option maxRecDepth 4000 in
theorem w_X0_doSteps_162 {g : qG} {k : qK} (n : Nat) (j r : Nat) (hj : q_isLaw j) (hr : q_isLaw r) {t : Nat} (ht : q_isTown t) (o : qOk g 5 zX0_doSteps k) (K11 : Int32 → Int32 → Int32 → qM → qR) (hK11 : ∀ (a2 a3 a4 : Int32) (M : qM), qAE g k zX0_doSteps (qL j r) 11 [some (.inr (some 44)), some (.inr (some t)), some (.inl a2), some (.inl a3), some (.inl a4), none, none] [] (qL j r, M) (K11 a2 a3 a4 M)) (a2 a3 a4 : Int32) (M : qM) : qAE g k zX0_doSteps (qL j r) 162 [some (.inr (some 44)), some (.inr (some t)), some (.inl a2), some (.inl a3), some (.inl a4), none, none] [] (qL j r, M) (f_X0_doSteps_162 n t j K11 a2 a3 a4 M) := by
  unfold f_X0_doSteps_162
  refine qr_aload_n o (q_dm dm_X0_doSteps 90 rfl) rfl ?_
  refine qr_getr (kf := 7) o cf_X10 (shT0 j r ht) rfl (Nat.le_of_ble_eq_true rfl) fl_X0_115 (q_dm dm_X0_doSteps 91 rfl) ?_
  refine qr_iload_n o (q_dm dm_X0_doSteps 92 rfl) rfl ?_
  refine qr_iload o (q_dm dm_X0_doSteps 93 rfl) rfl ?_
  refine qr_iconst o (q_dm dm_X0_doSteps 94 rfl) ic_1 ?_
  refine qr_iadd o (q_dm dm_X0_doSteps 95 rfl) ?_
  refine qr_iast o (shT8 j r ht) (q_dm dm_X0_doSteps 96 rfl) ?_
  refine qr_letm (fun m1 => ?_)
  refine qs_iincl2 (L' := fun x2 => [some (.inr (some 44)), some (.inr (some t)), some (.inl a2), some (.inl a3), some (.inl x2), none, none]) o (q_dm dm_X0_doSteps 97 rfl) rfl ic_1 (Nat.le_of_ble_eq_true rfl) (fun _ => rfl) (fun x2 => ?_)
  refine qr_goto (tgt := 11) o (q_dm dm_X0_doSteps 98 rfl) (by decide) ?_
  exact qr_loc (q_leS (q_leS (q_leS (q_leS (q_leS (q_leN (q_leN q_le0))))))) (hK11 a2 a3 x2 m1)

def f_X0_doSteps_84 (n : Nat) (t j : Nat) (K11 : Int32 → Int32 → Int32 → qM → qR) (a2 a3 a4 a5 a6 : Int32) (M : qM) : qR :=
  qg a5 12 ((if (M 4 a5.toNatClampNeg) ≤ a3 then qg a5 12 (ql (a3 - (M 4 a5.toNatClampNeg)) (fun x1 => qg a5 12 (qlm (mu M 44 6 ((M 44 6) + (M 4 a5.toNatClampNeg))) (fun m2 => qlm (mu m2 44 4 ((m2 44 4) + (1 : Int32))) (fun m3 => qc (f_X0_attempt n t j a2 a5 a6 m3) (fun r4 m5 => qc (f_X0_noteOutcome n (m3 t 9) a2 a5 r4 m5) (fun _ m6 => f_X0_doSteps_162 n t j K11 a2 x1 a4 m6))))))) else some (0, M)))
set_option maxRecDepth 4000 in
theorem w_X0_doSteps_84 {g : qG} {k : qK} (n : Nat) (j r : Nat) (hj : q_isLaw j) (hr : q_isLaw r) {t : Nat} (ht : q_isTown t) (o : qOk g 5 zX0_doSteps k) (K11 : Int32 → Int32 → Int32 → qM → qR) (hK11 : ∀ (a2 a3 a4 : Int32) (M : qM), qAE g k zX0_doSteps (qL j r) 11 [some (.inr (some 44)), some (.inr (some t)), some (.inl a2), some (.inl a3), some (.inl a4), none, none] [] (qL j r, M) (K11 a2 a3 a4 M)) (a2 a3 a4 a5 a6 : Int32) (M : qM) : qAE g k zX0_doSteps (qL j r) 84 [some (.inr (some 44)), some (.inr (some t)), some (.inl a2), some (.inl a3), some (.inl a4), some (.inl a5), some (.inl a6)] [] (qL j r, M) (f_X0_doSteps_84 n t j K11 a2 a3 a4 a5 a6 M) := by
  unfold f_X0_doSteps_84
  refine qr_aload_n o (q_dm dm_X0_doSteps 46 rfl) rfl ?_
  refine qr_getr (kf := 0) o cf_X0 (sh44 j r) rfl (Nat.le_of_ble_eq_true rfl) fl_X0_9 (q_dm dm_X0_doSteps 47 rfl) ?_
  refine qr_getr (kf := 0) o cf_X2 (sh3 j r) rfl (Nat.le_of_ble_eq_true rfl) fl_X0_128 (q_dm dm_X0_doSteps 48 rfl) ?_
  refine qr_iload o (q_dm dm_X0_doSteps 49 rfl) rfl ?_
  refine qr_iald o (sh4 j r) (q_dm dm_X0_doSteps 50 rfl) ?_
  refine qr_iload_n o (q_dm dm_X0_doSteps 51 rfl) rfl ?_
  refine qr_icmp_le (tgt := 99) o (q_dm dm_X0_doSteps 52 rfl) (by decide) ?_ ?_
  · refine qr_iload_n o (q_dm dm_X0_doSteps 54 rfl) rfl ?_
    refine qr_aload_n o (q_dm dm_X0_doSteps 55 rfl) rfl ?_
    refine qr_getr (kf := 0) o cf_X0 (sh44 j r) rfl (Nat.le_of_ble_eq_true rfl) fl_X0_9 (q_dm dm_X0_doSteps 56 rfl) ?_
    refine qr_getr (kf := 0) o cf_X2 (sh3 j r) rfl (Nat.le_of_ble_eq_true rfl) fl_X0_128 (q_dm dm_X0_doSteps 57 rfl) ?_
    refine qr_iload o (q_dm dm_X0_doSteps 58 rfl) rfl ?_
    refine qr_iald o (sh4 j r) (q_dm dm_X0_doSteps 59 rfl) ?_
    refine qr_isub o (q_dm dm_X0_doSteps 60 rfl) ?_
    refine qr_lt (fun x1 => ?_)
    refine qs_istore_n (L' := [some (.inr (some 44)), some (.inr (some t)), some (.inl a2), some (.inl x1), some (.inl a4), some (.inl a5), some (.inl a6)]) o (q_dm dm_X0_doSteps 61 rfl) (Nat.le_of_ble_eq_true rfl) rfl ?_
    refine qr_aload_n o (q_dm dm_X0_doSteps 62 rfl) rfl ?_
    refine qr_dup o (q_dm dm_X0_doSteps 63 rfl) ?_
    refine qr_getf (kf := 6) o cf_X0 (sh44 j r) rfl (Nat.le_of_ble_eq_true rfl) fl_X0_95 (q_dm dm_X0_doSteps 64 rfl) ?_
    refine qr_aload_n o (q_dm dm_X0_doSteps 65 rfl) rfl ?_
    refine qr_getr (kf := 0) o cf_X0 (sh44 j r) rfl (Nat.le_of_ble_eq_true rfl) fl_X0_9 (q_dm dm_X0_doSteps 66 rfl) ?_
    refine qr_getr (kf := 0) o cf_X2 (sh3 j r) rfl (Nat.le_of_ble_eq_true rfl) fl_X0_128 (q_dm dm_X0_doSteps 67 rfl) ?_
    refine qr_iload o (q_dm dm_X0_doSteps 68 rfl) rfl ?_
    refine qr_iald o (sh4 j r) (q_dm dm_X0_doSteps 69 rfl) ?_
    refine qr_iadd o (q_dm dm_X0_doSteps 70 rfl) ?_
    refine qr_putf (kf := 6) o cf_X0 (sh44 j r) rfl (Nat.le_of_ble_eq_true rfl) fl_X0_95 rfl (by decide +kernel) (q_dm dm_X0_doSteps 71 rfl) ?_
    refine qr_letm (fun m2 => ?_)
    refine qr_aload_n o (q_dm dm_X0_doSteps 72 rfl) rfl ?_
    refine qr_dup o (q_dm dm_X0_doSteps 73 rfl) ?_
    refine qr_getf (kf := 4) o cf_X0 (sh44 j r) rfl (Nat.le_of_ble_eq_true rfl) fl_X0_89 (q_dm dm_X0_doSteps 74 rfl) ?_
    refine qr_iconst o (q_dm dm_X0_doSteps 75 rfl) ic_1 ?_
    refine qr_iadd o (q_dm dm_X0_doSteps 76 rfl) ?_
    refine qr_putf (kf := 4) o cf_X0 (sh44 j r) rfl (Nat.le_of_ble_eq_true rfl) fl_X0_89 rfl (by decide +kernel) (q_dm dm_X0_doSteps 77 rfl) ?_
    refine qr_letm (fun m3 => ?_)
    refine qr_aload_n o (q_dm dm_X0_doSteps 78 rfl) rfl ?_
    refine qr_aload_n o (q_dm dm_X0_doSteps 79 rfl) rfl ?_
    refine qr_getf (kf := 9) o cf_X10 (shT0 j r ht) rfl (Nat.le_of_ble_eq_true rfl) fl_X0_19 (q_dm dm_X0_doSteps 80 rfl) ?_
    refine qr_iload_n o (q_dm dm_X0_doSteps 81 rfl) rfl ?_
    refine qr_iload o (q_dm dm_X0_doSteps 82 rfl) rfl ?_
    refine qr_aload_n o (q_dm dm_X0_doSteps 83 rfl) rfl ?_
    refine qr_aload_n o (q_dm dm_X0_doSteps 84 rfl) rfl ?_
    refine qr_iload_n o (q_dm dm_X0_doSteps 85 rfl) rfl ?_
    refine qr_iload o (q_dm dm_X0_doSteps 86 rfl) rfl ?_
    refine qr_iload o (q_dm dm_X0_doSteps 87 rfl) rfl ?_
    refine qr_callv_i (As := [.inr (some t), .inl a2, .inl a5, .inl a6]) (S := [.inl a5, .inl a2, .inl (m3 t 9), .inr (some 44)]) o (a_X0_attempt g k.2.1 n j r hj hr ht a2 a5 a6 m3) (Nat.le_of_ble_eq_true rfl) zv_X0_attempt rfl cf_X0 (sh44 j r) ml_X0_131 (Nat.le_of_ble_eq_true rfl) (q_dm dm_X0_doSteps 88 rfl) (fun r4 m5 => ?_)
    refine qr_callv_v (As := [.inl (m3 t 9), .inl a2, .inl a5, .inl r4]) (S := []) o (a_X0_noteOutcome g k.2.1 n j r hj hr (m3 t 9) a2 a5 r4 m5) (Nat.le_of_ble_eq_true rfl) zv_X0_noteOutcome rfl cf_X0 (sh44 j r) ml_X0_134 (Nat.le_of_ble_eq_true rfl) (q_dm dm_X0_doSteps 89 rfl) (fun _ m6 => ?_)
    exact qr_loc (q_leS (q_leS (q_leS (q_leS (q_leS (q_leN (q_leN q_le0))))))) (w_X0_doSteps_162 n j r hj hr ht o K11 hK11 a2 x1 a4 m6)
  · exact qr_vret o rfl (q_dm dm_X0_doSteps 53 rfl)

def b_X0_doSteps_11 (n : Nat) (t j : Nat) (K11 : Int32 → Int32 → Int32 → qM → qR) (a2 a3 a4 : Int32) (M : qM) : qR :=
  qg a2 8 ((if (M (t + 7) a2.toNatClampNeg) ≤ a4 then some (0, M) else qg ((a2 * (40 : Int32)) + a4) 320 (ql (M (t + 5) ((a2 * (40 : Int32)) + a4).toNatClampNeg) (fun x1 => qg ((a2 * (40 : Int32)) + a4) 320 (ql (M (t + 6) ((a2 * (40 : Int32)) + a4).toNatClampNeg) (fun x2 => qc (f_X2_knows n x1 M) (fun r3 m4 => (if r3 = (0 : Int32) then f_X0_doSteps_162 n t j K11 a2 a3 a4 m4 else (if x2 = (8 : Int32) then f_X0_doSteps_84 n t j K11 a2 a3 a4 x1 x2 m4 else (if x2 = a2 then f_X0_doSteps_162 n t j K11 a2 a3 a4 m4 else qc (f_X10_knows n t x2 m4) (fun r5 m6 => (if r5 = (0 : Int32) then f_X0_doSteps_162 n t j K11 a2 a3 a4 m6 else f_X0_doSteps_84 n t j K11 a2 a3 a4 x1 x2 m6))))))))))))
set_option maxRecDepth 4000 in
theorem wb_X0_doSteps_11 {g : qG} {k : qK} (n : Nat) (j r : Nat) (hj : q_isLaw j) (hr : q_isLaw r) {t : Nat} (ht : q_isTown t) (o : qOk g 5 zX0_doSteps k) (K11 : Int32 → Int32 → Int32 → qM → qR) (hK11 : ∀ (a2 a3 a4 : Int32) (M : qM), qAE g k zX0_doSteps (qL j r) 11 [some (.inr (some 44)), some (.inr (some t)), some (.inl a2), some (.inl a3), some (.inl a4), none, none] [] (qL j r, M) (K11 a2 a3 a4 M)) (a2 a3 a4 : Int32) (M : qM) : qAE g k zX0_doSteps (qL j r) 11 [some (.inr (some 44)), some (.inr (some t)), some (.inl a2), some (.inl a3), some (.inl a4), none, none] [] (qL j r, M) (b_X0_doSteps_11 n t j K11 a2 a3 a4 M) := by
  unfold b_X0_doSteps_11
  refine qr_iload o (q_dm dm_X0_doSteps 7 rfl) rfl ?_
  refine qr_aload_n o (q_dm dm_X0_doSteps 8 rfl) rfl ?_
  refine qr_getr (kf := 6) o cf_X10 (shT0 j r ht) rfl (Nat.le_of_ble_eq_true rfl) fl_X0_118 (q_dm dm_X0_doSteps 9 rfl) ?_
  refine qr_iload_n o (q_dm dm_X0_doSteps 10 rfl) rfl ?_
  refine qr_iald o (shT7 j r ht) (q_dm dm_X0_doSteps 11 rfl) ?_
  refine qr_icmp_ge (tgt := 178) o (q_dm dm_X0_doSteps 12 rfl) (by decide) ?_ ?_
  · exact qr_vret o rfl (q_dm dm_X0_doSteps 99 rfl)
  · refine qr_aload_n o (q_dm dm_X0_doSteps 13 rfl) rfl ?_
    refine qr_getr (kf := 4) o cf_X10 (shT0 j r ht) rfl (Nat.le_of_ble_eq_true rfl) fl_X0_121 (q_dm dm_X0_doSteps 14 rfl) ?_
    refine qr_iload_n o (q_dm dm_X0_doSteps 15 rfl) rfl ?_
    refine qr_bipush o (q_dm dm_X0_doSteps 16 rfl) bi_40 ?_
    refine qr_imul o (q_dm dm_X0_doSteps 17 rfl) ?_
    refine qr_iload o (q_dm dm_X0_doSteps 18 rfl) rfl ?_
    refine qr_iadd o (q_dm dm_X0_doSteps 19 rfl) ?_
    refine qr_iald o (shT5 j r ht) (q_dm dm_X0_doSteps 20 rfl) ?_
    refine qr_lt (fun x1 => ?_)
    refine qs_istore (L' := [some (.inr (some 44)), some (.inr (some t)), some (.inl a2), some (.inl a3), some (.inl a4), some (.inl x1), none]) o (q_dm dm_X0_doSteps 21 rfl) (Nat.le_of_ble_eq_true rfl) rfl ?_
    refine qr_aload_n o (q_dm dm_X0_doSteps 22 rfl) rfl ?_
    refine qr_getr (kf := 5) o cf_X10 (shT0 j r ht) rfl (Nat.le_of_ble_eq_true rfl) fl_X0_124 (q_dm dm_X0_doSteps 23 rfl) ?_
    refine qr_iload_n o (q_dm dm_X0_doSteps 24 rfl) rfl ?_
    refine qr_bipush o (q_dm dm_X0_doSteps 25 rfl) bi_40 ?_
    refine qr_imul o (q_dm dm_X0_doSteps 26 rfl) ?_
    refine qr_iload o (q_dm dm_X0_doSteps 27 rfl) rfl ?_
    refine qr_iadd o (q_dm dm_X0_doSteps 28 rfl) ?_
    refine qr_iald o (shT6 j r ht) (q_dm dm_X0_doSteps 29 rfl) ?_
    refine qr_lt (fun x2 => ?_)
    refine qs_istore (L' := [some (.inr (some 44)), some (.inr (some t)), some (.inl a2), some (.inl a3), some (.inl a4), some (.inl x1), some (.inl x2)]) o (q_dm dm_X0_doSteps 30 rfl) (Nat.le_of_ble_eq_true rfl) rfl ?_
    refine qr_aload_n o (q_dm dm_X0_doSteps 31 rfl) rfl ?_
    refine qr_getr (kf := 0) o cf_X0 (sh44 j r) rfl (Nat.le_of_ble_eq_true rfl) fl_X0_9 (q_dm dm_X0_doSteps 32 rfl) ?_
    refine qr_iload o (q_dm dm_X0_doSteps 33 rfl) rfl ?_
    refine qr_callv_i (As := [.inl x1]) (S := []) o (a_X2_knows g k.2.1 n j r hj hr x1 M) (Nat.le_of_ble_eq_true rfl) zv_X2_knows rfl cf_X2 (sh3 j r) ml_X0_127 (Nat.le_of_ble_eq_true rfl) (q_dm dm_X0_doSteps 34 rfl) (fun r3 m4 => ?_)
    refine qr_if_eq (tgt := 162) o (q_dm dm_X0_doSteps 35 rfl) (by decide) ?_ ?_
    · exact qr_loc (q_leS (q_leS (q_leS (q_leS (q_leS (q_leN (q_leN q_le0))))))) (w_X0_doSteps_162 n j r hj hr ht o K11 hK11 a2 a3 a4 m4)
    · refine qr_iload o (q_dm dm_X0_doSteps 36 rfl) rfl ?_
      refine qr_bipush o (q_dm dm_X0_doSteps 37 rfl) bi_8 ?_
      refine qr_icmp_eq (tgt := 84) o (q_dm dm_X0_doSteps 38 rfl) (by decide) ?_ ?_
      · exact qr_loc (q_leS (q_leS (q_leS (q_leS (q_leS (q_leS (q_leS q_le0))))))) (w_X0_doSteps_84 n j r hj hr ht o K11 hK11 a2 a3 a4 x1 x2 m4)
      · refine qr_iload o (q_dm dm_X0_doSteps 39 rfl) rfl ?_
        refine qr_iload_n o (q_dm dm_X0_doSteps 40 rfl) rfl ?_
        refine qr_icmp_eq (tgt := 162) o (q_dm dm_X0_doSteps 41 rfl) (by decide) ?_ ?_
        · exact qr_loc (q_leS (q_leS (q_leS (q_leS (q_leS (q_leN (q_leN q_le0))))))) (w_X0_doSteps_162 n j r hj hr ht o K11 hK11 a2 a3 a4 m4)
        · refine qr_aload_n o (q_dm dm_X0_doSteps 42 rfl) rfl ?_
          refine qr_iload o (q_dm dm_X0_doSteps 43 rfl) rfl ?_
          refine qr_callv_i (As := [.inl x2]) (S := []) o (a_X10_knows g k.2.1 n j r hj hr ht x2 m4) (Nat.le_of_ble_eq_true rfl) zv_X10_knows rfl cf_X10 (shT0 j r ht) ml_X0_107 (Nat.le_of_ble_eq_true rfl) (q_dm dm_X0_doSteps 44 rfl) (fun r5 m6 => ?_)
          refine qr_if_eq (tgt := 162) o (q_dm dm_X0_doSteps 45 rfl) (by decide) ?_ ?_
          · exact qr_loc (q_leS (q_leS (q_leS (q_leS (q_leS (q_leN (q_leN q_le0))))))) (w_X0_doSteps_162 n j r hj hr ht o K11 hK11 a2 a3 a4 m6)
          · exact qr_loc (q_leS (q_leS (q_leS (q_leS (q_leS (q_leS (q_leS q_le0))))))) (w_X0_doSteps_84 n j r hj hr ht o K11 hK11 a2 a3 a4 x1 x2 m6)

def f_X0_doSteps_11 (n : Nat) (t j : Nat) : Nat → Int32 → Int32 → Int32 → qM → qR
  | 0, _, _, _, _ => none
  | m + 1, a2, a3, a4, M => b_X0_doSteps_11 n t j (f_X0_doSteps_11 n t j m) a2 a3 a4 M
theorem w_X0_doSteps_11 {g : qG} {k : qK} (n : Nat) (j r : Nat) (hj : q_isLaw j) (hr : q_isLaw r) {t : Nat} (ht : q_isTown t) (o : qOk g 5 zX0_doSteps k) : ∀ (m : Nat) (a2 a3 a4 : Int32) (M : qM), qAE g k zX0_doSteps (qL j r) 11 [some (.inr (some 44)), some (.inr (some t)), some (.inl a2), some (.inl a3), some (.inl a4), none, none] [] (qL j r, M) (f_X0_doSteps_11 n t j m a2 a3 a4 M) := by
  intro m
  induction m with
  | zero =>
    intro a2 a3 a4 M
    exact qr_none
  | succ m ih =>
    intro a2 a3 a4 M
    exact wb_X0_doSteps_11 n j r hj hr ht o (f_X0_doSteps_11 n t j m) ih a2 a3 a4 M
def f_X0_doSteps (n : Nat) (t j : Nat) (a2 : Int32) (M : qM) : qR :=
  qg a2 8 (ql (M (t + 8) a2.toNatClampNeg) (fun x1 => f_X0_doSteps_11 n t j n a2 (12 : Int32) x1 M))
set_option maxRecDepth 4000 in
theorem w_X0_doSteps {g : qG} {k : qK} (n : Nat) (j r : Nat) (hj : q_isLaw j) (hr : q_isLaw r) {t : Nat} (ht : q_isTown t) (o : qOk g 5 zX0_doSteps k) (a2 : Int32) (M : qM) : qAE g k zX0_doSteps (qL j r) 0 [some (.inr (some 44)), some (.inr (some t)), some (.inl a2), none, none, none, none] [] (qL j r, M) (f_X0_doSteps n t j a2 M) := by
  unfold f_X0_doSteps
  refine qr_bipush o (q_dm dm_X0_doSteps 0 rfl) bi_12 ?_
  refine qs_istore_n (L' := [some (.inr (some 44)), some (.inr (some t)), some (.inl a2), some (.inl (12 : Int32)), none, none, none]) o (q_dm dm_X0_doSteps 1 rfl) (Nat.le_of_ble_eq_true rfl) rfl ?_
  refine qr_aload_n o (q_dm dm_X0_doSteps 2 rfl) rfl ?_
  refine qr_getr (kf := 7) o cf_X10 (shT0 j r ht) rfl (Nat.le_of_ble_eq_true rfl) fl_X0_115 (q_dm dm_X0_doSteps 3 rfl) ?_
  refine qr_iload_n o (q_dm dm_X0_doSteps 4 rfl) rfl ?_
  refine qr_iald o (shT8 j r ht) (q_dm dm_X0_doSteps 5 rfl) ?_
  refine qr_lt (fun x1 => ?_)
  refine qs_istore (L' := [some (.inr (some 44)), some (.inr (some t)), some (.inl a2), some (.inl (12 : Int32)), some (.inl x1), none, none]) o (q_dm dm_X0_doSteps 6 rfl) (Nat.le_of_ble_eq_true rfl) rfl ?_
  exact qr_loc (q_leS (q_leS (q_leS (q_leS (q_leS (q_leN (q_leN q_le0))))))) (w_X0_doSteps_11 n j r hj hr ht o n a2 (12 : Int32) x1 M)

theorem a_X0_doSteps (g : qG) (l : Launch) (n : Nat) (j r : Nat) (hj : q_isLaw j) (hr : q_isLaw r) {t : Nat} (ht : q_isTown t) (a2 : Int32) (M : qM) : qAM g l 5 zX0_doSteps (qL j r) [.inr (some 44), .inr (some t), .inl a2] (qL j r, M) (f_X0_doSteps n t j a2 M) :=
  qAM.of zv_X0_doSteps.1 (by show 3 ≤ 7; decide) (fun k hk o => w_X0_doSteps n j r hj hr ht o a2 M)
def tb_X0_goDays : List (Nat × Instr × Nat) := [(0, (.aload_n 0, 1)), (1, (.iconst 0, 1)), (2, (.putfield 89, 3)), (5, (.aload_n 0, 1)), (6, (.iconst 0, 1)), (7, (.putfield 92, 3)), (10, (.aload_n 0, 1)), (11, (.iconst 0, 1)), (12, (.putfield 95, 3)), (15, (.aload_n 0, 1)), (16, (.bipush (-2), 2)), (18, (.putfield 98, 3)), (21, (.aload_n 0, 1)), (22, (.bipush (-2), 2)), (24, (.putfield 101, 3)), (27, (.aload_n 0, 1)), (28, (.bipush (-2), 2)), (30, (.putfield 104, 3)), (33, (.iconst 0, 1)), (34, (.istore_n 3, 1)), (35, (.iload_n 3, 1)), (36, (.iload_n 2, 1)), (37, (.if_icmp .ge 61, 3)), (40, (.aload_n 1, 1)), (41, (.getfield 19, 3)), (44, (.sipush 9999, 3)), (47, (.if_icmp .ge 51, 3)), (50, (.iconst 0, 1)), (51, (.istore 4, 2)), (53, (.iload 4, 2)), (55, (.bipush 8, 2)), (57, (.if_icmp .ge 25, 3)), (60, (.aload_n 1, 1)), (61, (.iload 4, 2)), (63, (.invokevirtual 107, 3)), (66, (.ifCond .eq 10, 3)), (69, (.aload_n 0, 1)), (70, (.aload_n 1, 1)), (71, (.iload 4, 2)), (73, (.invokevirtual 111, 3)), (76, (.iinc 4 1, 3)), (79, (.goto (-26), 3)), (82, (.aload_n 1, 1)), (83, (.dup, 1)), (84, (.getfield 19, 3)), (87, (.iconst 1, 1)), (88, (.iadd, 1)), (89, (.putfield 19, 3)), (92, (.iinc 3 1, 3)), (95, (.goto (-60), 3)), (98, (.return_, 1))]
theorem dm_X0_goDays : ∀ q ∈ tb_X0_goDays, decode zX0_goDays.2.1 q.1 = .ok q.2 := by decide +kernel
def b_X0_goDays_53 (n : Nat) (t j : Nat) (K35 : Int32 → Int32 → qM → qR) (K53 : Int32 → Int32 → Int32 → qM → qR) (a2 a3 a4 : Int32) (M : qM) : qR :=
  (if (8 : Int32) ≤ a4 then qlm (mu M t 9 ((M t 9) + (1 : Int32))) (fun m1 => ql (a3 + (1 : Int32)) (fun x2 => K35 a2 x2 m1)) else qc (f_X10_knows n t a4 M) (fun r3 m4 => (if r3 = (0 : Int32) then ql (a4 + (1 : Int32)) (fun x5 => K53 a2 a3 x5 m4) else qc (f_X0_doSteps n t j a4 m4) (fun _ m6 => ql (a4 + (1 : Int32)) (fun x7 => K53 a2 a3 x7 m6)))))
set_option maxRecDepth 4000 in
theorem wb_X0_goDays_53 {g : qG} {k : qK} (n : Nat) (j r : Nat) (hj : q_isLaw j) (hr : q_isLaw r) {t : Nat} (ht : q_isTown t) (o : qOk g 6 zX0_goDays k) (K35 : Int32 → Int32 → qM → qR) (hK35 : ∀ (a2 a3 : Int32) (M : qM), qAE g k zX0_goDays (qL j r) 35 [some (.inr (some 44)), some (.inr (some t)), some (.inl a2), some (.inl a3), none] [] (qL j r, M) (K35 a2 a3 M)) (K53 : Int32 → Int32 → Int32 → qM → qR) (hK53 : ∀ (a2 a3 a4 : Int32) (M : qM), qAE g k zX0_goDays (qL j r) 53 [some (.inr (some 44)), some (.inr (some t)), some (.inl a2), some (.inl a3), some (.inl a4)] [] (qL j r, M) (K53 a2 a3 a4 M)) (a2 a3 a4 : Int32) (M : qM) : qAE g k zX0_goDays (qL j r) 53 [some (.inr (some 44)), some (.inr (some t)), some (.inl a2), some (.inl a3), some (.inl a4)] [] (qL j r, M) (b_X0_goDays_53 n t j K35 K53 a2 a3 a4 M) := by
  unfold b_X0_goDays_53
  refine qr_iload o (q_dm dm_X0_goDays 29 rfl) rfl ?_
  refine qr_bipush o (q_dm dm_X0_goDays 30 rfl) bi_8 ?_
  refine qr_icmp_ge (tgt := 82) o (q_dm dm_X0_goDays 31 rfl) (by decide) ?_ ?_
  · refine qr_aload_n o (q_dm dm_X0_goDays 42 rfl) rfl ?_
    refine qr_dup o (q_dm dm_X0_goDays 43 rfl) ?_
    refine qr_getf (kf := 9) o cf_X10 (shT0 j r ht) rfl (Nat.le_of_ble_eq_true rfl) fl_X0_19 (q_dm dm_X0_goDays 44 rfl) ?_
    refine qr_iconst o (q_dm dm_X0_goDays 45 rfl) ic_1 ?_
    refine qr_iadd o (q_dm dm_X0_goDays 46 rfl) ?_
    refine qr_putf (kf := 9) o cf_X10 (shT0 j r ht) rfl (Nat.le_of_ble_eq_true rfl) fl_X0_19 rfl (by decide +kernel) (q_dm dm_X0_goDays 47 rfl) ?_
    refine qr_letm (fun m1 => ?_)
    refine qs_iincl2 (L' := fun x2 => [some (.inr (some 44)), some (.inr (some t)), some (.inl a2), some (.inl x2), some (.inl a4)]) o (q_dm dm_X0_goDays 48 rfl) rfl ic_1 (Nat.le_of_ble_eq_true rfl) (fun _ => rfl) (fun x2 => ?_)
    refine qr_goto (tgt := 35) o (q_dm dm_X0_goDays 49 rfl) (by decide) ?_
    exact qr_loc (q_leS (q_leS (q_leS (q_leS (q_leN q_le0))))) (hK35 a2 x2 m1)
  · refine qr_aload_n o (q_dm dm_X0_goDays 32 rfl) rfl ?_
    refine qr_iload o (q_dm dm_X0_goDays 33 rfl) rfl ?_
    refine qr_callv_i (As := [.inl a4]) (S := []) o (a_X10_knows g k.2.1 n j r hj hr ht a4 M) (Nat.le_of_ble_eq_true rfl) zv_X10_knows rfl cf_X10 (shT0 j r ht) ml_X0_107 (Nat.le_of_ble_eq_true rfl) (q_dm dm_X0_goDays 34 rfl) (fun r3 m4 => ?_)
    refine qr_if_eq (tgt := 76) o (q_dm dm_X0_goDays 35 rfl) (by decide) ?_ ?_
    · refine qs_iincl2 (L' := fun x5 => [some (.inr (some 44)), some (.inr (some t)), some (.inl a2), some (.inl a3), some (.inl x5)]) o (q_dm dm_X0_goDays 40 rfl) rfl ic_1 (Nat.le_of_ble_eq_true rfl) (fun _ => rfl) (fun x5 => ?_)
      refine qr_goto (tgt := 53) o (q_dm dm_X0_goDays 41 rfl) (by decide) ?_
      exact qr_loc (q_leS (q_leS (q_leS (q_leS (q_leS q_le0))))) (hK53 a2 a3 x5 m4)
    · refine qr_aload_n o (q_dm dm_X0_goDays 36 rfl) rfl ?_
      refine qr_aload_n o (q_dm dm_X0_goDays 37 rfl) rfl ?_
      refine qr_iload o (q_dm dm_X0_goDays 38 rfl) rfl ?_
      refine qr_callv_v (As := [.inr (some t), .inl a4]) (S := []) o (a_X0_doSteps g k.2.1 n j r hj hr ht a4 m4) (Nat.le_of_ble_eq_true rfl) zv_X0_doSteps rfl cf_X0 (sh44 j r) ml_X0_111 (Nat.le_of_ble_eq_true rfl) (q_dm dm_X0_goDays 39 rfl) (fun _ m6 => ?_)
      refine qs_iincl2 (L' := fun x7 => [some (.inr (some 44)), some (.inr (some t)), some (.inl a2), some (.inl a3), some (.inl x7)]) o (q_dm dm_X0_goDays 40 rfl) rfl ic_1 (Nat.le_of_ble_eq_true rfl) (fun _ => rfl) (fun x7 => ?_)
      refine qr_goto (tgt := 53) o (q_dm dm_X0_goDays 41 rfl) (by decide) ?_
      exact qr_loc (q_leS (q_leS (q_leS (q_leS (q_leS q_le0))))) (hK53 a2 a3 x7 m6)

def f_X0_goDays_53 (n : Nat) (t j : Nat) (K35 : Int32 → Int32 → qM → qR) : Nat → Int32 → Int32 → Int32 → qM → qR
  | 0, _, _, _, _ => none
  | m + 1, a2, a3, a4, M => b_X0_goDays_53 n t j K35 (f_X0_goDays_53 n t j K35 m) a2 a3 a4 M
theorem w_X0_goDays_53 {g : qG} {k : qK} (n : Nat) (j r : Nat) (hj : q_isLaw j) (hr : q_isLaw r) {t : Nat} (ht : q_isTown t) (o : qOk g 6 zX0_goDays k) (K35 : Int32 → Int32 → qM → qR) (hK35 : ∀ (a2 a3 : Int32) (M : qM), qAE g k zX0_goDays (qL j r) 35 [some (.inr (some 44)), some (.inr (some t)), some (.inl a2), some (.inl a3), none] [] (qL j r, M) (K35 a2 a3 M)) : ∀ (m : Nat) (a2 a3 a4 : Int32) (M : qM), qAE g k zX0_goDays (qL j r) 53 [some (.inr (some 44)), some (.inr (some t)), some (.inl a2), some (.inl a3), some (.inl a4)] [] (qL j r, M) (f_X0_goDays_53 n t j K35 m a2 a3 a4 M) := by
  intro m
  induction m with
  | zero =>
    intro a2 a3 a4 M
    exact qr_none
  | succ m ih =>
    intro a2 a3 a4 M
    exact wb_X0_goDays_53 n j r hj hr ht o K35 hK35 (f_X0_goDays_53 n t j K35 m) ih a2 a3 a4 M
def b_X0_goDays_35 (n : Nat) (t j : Nat) (K35 : Int32 → Int32 → qM → qR) (a2 a3 : Int32) (M : qM) : qR :=
  (if a2 ≤ a3 then some (0, M) else (if (9999 : Int32) ≤ (M t 9) then some (0, M) else f_X0_goDays_53 n t j K35 n a2 a3 (0 : Int32) M))
set_option maxRecDepth 4000 in
theorem wb_X0_goDays_35 {g : qG} {k : qK} (n : Nat) (j r : Nat) (hj : q_isLaw j) (hr : q_isLaw r) {t : Nat} (ht : q_isTown t) (o : qOk g 6 zX0_goDays k) (K35 : Int32 → Int32 → qM → qR) (hK35 : ∀ (a2 a3 : Int32) (M : qM), qAE g k zX0_goDays (qL j r) 35 [some (.inr (some 44)), some (.inr (some t)), some (.inl a2), some (.inl a3), none] [] (qL j r, M) (K35 a2 a3 M)) (a2 a3 : Int32) (M : qM) : qAE g k zX0_goDays (qL j r) 35 [some (.inr (some 44)), some (.inr (some t)), some (.inl a2), some (.inl a3), none] [] (qL j r, M) (b_X0_goDays_35 n t j K35 a2 a3 M) := by
  unfold b_X0_goDays_35
  refine qr_iload_n o (q_dm dm_X0_goDays 20 rfl) rfl ?_
  refine qr_iload_n o (q_dm dm_X0_goDays 21 rfl) rfl ?_
  refine qr_icmp_ge (tgt := 98) o (q_dm dm_X0_goDays 22 rfl) (by decide) ?_ ?_
  · exact qr_vret o rfl (q_dm dm_X0_goDays 50 rfl)
  · refine qr_aload_n o (q_dm dm_X0_goDays 23 rfl) rfl ?_
    refine qr_getf (kf := 9) o cf_X10 (shT0 j r ht) rfl (Nat.le_of_ble_eq_true rfl) fl_X0_19 (q_dm dm_X0_goDays 24 rfl) ?_
    refine qr_sipush o (q_dm dm_X0_goDays 25 rfl) si_9999 ?_
    refine qr_icmp_ge (tgt := 98) o (q_dm dm_X0_goDays 26 rfl) (by decide) ?_ ?_
    · exact qr_vret o rfl (q_dm dm_X0_goDays 50 rfl)
    · refine qr_iconst o (q_dm dm_X0_goDays 27 rfl) ic_0 ?_
      refine qs_istore (L' := [some (.inr (some 44)), some (.inr (some t)), some (.inl a2), some (.inl a3), some (.inl (0 : Int32))]) o (q_dm dm_X0_goDays 28 rfl) (Nat.le_of_ble_eq_true rfl) rfl ?_
      exact qr_loc (q_leS (q_leS (q_leS (q_leS (q_leS q_le0))))) (w_X0_goDays_53 n j r hj hr ht o K35 hK35 n a2 a3 (0 : Int32) M)

def f_X0_goDays_35 (n : Nat) (t j : Nat) : Nat → Int32 → Int32 → qM → qR
  | 0, _, _, _ => none
  | m + 1, a2, a3, M => b_X0_goDays_35 n t j (f_X0_goDays_35 n t j m) a2 a3 M
theorem w_X0_goDays_35 {g : qG} {k : qK} (n : Nat) (j r : Nat) (hj : q_isLaw j) (hr : q_isLaw r) {t : Nat} (ht : q_isTown t) (o : qOk g 6 zX0_goDays k) : ∀ (m : Nat) (a2 a3 : Int32) (M : qM), qAE g k zX0_goDays (qL j r) 35 [some (.inr (some 44)), some (.inr (some t)), some (.inl a2), some (.inl a3), none] [] (qL j r, M) (f_X0_goDays_35 n t j m a2 a3 M) := by
  intro m
  induction m with
  | zero =>
    intro a2 a3 M
    exact qr_none
  | succ m ih =>
    intro a2 a3 M
    exact wb_X0_goDays_35 n j r hj hr ht o (f_X0_goDays_35 n t j m) ih a2 a3 M
def f_X0_goDays (n : Nat) (t j : Nat) (a2 : Int32) (M : qM) : qR :=
  qlm (mu M 44 4 (0 : Int32)) (fun m1 => qlm (mu m1 44 5 (0 : Int32)) (fun m2 => qlm (mu m2 44 6 (0 : Int32)) (fun m3 => qlm (mu m3 44 7 (-2 : Int32)) (fun m4 => qlm (mu m4 44 8 (-2 : Int32)) (fun m5 => qlm (mu m5 44 9 (-2 : Int32)) (fun m6 => f_X0_goDays_35 n t j n a2 (0 : Int32) m6))))))
set_option maxRecDepth 4000 in
theorem w_X0_goDays {g : qG} {k : qK} (n : Nat) (j r : Nat) (hj : q_isLaw j) (hr : q_isLaw r) {t : Nat} (ht : q_isTown t) (o : qOk g 6 zX0_goDays k) (a2 : Int32) (M : qM) : qAE g k zX0_goDays (qL j r) 0 [some (.inr (some 44)), some (.inr (some t)), some (.inl a2), none, none] [] (qL j r, M) (f_X0_goDays n t j a2 M) := by
  unfold f_X0_goDays
  refine qr_aload_n o (q_dm dm_X0_goDays 0 rfl) rfl ?_
  refine qr_iconst o (q_dm dm_X0_goDays 1 rfl) ic_0 ?_
  refine qr_putf (kf := 4) o cf_X0 (sh44 j r) rfl (Nat.le_of_ble_eq_true rfl) fl_X0_89 rfl (by decide +kernel) (q_dm dm_X0_goDays 2 rfl) ?_
  refine qr_letm (fun m1 => ?_)
  refine qr_aload_n o (q_dm dm_X0_goDays 3 rfl) rfl ?_
  refine qr_iconst o (q_dm dm_X0_goDays 4 rfl) ic_0 ?_
  refine qr_putf (kf := 5) o cf_X0 (sh44 j r) rfl (Nat.le_of_ble_eq_true rfl) fl_X0_92 rfl (by decide +kernel) (q_dm dm_X0_goDays 5 rfl) ?_
  refine qr_letm (fun m2 => ?_)
  refine qr_aload_n o (q_dm dm_X0_goDays 6 rfl) rfl ?_
  refine qr_iconst o (q_dm dm_X0_goDays 7 rfl) ic_0 ?_
  refine qr_putf (kf := 6) o cf_X0 (sh44 j r) rfl (Nat.le_of_ble_eq_true rfl) fl_X0_95 rfl (by decide +kernel) (q_dm dm_X0_goDays 8 rfl) ?_
  refine qr_letm (fun m3 => ?_)
  refine qr_aload_n o (q_dm dm_X0_goDays 9 rfl) rfl ?_
  refine qr_bipush o (q_dm dm_X0_goDays 10 rfl) bi_m2 ?_
  refine qr_putf (kf := 7) o cf_X0 (sh44 j r) rfl (Nat.le_of_ble_eq_true rfl) fl_X0_98 rfl (by decide +kernel) (q_dm dm_X0_goDays 11 rfl) ?_
  refine qr_letm (fun m4 => ?_)
  refine qr_aload_n o (q_dm dm_X0_goDays 12 rfl) rfl ?_
  refine qr_bipush o (q_dm dm_X0_goDays 13 rfl) bi_m2 ?_
  refine qr_putf (kf := 8) o cf_X0 (sh44 j r) rfl (Nat.le_of_ble_eq_true rfl) fl_X0_101 rfl (by decide +kernel) (q_dm dm_X0_goDays 14 rfl) ?_
  refine qr_letm (fun m5 => ?_)
  refine qr_aload_n o (q_dm dm_X0_goDays 15 rfl) rfl ?_
  refine qr_bipush o (q_dm dm_X0_goDays 16 rfl) bi_m2 ?_
  refine qr_putf (kf := 9) o cf_X0 (sh44 j r) rfl (Nat.le_of_ble_eq_true rfl) fl_X0_104 rfl (by decide +kernel) (q_dm dm_X0_goDays 17 rfl) ?_
  refine qr_letm (fun m6 => ?_)
  refine qr_iconst o (q_dm dm_X0_goDays 18 rfl) ic_0 ?_
  refine qs_istore_n (L' := [some (.inr (some 44)), some (.inr (some t)), some (.inl a2), some (.inl (0 : Int32)), none]) o (q_dm dm_X0_goDays 19 rfl) (Nat.le_of_ble_eq_true rfl) rfl ?_
  exact qr_loc (q_leS (q_leS (q_leS (q_leS (q_leN q_le0))))) (w_X0_goDays_35 n j r hj hr ht o n a2 (0 : Int32) m6)

theorem a_X0_goDays (g : qG) (l : Launch) (n : Nat) (j r : Nat) (hj : q_isLaw j) (hr : q_isLaw r) {t : Nat} (ht : q_isTown t) (a2 : Int32) (M : qM) : qAM g l 6 zX0_goDays (qL j r) [.inr (some 44), .inr (some t), .inl a2] (qL j r, M) (f_X0_goDays n t j a2 M) :=
  qAM.of zv_X0_goDays.1 (by show 3 ≤ 5; decide) (fun k hk o => w_X0_goDays n j r hj hr ht o a2 M)
def tb_X10_copy : List (Nat × Instr × Nat) := [(0, (.aload_n 1, 1)), (1, (.getfield 9, 3)), (4, (.iconst 0, 1)), (5, (.aload_n 0, 1)), (6, (.getfield 9, 3)), (9, (.iconst 0, 1)), (10, (.bipush 8, 2)), (12, (.invokestatic 36, 3)), (15, (.aload_n 1, 1)), (16, (.getfield 15, 3)), (19, (.iconst 0, 1)), (20, (.aload_n 0, 1)), (21, (.getfield 15, 3)), (24, (.iconst 0, 1)), (25, (.bipush 96, 2)), (27, (.invokestatic 36, 3)), (30, (.aload_n 1, 1)), (31, (.getfield 18, 3)), (34, (.iconst 0, 1)), (35, (.aload_n 0, 1)), (36, (.getfield 18, 3)), (39, (.iconst 0, 1)), (40, (.bipush 96, 2)), (42, (.invokestatic 36, 3)), (45, (.aload_n 1, 1)), (46, (.getfield 21, 3)), (49, (.iconst 0, 1)), (50, (.aload_n 0, 1)), (51, (.getfield 21, 3)), (54, (.iconst 0, 1)), (55, (.bipush 96, 2)), (57, (.invokestatic 36, 3)), (60, (.aload_n 1, 1)), (61, (.getfield 24, 3)), (64, (.iconst 0, 1)), (65, (.aload_n 0, 1)), (66, (.getfield 24, 3)), (69, (.iconst 0, 1)), (70, (.sipush 320, 3)), (73, (.invokestatic 36, 3)), (76, (.aload_n 1, 1)), (77, (.getfield 27, 3)), (80, (.iconst 0, 1)), (81, (.aload_n 0, 1)), (82, (.getfield 27, 3)), (85, (.iconst 0, 1)), (86, (.sipush 320, 3)), (89, (.invokestatic 36, 3)), (92, (.aload_n 1, 1)), (93, (.getfield 30, 3)), (96, (.iconst 0, 1)), (97, (.aload_n 0, 1)), (98, (.getfield 30, 3)), (101, (.iconst 0, 1)), (102, (.bipush 8, 2)), (104, (.invokestatic 36, 3)), (107, (.aload_n 1, 1)), (108, (.getfield 33, 3)), (111, (.iconst 0, 1)), (112, (.aload_n 0, 1)), (113, (.getfield 33, 3)), (116, (.iconst 0, 1)), (117, (.bipush 8, 2)), (119, (.invokestatic 36, 3)), (122, (.aload_n 0, 1)), (123, (.aload_n 1, 1)), (124, (.getfield 42, 3)), (127, (.putfield 42, 3)), (130, (.aload_n 0, 1)), (131, (.aload_n 1, 1)), (132, (.getfield 46, 3)), (135, (.putfield 46, 3)), (138, (.return_, 1))]
theorem dm_X10_copy : ∀ q ∈ tb_X10_copy, decode zX10_copy.2.1 q.1 = .ok q.2 := by decide +kernel
def f_X10_copy (n : Nat) (t u : Nat) (M : qM) : qR :=
  qcp (0 : Int32) (0 : Int32) (8 : Int32) 8 8 (qlm (mr M (t + 1) (va_cpy (M (u + 1)) (M (t + 1)) (0 : Int32).toNatClampNeg (0 : Int32).toNatClampNeg (8 : Int32).toNatClampNeg)) (fun m1 => qcp (0 : Int32) (0 : Int32) (96 : Int32) 96 96 (qlm (mr m1 (t + 2) (va_cpy (m1 (u + 2)) (m1 (t + 2)) (0 : Int32).toNatClampNeg (0 : Int32).toNatClampNeg (96 : Int32).toNatClampNeg)) (fun m2 => qcp (0 : Int32) (0 : Int32) (96 : Int32) 96 96 (qlm (mr m2 (t + 3) (va_cpy (m2 (u + 3)) (m2 (t + 3)) (0 : Int32).toNatClampNeg (0 : Int32).toNatClampNeg (96 : Int32).toNatClampNeg)) (fun m3 => qcp (0 : Int32) (0 : Int32) (96 : Int32) 96 96 (qlm (mr m3 (t + 4) (va_cpy (m3 (u + 4)) (m3 (t + 4)) (0 : Int32).toNatClampNeg (0 : Int32).toNatClampNeg (96 : Int32).toNatClampNeg)) (fun m4 => qcp (0 : Int32) (0 : Int32) (320 : Int32) 320 320 (qlm (mr m4 (t + 5) (va_cpy (m4 (u + 5)) (m4 (t + 5)) (0 : Int32).toNatClampNeg (0 : Int32).toNatClampNeg (320 : Int32).toNatClampNeg)) (fun m5 => qcp (0 : Int32) (0 : Int32) (320 : Int32) 320 320 (qlm (mr m5 (t + 6) (va_cpy (m5 (u + 6)) (m5 (t + 6)) (0 : Int32).toNatClampNeg (0 : Int32).toNatClampNeg (320 : Int32).toNatClampNeg)) (fun m6 => qcp (0 : Int32) (0 : Int32) (8 : Int32) 8 8 (qlm (mr m6 (t + 7) (va_cpy (m6 (u + 7)) (m6 (t + 7)) (0 : Int32).toNatClampNeg (0 : Int32).toNatClampNeg (8 : Int32).toNatClampNeg)) (fun m7 => qcp (0 : Int32) (0 : Int32) (8 : Int32) 8 8 (qlm (mr m7 (t + 8) (va_cpy (m7 (u + 8)) (m7 (t + 8)) (0 : Int32).toNatClampNeg (0 : Int32).toNatClampNeg (8 : Int32).toNatClampNeg)) (fun m8 => qlm (mu m8 t 8 (m8 u 8)) (fun m9 => qlm (mu m9 t 9 (m9 u 9)) (fun m10 => some (0, m10)))))))))))))))))))
set_option maxRecDepth 4000 in
theorem w_X10_copy {g : qG} {k : qK} (n : Nat) (j r : Nat) (hj : q_isLaw j) (hr : q_isLaw r) {t : Nat} {u : Nat} (ht : q_isTown t) (hu : q_isTown u) (o : qOk g 1 zX10_copy k) (M : qM) : qAE g k zX10_copy (qL j r) 0 [some (.inr (some t)), some (.inr (some u))] [] (qL j r, M) (f_X10_copy n t u  M) := by
  unfold f_X10_copy
  refine qr_aload_n o (q_dm dm_X10_copy 0 rfl) rfl ?_
  refine qr_getr (kf := 0) o cf_X10 (shT0 j r hu) rfl (Nat.le_of_ble_eq_true rfl) fl_X10_9 (q_dm dm_X10_copy 1 rfl) ?_
  refine qr_iconst o (q_dm dm_X10_copy 2 rfl) ic_0 ?_
  refine qr_aload_n o (q_dm dm_X10_copy 3 rfl) rfl ?_
  refine qr_getr (kf := 0) o cf_X10 (shT0 j r ht) rfl (Nat.le_of_ble_eq_true rfl) fl_X10_9 (q_dm dm_X10_copy 4 rfl) ?_
  refine qr_iconst o (q_dm dm_X10_copy 5 rfl) ic_0 ?_
  refine qr_bipush o (q_dm dm_X10_copy 6 rfl) bi_8 ?_
  refine qr_copyp o (shT1 j r hu) (shT1 j r ht) ml_X10_36 (by omega) (by show 0 + _ ≤ _; decide) (q_dm dm_X10_copy 7 rfl) ?_
  refine qr_letm (fun m1 => ?_)
  refine qr_aload_n o (q_dm dm_X10_copy 8 rfl) rfl ?_
  refine qr_getr (kf := 1) o cf_X10 (shT0 j r hu) rfl (Nat.le_of_ble_eq_true rfl) fl_X10_15 (q_dm dm_X10_copy 9 rfl) ?_
  refine qr_iconst o (q_dm dm_X10_copy 10 rfl) ic_0 ?_
  refine qr_aload_n o (q_dm dm_X10_copy 11 rfl) rfl ?_
  refine qr_getr (kf := 1) o cf_X10 (shT0 j r ht) rfl (Nat.le_of_ble_eq_true rfl) fl_X10_15 (q_dm dm_X10_copy 12 rfl) ?_
  refine qr_iconst o (q_dm dm_X10_copy 13 rfl) ic_0 ?_
  refine qr_bipush o (q_dm dm_X10_copy 14 rfl) bi_96 ?_
  refine qr_copyp o (shT2 j r hu) (shT2 j r ht) ml_X10_36 (by omega) (by show 0 + _ ≤ _; decide) (q_dm dm_X10_copy 15 rfl) ?_
  refine qr_letm (fun m2 => ?_)
  refine qr_aload_n o (q_dm dm_X10_copy 16 rfl) rfl ?_
  refine qr_getr (kf := 2) o cf_X10 (shT0 j r hu) rfl (Nat.le_of_ble_eq_true rfl) fl_X10_18 (q_dm dm_X10_copy 17 rfl) ?_
  refine qr_iconst o (q_dm dm_X10_copy 18 rfl) ic_0 ?_
  refine qr_aload_n o (q_dm dm_X10_copy 19 rfl) rfl ?_
  refine qr_getr (kf := 2) o cf_X10 (shT0 j r ht) rfl (Nat.le_of_ble_eq_true rfl) fl_X10_18 (q_dm dm_X10_copy 20 rfl) ?_
  refine qr_iconst o (q_dm dm_X10_copy 21 rfl) ic_0 ?_
  refine qr_bipush o (q_dm dm_X10_copy 22 rfl) bi_96 ?_
  refine qr_copyp o (shT3 j r hu) (shT3 j r ht) ml_X10_36 (by omega) (by show 0 + _ ≤ _; decide) (q_dm dm_X10_copy 23 rfl) ?_
  refine qr_letm (fun m3 => ?_)
  refine qr_aload_n o (q_dm dm_X10_copy 24 rfl) rfl ?_
  refine qr_getr (kf := 3) o cf_X10 (shT0 j r hu) rfl (Nat.le_of_ble_eq_true rfl) fl_X10_21 (q_dm dm_X10_copy 25 rfl) ?_
  refine qr_iconst o (q_dm dm_X10_copy 26 rfl) ic_0 ?_
  refine qr_aload_n o (q_dm dm_X10_copy 27 rfl) rfl ?_
  refine qr_getr (kf := 3) o cf_X10 (shT0 j r ht) rfl (Nat.le_of_ble_eq_true rfl) fl_X10_21 (q_dm dm_X10_copy 28 rfl) ?_
  refine qr_iconst o (q_dm dm_X10_copy 29 rfl) ic_0 ?_
  refine qr_bipush o (q_dm dm_X10_copy 30 rfl) bi_96 ?_
  refine qr_copyp o (shT4 j r hu) (shT4 j r ht) ml_X10_36 (by omega) (by show 0 + _ ≤ _; decide) (q_dm dm_X10_copy 31 rfl) ?_
  refine qr_letm (fun m4 => ?_)
  refine qr_aload_n o (q_dm dm_X10_copy 32 rfl) rfl ?_
  refine qr_getr (kf := 4) o cf_X10 (shT0 j r hu) rfl (Nat.le_of_ble_eq_true rfl) fl_X10_24 (q_dm dm_X10_copy 33 rfl) ?_
  refine qr_iconst o (q_dm dm_X10_copy 34 rfl) ic_0 ?_
  refine qr_aload_n o (q_dm dm_X10_copy 35 rfl) rfl ?_
  refine qr_getr (kf := 4) o cf_X10 (shT0 j r ht) rfl (Nat.le_of_ble_eq_true rfl) fl_X10_24 (q_dm dm_X10_copy 36 rfl) ?_
  refine qr_iconst o (q_dm dm_X10_copy 37 rfl) ic_0 ?_
  refine qr_sipush o (q_dm dm_X10_copy 38 rfl) si_320 ?_
  refine qr_copyp o (shT5 j r hu) (shT5 j r ht) ml_X10_36 (by omega) (by show 0 + _ ≤ _; decide) (q_dm dm_X10_copy 39 rfl) ?_
  refine qr_letm (fun m5 => ?_)
  refine qr_aload_n o (q_dm dm_X10_copy 40 rfl) rfl ?_
  refine qr_getr (kf := 5) o cf_X10 (shT0 j r hu) rfl (Nat.le_of_ble_eq_true rfl) fl_X10_27 (q_dm dm_X10_copy 41 rfl) ?_
  refine qr_iconst o (q_dm dm_X10_copy 42 rfl) ic_0 ?_
  refine qr_aload_n o (q_dm dm_X10_copy 43 rfl) rfl ?_
  refine qr_getr (kf := 5) o cf_X10 (shT0 j r ht) rfl (Nat.le_of_ble_eq_true rfl) fl_X10_27 (q_dm dm_X10_copy 44 rfl) ?_
  refine qr_iconst o (q_dm dm_X10_copy 45 rfl) ic_0 ?_
  refine qr_sipush o (q_dm dm_X10_copy 46 rfl) si_320 ?_
  refine qr_copyp o (shT6 j r hu) (shT6 j r ht) ml_X10_36 (by omega) (by show 0 + _ ≤ _; decide) (q_dm dm_X10_copy 47 rfl) ?_
  refine qr_letm (fun m6 => ?_)
  refine qr_aload_n o (q_dm dm_X10_copy 48 rfl) rfl ?_
  refine qr_getr (kf := 6) o cf_X10 (shT0 j r hu) rfl (Nat.le_of_ble_eq_true rfl) fl_X10_30 (q_dm dm_X10_copy 49 rfl) ?_
  refine qr_iconst o (q_dm dm_X10_copy 50 rfl) ic_0 ?_
  refine qr_aload_n o (q_dm dm_X10_copy 51 rfl) rfl ?_
  refine qr_getr (kf := 6) o cf_X10 (shT0 j r ht) rfl (Nat.le_of_ble_eq_true rfl) fl_X10_30 (q_dm dm_X10_copy 52 rfl) ?_
  refine qr_iconst o (q_dm dm_X10_copy 53 rfl) ic_0 ?_
  refine qr_bipush o (q_dm dm_X10_copy 54 rfl) bi_8 ?_
  refine qr_copyp o (shT7 j r hu) (shT7 j r ht) ml_X10_36 (by omega) (by show 0 + _ ≤ _; decide) (q_dm dm_X10_copy 55 rfl) ?_
  refine qr_letm (fun m7 => ?_)
  refine qr_aload_n o (q_dm dm_X10_copy 56 rfl) rfl ?_
  refine qr_getr (kf := 7) o cf_X10 (shT0 j r hu) rfl (Nat.le_of_ble_eq_true rfl) fl_X10_33 (q_dm dm_X10_copy 57 rfl) ?_
  refine qr_iconst o (q_dm dm_X10_copy 58 rfl) ic_0 ?_
  refine qr_aload_n o (q_dm dm_X10_copy 59 rfl) rfl ?_
  refine qr_getr (kf := 7) o cf_X10 (shT0 j r ht) rfl (Nat.le_of_ble_eq_true rfl) fl_X10_33 (q_dm dm_X10_copy 60 rfl) ?_
  refine qr_iconst o (q_dm dm_X10_copy 61 rfl) ic_0 ?_
  refine qr_bipush o (q_dm dm_X10_copy 62 rfl) bi_8 ?_
  refine qr_copyp o (shT8 j r hu) (shT8 j r ht) ml_X10_36 (by omega) (by show 0 + _ ≤ _; decide) (q_dm dm_X10_copy 63 rfl) ?_
  refine qr_letm (fun m8 => ?_)
  refine qr_aload_n o (q_dm dm_X10_copy 64 rfl) rfl ?_
  refine qr_aload_n o (q_dm dm_X10_copy 65 rfl) rfl ?_
  refine qr_getf (kf := 8) o cf_X10 (shT0 j r hu) rfl (Nat.le_of_ble_eq_true rfl) fl_X10_42 (q_dm dm_X10_copy 66 rfl) ?_
  refine qr_putf (kf := 8) o cf_X10 (shT0 j r ht) rfl (Nat.le_of_ble_eq_true rfl) fl_X10_42 rfl (by decide +kernel) (q_dm dm_X10_copy 67 rfl) ?_
  refine qr_letm (fun m9 => ?_)
  refine qr_aload_n o (q_dm dm_X10_copy 68 rfl) rfl ?_
  refine qr_aload_n o (q_dm dm_X10_copy 69 rfl) rfl ?_
  refine qr_getf (kf := 9) o cf_X10 (shT0 j r hu) rfl (Nat.le_of_ble_eq_true rfl) fl_X10_46 (q_dm dm_X10_copy 70 rfl) ?_
  refine qr_putf (kf := 9) o cf_X10 (shT0 j r ht) rfl (Nat.le_of_ble_eq_true rfl) fl_X10_46 rfl (by decide +kernel) (q_dm dm_X10_copy 71 rfl) ?_
  refine qr_letm (fun m10 => ?_)
  exact qr_vret o rfl (q_dm dm_X10_copy 72 rfl)

theorem a_X10_copy (g : qG) (l : Launch) (n : Nat) (j r : Nat) (hj : q_isLaw j) (hr : q_isLaw r) {t : Nat} {u : Nat} (ht : q_isTown t) (hu : q_isTown u) (M : qM) : qAM g l 1 zX10_copy (qL j r) [.inr (some t), .inr (some u)] (qL j r, M) (f_X10_copy n t u  M) :=
  qAM.of zv_X10_copy.1 (by show 2 ≤ 2; decide) (fun k hk o => w_X10_copy n j r hj hr ht hu o  M)
def tb_X10_knowsAll : List (Nat × Instr × Nat) := [(0, (.iload_n 1, 1)), (1, (.aload_n 0, 1)), (2, (.getfield 42, 3)), (5, (.iconst (-1), 1)), (6, (.ixor, 1)), (7, (.iand, 1)), (8, (.ifCond .ne 7, 3)), (11, (.iconst 1, 1)), (12, (.goto 4, 3)), (15, (.iconst 0, 1)), (16, (.ireturn, 1))]
theorem dm_X10_knowsAll : ∀ q ∈ tb_X10_knowsAll, decode zX10_knowsAll.2.1 q.1 = .ok q.2 := by decide +kernel
def f_X10_knowsAll (n : Nat) (t : Nat) (a1 : Int32) (M : qM) : qR :=
  (if (a1 &&& ((M t 8) ^^^ (-1 : Int32))) = (0 : Int32) then some ((1 : Int32), M) else some ((0 : Int32), M))
set_option maxRecDepth 4000 in
theorem w_X10_knowsAll {g : qG} {k : qK} (n : Nat) (j r : Nat) (hj : q_isLaw j) (hr : q_isLaw r) {t : Nat} (ht : q_isTown t) (o : qOk g 0 zX10_knowsAll k) (a1 : Int32) (M : qM) : qAE g k zX10_knowsAll (qL j r) 0 [some (.inr (some t)), some (.inl a1)] [] (qL j r, M) (f_X10_knowsAll n t a1 M) := by
  unfold f_X10_knowsAll
  refine qr_iload_n o (q_dm dm_X10_knowsAll 0 rfl) rfl ?_
  refine qr_aload_n o (q_dm dm_X10_knowsAll 1 rfl) rfl ?_
  refine qr_getf (kf := 8) o cf_X10 (shT0 j r ht) rfl (Nat.le_of_ble_eq_true rfl) fl_X10_42 (q_dm dm_X10_knowsAll 2 rfl) ?_
  refine qr_iconst o (q_dm dm_X10_knowsAll 3 rfl) ic_m1 ?_
  refine qr_ixor o (q_dm dm_X10_knowsAll 4 rfl) ?_
  refine qr_iand o (q_dm dm_X10_knowsAll 5 rfl) ?_
  refine qr_if_ne (tgt := 15) o (q_dm dm_X10_knowsAll 6 rfl) (by decide) ?_ ?_
  · refine qr_iconst o (q_dm dm_X10_knowsAll 9 rfl) ic_0 ?_
    exact qr_iret o rfl (by decide) (q_dm dm_X10_knowsAll 10 rfl)
  · refine qr_iconst o (q_dm dm_X10_knowsAll 7 rfl) ic_1 ?_
    refine qr_goto (tgt := 16) o (q_dm dm_X10_knowsAll 8 rfl) (by decide) ?_
    exact qr_iret o rfl (by decide) (q_dm dm_X10_knowsAll 10 rfl)

theorem a_X10_knowsAll (g : qG) (l : Launch) (n : Nat) (j r : Nat) (hj : q_isLaw j) (hr : q_isLaw r) {t : Nat} (ht : q_isTown t) (a1 : Int32) (M : qM) : qAM g l 0 zX10_knowsAll (qL j r) [.inr (some t), .inl a1] (qL j r, M) (f_X10_knowsAll n t a1 M) :=
  qAM.of zv_X10_knowsAll.1 (by show 2 ≤ 2; decide) (fun k hk o => w_X10_knowsAll n j r hj hr ht o a1 M)
def tb_X10_stepsLeft : List (Nat × Instr × Nat) := [(0, (.aload_n 0, 1)), (1, (.getfield 30, 3)), (4, (.iload_n 1, 1)), (5, (.iaload, 1)), (6, (.aload_n 0, 1)), (7, (.getfield 33, 3)), (10, (.iload_n 1, 1)), (11, (.iaload, 1)), (12, (.isub, 1)), (13, (.ireturn, 1))]
theorem dm_X10_stepsLeft : ∀ q ∈ tb_X10_stepsLeft, decode zX10_stepsLeft.2.1 q.1 = .ok q.2 := by decide +kernel
def f_X10_stepsLeft (n : Nat) (t : Nat) (a1 : Int32) (M : qM) : qR :=
  qg a1 8 (qg a1 8 (some (((M (t + 7) a1.toNatClampNeg) - (M (t + 8) a1.toNatClampNeg)), M)))
set_option maxRecDepth 4000 in
theorem w_X10_stepsLeft {g : qG} {k : qK} (n : Nat) (j r : Nat) (hj : q_isLaw j) (hr : q_isLaw r) {t : Nat} (ht : q_isTown t) (o : qOk g 0 zX10_stepsLeft k) (a1 : Int32) (M : qM) : qAE g k zX10_stepsLeft (qL j r) 0 [some (.inr (some t)), some (.inl a1)] [] (qL j r, M) (f_X10_stepsLeft n t a1 M) := by
  unfold f_X10_stepsLeft
  refine qr_aload_n o (q_dm dm_X10_stepsLeft 0 rfl) rfl ?_
  refine qr_getr (kf := 6) o cf_X10 (shT0 j r ht) rfl (Nat.le_of_ble_eq_true rfl) fl_X10_30 (q_dm dm_X10_stepsLeft 1 rfl) ?_
  refine qr_iload_n o (q_dm dm_X10_stepsLeft 2 rfl) rfl ?_
  refine qr_iald o (shT7 j r ht) (q_dm dm_X10_stepsLeft 3 rfl) ?_
  refine qr_aload_n o (q_dm dm_X10_stepsLeft 4 rfl) rfl ?_
  refine qr_getr (kf := 7) o cf_X10 (shT0 j r ht) rfl (Nat.le_of_ble_eq_true rfl) fl_X10_33 (q_dm dm_X10_stepsLeft 5 rfl) ?_
  refine qr_iload_n o (q_dm dm_X10_stepsLeft 6 rfl) rfl ?_
  refine qr_iald o (shT8 j r ht) (q_dm dm_X10_stepsLeft 7 rfl) ?_
  refine qr_isub o (q_dm dm_X10_stepsLeft 8 rfl) ?_
  exact qr_iret o rfl rfl (q_dm dm_X10_stepsLeft 9 rfl)

theorem a_X10_stepsLeft (g : qG) (l : Launch) (n : Nat) (j r : Nat) (hj : q_isLaw j) (hr : q_isLaw r) {t : Nat} (ht : q_isTown t) (a1 : Int32) (M : qM) : qAM g l 0 zX10_stepsLeft (qL j r) [.inr (some t), .inl a1] (qL j r, M) (f_X10_stepsLeft n t a1 M) :=
  qAM.of zv_X10_stepsLeft.1 (by show 2 ≤ 2; decide) (fun k hk o => w_X10_stepsLeft n j r hj hr ht o a1 M)
def tb_X10_sumOf : List (Nat × Instr × Nat) := [(0, (.iconst 0, 1)), (1, (.istore_n 3, 1)), (2, (.iconst 0, 1)), (3, (.istore 4, 2)), (5, (.iload 4, 2)), (7, (.bipush 12, 2)), (9, (.if_icmp .ge 21, 3)), (12, (.iload_n 3, 1)), (13, (.aload_n 1, 1)), (14, (.iload_n 2, 1)), (15, (.bipush 12, 2)), (17, (.imul, 1)), (18, (.iload 4, 2)), (20, (.iadd, 1)), (21, (.iaload, 1)), (22, (.iadd, 1)), (23, (.istore_n 3, 1)), (24, (.iinc 4 1, 3)), (27, (.goto (-22), 3)), (30, (.iload_n 3, 1)), (31, (.ireturn, 1))]
theorem dm_X10_sumOf : ∀ q ∈ tb_X10_sumOf, decode zX10_sumOf.2.1 q.1 = .ok q.2 := by decide +kernel
def b_X10_sumOf_5 (n : Nat) (t c1 : Nat) (K5 : Int32 → Int32 → Int32 → qM → qR) (a2 a3 a4 : Int32) (M : qM) : qR :=
  (if (12 : Int32) ≤ a4 then some (a3, M) else qg ((a2 * (12 : Int32)) + a4) 96 (ql (a3 + (M c1 ((a2 * (12 : Int32)) + a4).toNatClampNeg)) (fun x1 => ql (a4 + (1 : Int32)) (fun x2 => K5 a2 x1 x2 M))))
set_option maxRecDepth 4000 in
theorem wb_X10_sumOf_5 {g : qG} {k : qK} (n : Nat) (j r : Nat) (hj : q_isLaw j) (hr : q_isLaw r) {t : Nat} {c1 : Nat} (ht : q_isTown t) (hc1 : (qL j r)[c1]? = some (.inl (0, 96))) (o : qOk g 0 zX10_sumOf k) (K5 : Int32 → Int32 → Int32 → qM → qR) (hK5 : ∀ (a2 a3 a4 : Int32) (M : qM), qAE g k zX10_sumOf (qL j r) 5 [none, some (.inr (some c1)), some (.inl a2), some (.inl a3), some (.inl a4)] [] (qL j r, M) (K5 a2 a3 a4 M)) (a2 a3 a4 : Int32) (M : qM) : qAE g k zX10_sumOf (qL j r) 5 [none, some (.inr (some c1)), some (.inl a2), some (.inl a3), some (.inl a4)] [] (qL j r, M) (b_X10_sumOf_5 n t c1 K5 a2 a3 a4 M) := by
  unfold b_X10_sumOf_5
  refine qr_iload o (q_dm dm_X10_sumOf 4 rfl) rfl ?_
  refine qr_bipush o (q_dm dm_X10_sumOf 5 rfl) bi_12 ?_
  refine qr_icmp_ge (tgt := 30) o (q_dm dm_X10_sumOf 6 rfl) (by decide) ?_ ?_
  · refine qr_iload_n o (q_dm dm_X10_sumOf 19 rfl) rfl ?_
    exact qr_iret o rfl rfl (q_dm dm_X10_sumOf 20 rfl)
  · refine qr_iload_n o (q_dm dm_X10_sumOf 7 rfl) rfl ?_
    refine qr_aload_n o (q_dm dm_X10_sumOf 8 rfl) rfl ?_
    refine qr_iload_n o (q_dm dm_X10_sumOf 9 rfl) rfl ?_
    refine qr_bipush o (q_dm dm_X10_sumOf 10 rfl) bi_12 ?_
    refine qr_imul o (q_dm dm_X10_sumOf 11 rfl) ?_
    refine qr_iload o (q_dm dm_X10_sumOf 12 rfl) rfl ?_
    refine qr_iadd o (q_dm dm_X10_sumOf 13 rfl) ?_
    refine qr_iald o hc1 (q_dm dm_X10_sumOf 14 rfl) ?_
    refine qr_iadd o (q_dm dm_X10_sumOf 15 rfl) ?_
    refine qr_lt (fun x1 => ?_)
    refine qs_istore_n (L' := [none, some (.inr (some c1)), some (.inl a2), some (.inl x1), some (.inl a4)]) o (q_dm dm_X10_sumOf 16 rfl) (Nat.le_of_ble_eq_true rfl) rfl ?_
    refine qs_iincl2 (L' := fun x2 => [none, some (.inr (some c1)), some (.inl a2), some (.inl x1), some (.inl x2)]) o (q_dm dm_X10_sumOf 17 rfl) rfl ic_1 (Nat.le_of_ble_eq_true rfl) (fun _ => rfl) (fun x2 => ?_)
    refine qr_goto (tgt := 5) o (q_dm dm_X10_sumOf 18 rfl) (by decide) ?_
    exact qr_loc (q_leN (q_leS (q_leS (q_leS (q_leS q_le0))))) (hK5 a2 x1 x2 M)

def f_X10_sumOf_5 (n : Nat) (t c1 : Nat) : Nat → Int32 → Int32 → Int32 → qM → qR
  | 0, _, _, _, _ => none
  | m + 1, a2, a3, a4, M => b_X10_sumOf_5 n t c1 (f_X10_sumOf_5 n t c1 m) a2 a3 a4 M
theorem w_X10_sumOf_5 {g : qG} {k : qK} (n : Nat) (j r : Nat) (hj : q_isLaw j) (hr : q_isLaw r) {t : Nat} {c1 : Nat} (ht : q_isTown t) (hc1 : (qL j r)[c1]? = some (.inl (0, 96))) (o : qOk g 0 zX10_sumOf k) : ∀ (m : Nat) (a2 a3 a4 : Int32) (M : qM), qAE g k zX10_sumOf (qL j r) 5 [none, some (.inr (some c1)), some (.inl a2), some (.inl a3), some (.inl a4)] [] (qL j r, M) (f_X10_sumOf_5 n t c1 m a2 a3 a4 M) := by
  intro m
  induction m with
  | zero =>
    intro a2 a3 a4 M
    exact qr_none
  | succ m ih =>
    intro a2 a3 a4 M
    exact wb_X10_sumOf_5 n j r hj hr ht hc1 o (f_X10_sumOf_5 n t c1 m) ih a2 a3 a4 M
def f_X10_sumOf (n : Nat) (t c1 : Nat) (a2 : Int32) (M : qM) : qR :=
  f_X10_sumOf_5 n t c1 n a2 (0 : Int32) (0 : Int32) M
set_option maxRecDepth 4000 in
theorem w_X10_sumOf {g : qG} {k : qK} (n : Nat) (j r : Nat) (hj : q_isLaw j) (hr : q_isLaw r) {t : Nat} {c1 : Nat} (ht : q_isTown t) (hc1 : (qL j r)[c1]? = some (.inl (0, 96))) (o : qOk g 0 zX10_sumOf k) (a2 : Int32) (M : qM) : qAE g k zX10_sumOf (qL j r) 0 [some (.inr (some t)), some (.inr (some c1)), some (.inl a2), none, none] [] (qL j r, M) (f_X10_sumOf n t c1 a2 M) := by
  unfold f_X10_sumOf
  refine qr_iconst o (q_dm dm_X10_sumOf 0 rfl) ic_0 ?_
  refine qs_istore_n (L' := [some (.inr (some t)), some (.inr (some c1)), some (.inl a2), some (.inl (0 : Int32)), none]) o (q_dm dm_X10_sumOf 1 rfl) (Nat.le_of_ble_eq_true rfl) rfl ?_
  refine qr_iconst o (q_dm dm_X10_sumOf 2 rfl) ic_0 ?_
  refine qs_istore (L' := [some (.inr (some t)), some (.inr (some c1)), some (.inl a2), some (.inl (0 : Int32)), some (.inl (0 : Int32))]) o (q_dm dm_X10_sumOf 3 rfl) (Nat.le_of_ble_eq_true rfl) rfl ?_
  exact qr_loc (q_leN (q_leS (q_leS (q_leS (q_leS q_le0))))) (w_X10_sumOf_5 n j r hj hr ht hc1 o n a2 (0 : Int32) (0 : Int32) M)

theorem a_X10_sumOf (g : qG) (l : Launch) (n : Nat) (j r : Nat) (hj : q_isLaw j) (hr : q_isLaw r) {t : Nat} {c1 : Nat} (ht : q_isTown t) (hc1 : (qL j r)[c1]? = some (.inl (0, 96))) (a2 : Int32) (M : qM) : qAM g l 0 zX10_sumOf (qL j r) [.inr (some t), .inr (some c1), .inl a2] (qL j r, M) (f_X10_sumOf n t c1 a2 M) :=
  qAM.of zv_X10_sumOf.1 (by show 3 ≤ 5; decide) (fun k hk o => w_X10_sumOf n j r hj hr ht hc1 o a2 M)
def tb_X10_takePlan : List (Nat × Instr × Nat) := [(0, (.aload_n 2, 1)), (1, (.getfield 49, 3)), (4, (.iconst 0, 1)), (5, (.aload_n 0, 1)), (6, (.getfield 24, 3)), (9, (.iload_n 1, 1)), (10, (.bipush 40, 2)), (12, (.imul, 1)), (13, (.bipush 40, 2)), (15, (.invokestatic 36, 3)), (18, (.aload_n 2, 1)), (19, (.getfield 52, 3)), (22, (.iconst 0, 1)), (23, (.aload_n 0, 1)), (24, (.getfield 27, 3)), (27, (.iload_n 1, 1)), (28, (.bipush 40, 2)), (30, (.imul, 1)), (31, (.bipush 40, 2)), (33, (.invokestatic 36, 3)), (36, (.aload_n 0, 1)), (37, (.getfield 30, 3)), (40, (.iload_n 1, 1)), (41, (.aload_n 2, 1)), (42, (.getfield 53, 3)), (45, (.iastore, 1)), (46, (.aload_n 0, 1)), (47, (.getfield 33, 3)), (50, (.iload_n 1, 1)), (51, (.iconst 0, 1)), (52, (.iastore, 1)), (53, (.return_, 1))]
theorem dm_X10_takePlan : ∀ q ∈ tb_X10_takePlan, decode zX10_takePlan.2.1 q.1 = .ok q.2 := by decide +kernel
def f_X10_takePlan (n : Nat) (t : Nat) (a1 : Int32) (M : qM) : qR :=
  qcp (0 : Int32) (a1 * (40 : Int32)) (40 : Int32) 40 320 (qlm (mr M (t + 5) (va_cpy (M 54) (M (t + 5)) (0 : Int32).toNatClampNeg (a1 * (40 : Int32)).toNatClampNeg (40 : Int32).toNatClampNeg)) (fun m1 => qcp (0 : Int32) (a1 * (40 : Int32)) (40 : Int32) 40 320 (qlm (mr m1 (t + 6) (va_cpy (m1 55) (m1 (t + 6)) (0 : Int32).toNatClampNeg (a1 * (40 : Int32)).toNatClampNeg (40 : Int32).toNatClampNeg)) (fun m2 => qg a1 8 (qlm (mu m2 (t + 7) a1.toNatClampNeg (m2 53 3)) (fun m3 => qg a1 8 (qlm (mu m3 (t + 8) a1.toNatClampNeg (0 : Int32)) (fun m4 => some (0, m4)))))))))
set_option maxRecDepth 4000 in
theorem w_X10_takePlan {g : qG} {k : qK} (n : Nat) (j r : Nat) (hj : q_isLaw j) (hr : q_isLaw r) {t : Nat} (ht : q_isTown t) (o : qOk g 1 zX10_takePlan k) (a1 : Int32) (M : qM) : qAE g k zX10_takePlan (qL j r) 0 [some (.inr (some t)), some (.inl a1), some (.inr (some 53))] [] (qL j r, M) (f_X10_takePlan n t a1 M) := by
  unfold f_X10_takePlan
  refine qr_aload_n o (q_dm dm_X10_takePlan 0 rfl) rfl ?_
  refine qr_getr (kf := 1) o cf_X6 (sh53 j r) rfl (Nat.le_of_ble_eq_true rfl) fl_X10_49 (q_dm dm_X10_takePlan 1 rfl) ?_
  refine qr_iconst o (q_dm dm_X10_takePlan 2 rfl) ic_0 ?_
  refine qr_aload_n o (q_dm dm_X10_takePlan 3 rfl) rfl ?_
  refine qr_getr (kf := 4) o cf_X10 (shT0 j r ht) rfl (Nat.le_of_ble_eq_true rfl) fl_X10_24 (q_dm dm_X10_takePlan 4 rfl) ?_
  refine qr_iload_n o (q_dm dm_X10_takePlan 5 rfl) rfl ?_
  refine qr_bipush o (q_dm dm_X10_takePlan 6 rfl) bi_40 ?_
  refine qr_imul o (q_dm dm_X10_takePlan 7 rfl) ?_
  refine qr_bipush o (q_dm dm_X10_takePlan 8 rfl) bi_40 ?_
  refine qr_copyp o (sh54 j r) (shT5 j r ht) ml_X10_36 (by omega) (by show 0 + _ ≤ _; decide) (q_dm dm_X10_takePlan 9 rfl) ?_
  refine qr_letm (fun m1 => ?_)
  refine qr_aload_n o (q_dm dm_X10_takePlan 10 rfl) rfl ?_
  refine qr_getr (kf := 2) o cf_X6 (sh53 j r) rfl (Nat.le_of_ble_eq_true rfl) fl_X10_52 (q_dm dm_X10_takePlan 11 rfl) ?_
  refine qr_iconst o (q_dm dm_X10_takePlan 12 rfl) ic_0 ?_
  refine qr_aload_n o (q_dm dm_X10_takePlan 13 rfl) rfl ?_
  refine qr_getr (kf := 5) o cf_X10 (shT0 j r ht) rfl (Nat.le_of_ble_eq_true rfl) fl_X10_27 (q_dm dm_X10_takePlan 14 rfl) ?_
  refine qr_iload_n o (q_dm dm_X10_takePlan 15 rfl) rfl ?_
  refine qr_bipush o (q_dm dm_X10_takePlan 16 rfl) bi_40 ?_
  refine qr_imul o (q_dm dm_X10_takePlan 17 rfl) ?_
  refine qr_bipush o (q_dm dm_X10_takePlan 18 rfl) bi_40 ?_
  refine qr_copyp o (sh55 j r) (shT6 j r ht) ml_X10_36 (by omega) (by show 0 + _ ≤ _; decide) (q_dm dm_X10_takePlan 19 rfl) ?_
  refine qr_letm (fun m2 => ?_)
  refine qr_aload_n o (q_dm dm_X10_takePlan 20 rfl) rfl ?_
  refine qr_getr (kf := 6) o cf_X10 (shT0 j r ht) rfl (Nat.le_of_ble_eq_true rfl) fl_X10_30 (q_dm dm_X10_takePlan 21 rfl) ?_
  refine qr_iload_n o (q_dm dm_X10_takePlan 22 rfl) rfl ?_
  refine qr_aload_n o (q_dm dm_X10_takePlan 23 rfl) rfl ?_
  refine qr_getf (kf := 3) o cf_X6 (sh53 j r) rfl (Nat.le_of_ble_eq_true rfl) fl_X10_53 (q_dm dm_X10_takePlan 24 rfl) ?_
  refine qr_iast o (shT7 j r ht) (q_dm dm_X10_takePlan 25 rfl) ?_
  refine qr_letm (fun m3 => ?_)
  refine qr_aload_n o (q_dm dm_X10_takePlan 26 rfl) rfl ?_
  refine qr_getr (kf := 7) o cf_X10 (shT0 j r ht) rfl (Nat.le_of_ble_eq_true rfl) fl_X10_33 (q_dm dm_X10_takePlan 27 rfl) ?_
  refine qr_iload_n o (q_dm dm_X10_takePlan 28 rfl) rfl ?_
  refine qr_iconst o (q_dm dm_X10_takePlan 29 rfl) ic_0 ?_
  refine qr_iast o (shT8 j r ht) (q_dm dm_X10_takePlan 30 rfl) ?_
  refine qr_letm (fun m4 => ?_)
  exact qr_vret o rfl (q_dm dm_X10_takePlan 31 rfl)

theorem a_X10_takePlan (g : qG) (l : Launch) (n : Nat) (j r : Nat) (hj : q_isLaw j) (hr : q_isLaw r) {t : Nat} (ht : q_isTown t) (a1 : Int32) (M : qM) : qAM g l 1 zX10_takePlan (qL j r) [.inr (some t), .inl a1, .inr (some 53)] (qL j r, M) (f_X10_takePlan n t a1 M) :=
  qAM.of zv_X10_takePlan.1 (by show 3 ≤ 3; decide) (fun k hk o => w_X10_takePlan n j r hj hr ht o a1 M)
def tb_X1_findsAlike : List (Nat × Instr × Nat) := [(0, (.iload_n 1, 1)), (1, (.iload_n 2, 1)), (2, (.if_icmp .ne 5, 3)), (5, (.iconst 1, 1)), (6, (.ireturn, 1)), (7, (.aload_n 0, 1)), (8, (.iload_n 1, 1)), (9, (.aload_n 0, 1)), (10, (.getfield 28, 3)), (13, (.getfield 32, 3)), (16, (.iload_n 1, 1)), (17, (.iaload, 1)), (18, (.aload_n 0, 1)), (19, (.getfield 28, 3)), (22, (.getfield 37, 3)), (25, (.iload_n 1, 1)), (26, (.iaload, 1)), (27, (.iload_n 3, 1)), (28, (.invokevirtual 40, 3)), (31, (.aload_n 0, 1)), (32, (.iload_n 2, 1)), (33, (.invokevirtual 44, 3)), (36, (.ireturn, 1))]
theorem dm_X1_findsAlike : ∀ q ∈ tb_X1_findsAlike, decode zX1_findsAlike.2.1 q.1 = .ok q.2 := by decide +kernel
def f_X1_findsAlike (n : Nat) (j : Nat) (a1 a2 a3 : Int32) (M : qM) : qR :=
  (if a1 = a2 then some ((1 : Int32), M) else qg a1 12 (qg a1 12 (qc (f_X1_tellDeed n a1 (M 4 a1.toNatClampNeg) (M 5 a1.toNatClampNeg) a3 M) (fun _ m1 => qc (f_X1_isAlike n j a2 m1) (fun r2 m3 => qb r2 (some (r2, m3)))))))
set_option maxRecDepth 4000 in
theorem w_X1_findsAlike {g : qG} {k : qK} (n : Nat) (j r : Nat) (hj : q_isLaw j) (hr : q_isLaw r) (o : qOk g 3 zX1_findsAlike k) (a1 a2 a3 : Int32) (M : qM) : qAE g k zX1_findsAlike (qL j r) 0 [some (.inr (some 34)), some (.inl a1), some (.inl a2), some (.inl a3)] [] (qL j r, M) (f_X1_findsAlike n j a1 a2 a3 M) := by
  unfold f_X1_findsAlike
  refine qr_iload_n o (q_dm dm_X1_findsAlike 0 rfl) rfl ?_
  refine qr_iload_n o (q_dm dm_X1_findsAlike 1 rfl) rfl ?_
  refine qr_icmp_ne (tgt := 7) o (q_dm dm_X1_findsAlike 2 rfl) (by decide) ?_ ?_
  · refine qr_aload_n o (q_dm dm_X1_findsAlike 5 rfl) rfl ?_
    refine qr_iload_n o (q_dm dm_X1_findsAlike 6 rfl) rfl ?_
    refine qr_aload_n o (q_dm dm_X1_findsAlike 7 rfl) rfl ?_
    refine qr_getr (kf := 0) o cf_X1 (sh34 j r) rfl (Nat.le_of_ble_eq_true rfl) fl_X1_28 (q_dm dm_X1_findsAlike 8 rfl) ?_
    refine qr_getr (kf := 0) o cf_X2 (sh3 j r) rfl (Nat.le_of_ble_eq_true rfl) fl_X1_32 (q_dm dm_X1_findsAlike 9 rfl) ?_
    refine qr_iload_n o (q_dm dm_X1_findsAlike 10 rfl) rfl ?_
    refine qr_iald o (sh4 j r) (q_dm dm_X1_findsAlike 11 rfl) ?_
    refine qr_aload_n o (q_dm dm_X1_findsAlike 12 rfl) rfl ?_
    refine qr_getr (kf := 0) o cf_X1 (sh34 j r) rfl (Nat.le_of_ble_eq_true rfl) fl_X1_28 (q_dm dm_X1_findsAlike 13 rfl) ?_
    refine qr_getr (kf := 1) o cf_X2 (sh3 j r) rfl (Nat.le_of_ble_eq_true rfl) fl_X1_37 (q_dm dm_X1_findsAlike 14 rfl) ?_
    refine qr_iload_n o (q_dm dm_X1_findsAlike 15 rfl) rfl ?_
    refine qr_iald o (sh5 j r) (q_dm dm_X1_findsAlike 16 rfl) ?_
    refine qr_iload_n o (q_dm dm_X1_findsAlike 17 rfl) rfl ?_
    refine qr_callv_v (As := [.inl a1, .inl (M 4 a1.toNatClampNeg), .inl (M 5 a1.toNatClampNeg), .inl a3]) (S := []) o (a_X1_tellDeed g k.2.1 n j r hj hr a1 (M 4 a1.toNatClampNeg) (M 5 a1.toNatClampNeg) a3 M) (Nat.le_of_ble_eq_true rfl) zv_X1_tellDeed rfl cf_X1 (sh34 j r) ml_X1_40 (Nat.le_of_ble_eq_true rfl) (q_dm dm_X1_findsAlike 18 rfl) (fun _ m1 => ?_)
    refine qr_aload_n o (q_dm dm_X1_findsAlike 19 rfl) rfl ?_
    refine qr_iload_n o (q_dm dm_X1_findsAlike 20 rfl) rfl ?_
    refine qr_callv_i (As := [.inl a2]) (S := []) o (a_X1_isAlike g k.2.1 n j r hj hr a2 m1) (Nat.le_of_ble_eq_true rfl) zv_X1_isAlike rfl cf_X1 (sh34 j r) ml_X1_44 (Nat.le_of_ble_eq_true rfl) (q_dm dm_X1_findsAlike 21 rfl) (fun r2 m3 => ?_)
    exact qr_zret o rfl (q_dm dm_X1_findsAlike 22 rfl)
  · refine qr_iconst o (q_dm dm_X1_findsAlike 3 rfl) ic_1 ?_
    exact qr_iret o rfl (by decide) (q_dm dm_X1_findsAlike 4 rfl)

theorem a_X1_findsAlike (g : qG) (l : Launch) (n : Nat) (j r : Nat) (hj : q_isLaw j) (hr : q_isLaw r) (a1 a2 a3 : Int32) (M : qM) : qAM g l 3 zX1_findsAlike (qL j r) [.inr (some 34), .inl a1, .inl a2, .inl a3] (qL j r, M) (f_X1_findsAlike n j a1 a2 a3 M) :=
  qAM.of zv_X1_findsAlike.1 (by show 4 ≤ 4; decide) (fun k hk o => w_X1_findsAlike n j r hj hr o a1 a2 a3 M)
def tb_X11_alike : List (Nat × Instr × Nat) := [(0, (.aload_n 0, 1)), (1, (.getfield 19, 3)), (4, (.iload_n 1, 1)), (5, (.invokevirtual 140, 3)), (8, (.ifCond .eq 14, 3)), (11, (.aload_n 0, 1)), (12, (.getfield 19, 3)), (15, (.iload_n 2, 1)), (16, (.invokevirtual 140, 3)), (19, (.ifCond .ne 5, 3)), (22, (.iconst (-1), 1)), (23, (.ireturn, 1)), (24, (.aload_n 0, 1)), (25, (.getfield 41, 3)), (28, (.iload_n 1, 1)), (29, (.iload_n 2, 1)), (30, (.aload_n 0, 1)), (31, (.getfield 26, 3)), (34, (.getfield 184, 3)), (37, (.invokevirtual 187, 3)), (40, (.ifCond .eq 7, 3)), (43, (.iconst 1, 1)), (44, (.goto 4, 3)), (47, (.iconst 0, 1)), (48, (.ireturn, 1))]
theorem dm_X11_alike : ∀ q ∈ tb_X11_alike, decode zX11_alike.2.1 q.1 = .ok q.2 := by decide +kernel
def f_X11_alike (n : Nat) (j : Nat) (a1 a2 : Int32) (M : qM) : qR :=
  qc (f_X2_knows n a1 M) (fun r1 m2 => (if r1 = (0 : Int32) then some ((-1 : Int32), m2) else qc (f_X2_knows n a2 m2) (fun r3 m4 => (if r3 = (0 : Int32) then some ((-1 : Int32), m4) else qc (f_X1_findsAlike n j a1 a2 (m4 7 9) m4) (fun r5 m6 => (if r5 = (0 : Int32) then some ((0 : Int32), m6) else some ((1 : Int32), m6)))))))
set_option maxRecDepth 4000 in
theorem w_X11_alike {g : qG} {k : qK} (n : Nat) (j r : Nat) (hj : q_isLaw j) (hr : q_isLaw r) (o : qOk g 4 zX11_alike k) (a1 a2 : Int32) (M : qM) : qAE g k zX11_alike (qL j r) 0 [some (.inr (some 0)), some (.inl a1), some (.inl a2)] [] (qL j r, M) (f_X11_alike n j a1 a2 M) := by
  unfold f_X11_alike
  refine qr_aload_n o (q_dm dm_X11_alike 0 rfl) rfl ?_
  refine qr_getr (kf := 1) o cf_X11 (sh0 j r) rfl (Nat.le_of_ble_eq_true rfl) fl_X11_19 (q_dm dm_X11_alike 1 rfl) ?_
  refine qr_iload_n o (q_dm dm_X11_alike 2 rfl) rfl ?_
  refine qr_callv_i (As := [.inl a1]) (S := []) o (a_X2_knows g k.2.1 n j r hj hr a1 M) (Nat.le_of_ble_eq_true rfl) zv_X2_knows rfl cf_X2 (sh3 j r) ml_X11_140 (Nat.le_of_ble_eq_true rfl) (q_dm dm_X11_alike 3 rfl) (fun r1 m2 => ?_)
  refine qr_if_eq (tgt := 22) o (q_dm dm_X11_alike 4 rfl) (by decide) ?_ ?_
  · refine qr_iconst o (q_dm dm_X11_alike 10 rfl) ic_m1 ?_
    exact qr_iret o rfl rfl (q_dm dm_X11_alike 11 rfl)
  · refine qr_aload_n o (q_dm dm_X11_alike 5 rfl) rfl ?_
    refine qr_getr (kf := 1) o cf_X11 (sh0 j r) rfl (Nat.le_of_ble_eq_true rfl) fl_X11_19 (q_dm dm_X11_alike 6 rfl) ?_
    refine qr_iload_n o (q_dm dm_X11_alike 7 rfl) rfl ?_
    refine qr_callv_i (As := [.inl a2]) (S := []) o (a_X2_knows g k.2.1 n j r hj hr a2 m2) (Nat.le_of_ble_eq_true rfl) zv_X2_knows rfl cf_X2 (sh3 j r) ml_X11_140 (Nat.le_of_ble_eq_true rfl) (q_dm dm_X11_alike 8 rfl) (fun r3 m4 => ?_)
    refine qr_if_ne (tgt := 24) o (q_dm dm_X11_alike 9 rfl) (by decide) ?_ ?_
    · refine qr_aload_n o (q_dm dm_X11_alike 12 rfl) rfl ?_
      refine qr_getr (kf := 5) o cf_X11 (sh0 j r) rfl (Nat.le_of_ble_eq_true rfl) fl_X11_41 (q_dm dm_X11_alike 13 rfl) ?_
      refine qr_iload_n o (q_dm dm_X11_alike 14 rfl) rfl ?_
      refine qr_iload_n o (q_dm dm_X11_alike 15 rfl) rfl ?_
      refine qr_aload_n o (q_dm dm_X11_alike 16 rfl) rfl ?_
      refine qr_getr (kf := 2) o cf_X11 (sh0 j r) rfl (Nat.le_of_ble_eq_true rfl) fl_X11_26 (q_dm dm_X11_alike 17 rfl) ?_
      refine qr_getf (kf := 9) o cf_X10 (sh7 j r) rfl (Nat.le_of_ble_eq_true rfl) fl_X11_184 (q_dm dm_X11_alike 18 rfl) ?_
      refine qr_callv_i (As := [.inl a1, .inl a2, .inl (m4 7 9)]) (S := []) o (a_X1_findsAlike g k.2.1 n j r hj hr a1 a2 (m4 7 9) m4) (Nat.le_of_ble_eq_true rfl) zv_X1_findsAlike rfl cf_X1 (sh34 j r) ml_X11_187 (Nat.le_of_ble_eq_true rfl) (q_dm dm_X11_alike 19 rfl) (fun r5 m6 => ?_)
      refine qr_if_eq (tgt := 47) o (q_dm dm_X11_alike 20 rfl) (by decide) ?_ ?_
      · refine qr_iconst o (q_dm dm_X11_alike 23 rfl) ic_0 ?_
        exact qr_iret o rfl rfl (q_dm dm_X11_alike 24 rfl)
      · refine qr_iconst o (q_dm dm_X11_alike 21 rfl) ic_1 ?_
        refine qr_goto (tgt := 48) o (q_dm dm_X11_alike 22 rfl) (by decide) ?_
        exact qr_iret o rfl rfl (q_dm dm_X11_alike 24 rfl)
    · refine qr_iconst o (q_dm dm_X11_alike 10 rfl) ic_m1 ?_
      exact qr_iret o rfl rfl (q_dm dm_X11_alike 11 rfl)

theorem a_X11_alike (g : qG) (l : Launch) (n : Nat) (j r : Nat) (hj : q_isLaw j) (hr : q_isLaw r) (a1 a2 : Int32) (M : qM) : qAM g l 4 zX11_alike (qL j r) [.inr (some 0), .inl a1, .inl a2] (qL j r, M) (f_X11_alike n j a1 a2 M) :=
  qAM.of zv_X11_alike.1 (by show 3 ≤ 3; decide) (fun k hk o => w_X11_alike n j r hj hr o a1 a2 M)
def tb_X11_nextOneWins : List (Nat × Instr × Nat) := [(0, (.iload_n 0, 1)), (1, (.iload_n 0, 1)), (2, (.iconst 3, 1)), (3, (.ishr, 1)), (4, (.ixor, 1)), (5, (.iload_n 0, 1)), (6, (.bipush 6, 2)), (8, (.ishr, 1)), (9, (.ixor, 1)), (10, (.iconst 3, 1)), (11, (.iand, 1)), (12, (.ifCond .eq 7, 3)), (15, (.iconst 1, 1)), (16, (.goto 4, 3)), (19, (.iconst 0, 1)), (20, (.istore_n 2, 1)), (21, (.iload_n 1, 1)), (22, (.ifCond .eq 7, 3)), (25, (.iload_n 2, 1)), (26, (.goto 16, 3)), (29, (.iload_n 0, 1)), (30, (.ifCond .eq 11, 3)), (33, (.iload_n 2, 1)), (34, (.ifCond .ne 7, 3)), (37, (.iconst 1, 1)), (38, (.goto 4, 3)), (41, (.iconst 0, 1)), (42, (.ireturn, 1))]
theorem dm_X11_nextOneWins : ∀ q ∈ tb_X11_nextOneWins, decode zX11_nextOneWins.2.1 q.1 = .ok q.2 := by decide +kernel
def f_X11_nextOneWins_20 (n : Nat) (a0 a1 s0 : Int32) (M : qM) : qR :=
  (if a1 = (0 : Int32) then (if a0 = (0 : Int32) then some ((0 : Int32), M) else (if s0 = (0 : Int32) then some ((1 : Int32), M) else some ((0 : Int32), M))) else qb s0 (some (s0, M)))
set_option maxRecDepth 4000 in
theorem w_X11_nextOneWins_20 {g : qG} {k : qK} (n : Nat) (j r : Nat) (hj : q_isLaw j) (hr : q_isLaw r) (o : qOk g 0 zX11_nextOneWins k) (a0 a1 s0 : Int32) (M : qM) : qAE g k zX11_nextOneWins (qL j r) 20 [some (.inl a0), some (.inl a1), none] [.inl s0] (qL j r, M) (f_X11_nextOneWins_20 n a0 a1 s0 M) := by
  unfold f_X11_nextOneWins_20
  refine qs_istore_n (L' := [some (.inl a0), some (.inl a1), some (.inl s0)]) o (q_dm dm_X11_nextOneWins 15 rfl) (Nat.le_of_ble_eq_true rfl) rfl ?_
  refine qr_iload_n o (q_dm dm_X11_nextOneWins 16 rfl) rfl ?_
  refine qr_if_eq (tgt := 29) o (q_dm dm_X11_nextOneWins 17 rfl) (by decide) ?_ ?_
  · refine qr_iload_n o (q_dm dm_X11_nextOneWins 20 rfl) rfl ?_
    refine qr_if_eq (tgt := 41) o (q_dm dm_X11_nextOneWins 21 rfl) (by decide) ?_ ?_
    · refine qr_iconst o (q_dm dm_X11_nextOneWins 26 rfl) ic_0 ?_
      exact qr_iret o rfl (by decide) (q_dm dm_X11_nextOneWins 27 rfl)
    · refine qr_iload_n o (q_dm dm_X11_nextOneWins 22 rfl) rfl ?_
      refine qr_if_ne (tgt := 41) o (q_dm dm_X11_nextOneWins 23 rfl) (by decide) ?_ ?_
      · refine qr_iconst o (q_dm dm_X11_nextOneWins 26 rfl) ic_0 ?_
        exact qr_iret o rfl (by decide) (q_dm dm_X11_nextOneWins 27 rfl)
      · refine qr_iconst o (q_dm dm_X11_nextOneWins 24 rfl) ic_1 ?_
        refine qr_goto (tgt := 42) o (q_dm dm_X11_nextOneWins 25 rfl) (by decide) ?_
        exact qr_iret o rfl (by decide) (q_dm dm_X11_nextOneWins 27 rfl)
  · refine qr_iload_n o (q_dm dm_X11_nextOneWins 18 rfl) rfl ?_
    refine qr_goto (tgt := 42) o (q_dm dm_X11_nextOneWins 19 rfl) (by decide) ?_
    exact qr_zret o rfl (q_dm dm_X11_nextOneWins 27 rfl)

def f_X11_nextOneWins (n : Nat) (a0 a1 : Int32) (M : qM) : qR :=
  (if (((a0 ^^^ (a0 >>> ((3 : Int32) &&& 31))) ^^^ (a0 >>> ((6 : Int32) &&& 31))) &&& (3 : Int32)) = (0 : Int32) then f_X11_nextOneWins_20 n a0 a1 (0 : Int32) M else f_X11_nextOneWins_20 n a0 a1 (1 : Int32) M)
set_option maxRecDepth 4000 in
theorem w_X11_nextOneWins {g : qG} {k : qK} (n : Nat) (j r : Nat) (hj : q_isLaw j) (hr : q_isLaw r) (o : qOk g 0 zX11_nextOneWins k) (a0 a1 : Int32) (M : qM) : qAE g k zX11_nextOneWins (qL j r) 0 [some (.inl a0), some (.inl a1), none] [] (qL j r, M) (f_X11_nextOneWins n a0 a1 M) := by
  unfold f_X11_nextOneWins
  refine qr_iload_n o (q_dm dm_X11_nextOneWins 0 rfl) rfl ?_
  refine qr_iload_n o (q_dm dm_X11_nextOneWins 1 rfl) rfl ?_
  refine qr_iconst o (q_dm dm_X11_nextOneWins 2 rfl) ic_3 ?_
  refine qr_ishr o (q_dm dm_X11_nextOneWins 3 rfl) ?_
  refine qr_ixor o (q_dm dm_X11_nextOneWins 4 rfl) ?_
  refine qr_iload_n o (q_dm dm_X11_nextOneWins 5 rfl) rfl ?_
  refine qr_bipush o (q_dm dm_X11_nextOneWins 6 rfl) bi_6 ?_
  refine qr_ishr o (q_dm dm_X11_nextOneWins 7 rfl) ?_
  refine qr_ixor o (q_dm dm_X11_nextOneWins 8 rfl) ?_
  refine qr_iconst o (q_dm dm_X11_nextOneWins 9 rfl) ic_3 ?_
  refine qr_iand o (q_dm dm_X11_nextOneWins 10 rfl) ?_
  refine qr_if_eq (tgt := 19) o (q_dm dm_X11_nextOneWins 11 rfl) (by decide) ?_ ?_
  · refine qr_iconst o (q_dm dm_X11_nextOneWins 14 rfl) ic_0 ?_
    exact qr_loc (q_leS (q_leS (q_leN q_le0))) (w_X11_nextOneWins_20 n j r hj hr o a0 a1 (0 : Int32) M)
  · refine qr_iconst o (q_dm dm_X11_nextOneWins 12 rfl) ic_1 ?_
    refine qr_goto (tgt := 20) o (q_dm dm_X11_nextOneWins 13 rfl) (by decide) ?_
    exact qr_loc (q_leS (q_leS (q_leN q_le0))) (w_X11_nextOneWins_20 n j r hj hr o a0 a1 (1 : Int32) M)

theorem a_X11_nextOneWins (g : qG) (l : Launch) (n : Nat) (j r : Nat) (hj : q_isLaw j) (hr : q_isLaw r) (a0 a1 : Int32) (M : qM) : qAM g l 0 zX11_nextOneWins (qL j r) [.inl a0, .inl a1] (qL j r, M) (f_X11_nextOneWins n a0 a1 M) :=
  qAM.of zs_X11_nextOneWins.1 (by show 2 ≤ 3; decide) (fun k hk o => w_X11_nextOneWins n j r hj hr o a0 a1 M)
def tb_X11_bestMove : List (Nat × Instr × Nat) := [(0, (.iconst 0, 1)), (1, (.istore_n 3, 1)), (2, (.iload_n 3, 1)), (3, (.iconst 3, 1)), (4, (.if_icmp .ge 76, 3)), (7, (.iload_n 0, 1)), (8, (.iconst 3, 1)), (9, (.iload_n 3, 1)), (10, (.imul, 1)), (11, (.ishr, 1)), (12, (.bipush 7, 2)), (14, (.iand, 1)), (15, (.istore 4, 2)), (17, (.iconst 1, 1)), (18, (.istore 5, 2)), (20, (.iload 5, 2)), (22, (.iconst 3, 1)), (23, (.if_icmp .gt 51, 3)), (26, (.iload 5, 2)), (28, (.iload 4, 2)), (30, (.if_icmp .gt 44, 3)), (33, (.iload_n 1, 1)), (34, (.ifCond .eq 14, 3)), (37, (.iload_n 0, 1)), (38, (.iload 5, 2)), (40, (.iconst 3, 1)), (41, (.iload_n 3, 1)), (42, (.imul, 1)), (43, (.ishl, 1)), (44, (.isub, 1)), (45, (.goto 4, 3)), (48, (.iload_n 0, 1)), (49, (.istore 6, 2)), (51, (.iload 6, 2)), (53, (.iload_n 2, 1)), (54, (.invokestatic 300, 3)), (57, (.ifCond .ne 11, 3)), (60, (.bipush 10, 2)), (62, (.iload_n 3, 1)), (63, (.imul, 1)), (64, (.iload 5, 2)), (66, (.iadd, 1)), (67, (.ireturn, 1)), (68, (.iinc 5 1, 3)), (71, (.goto (-51), 3)), (74, (.iinc 3 1, 3)), (77, (.goto (-75), 3)), (80, (.bipush (-2), 2)), (82, (.ireturn, 1))]
theorem dm_X11_bestMove : ∀ q ∈ tb_X11_bestMove, decode zX11_bestMove.2.1 q.1 = .ok q.2 := by decide +kernel
def f_X11_bestMove_49 (n : Nat) (K2 : Int32 → Int32 → Int32 → Int32 → qM → qR) (K20 : Int32 → Int32 → Int32 → Int32 → Int32 → Int32 → qM → qR) (a0 a1 a2 a3 a4 a5 s0 : Int32) (M : qM) : qR :=
  qc (f_X11_nextOneWins n s0 a2 M) (fun r1 m2 => (if r1 = (0 : Int32) then some ((((10 : Int32) * a3) + a5), m2) else ql (a5 + (1 : Int32)) (fun x3 => K20 a0 a1 a2 a3 a4 x3 m2)))
set_option maxRecDepth 4000 in
theorem w_X11_bestMove_49 {g : qG} {k : qK} (n : Nat) (j r : Nat) (hj : q_isLaw j) (hr : q_isLaw r) (o : qOk g 1 zX11_bestMove k) (K2 : Int32 → Int32 → Int32 → Int32 → qM → qR) (hK2 : ∀ (a0 a1 a2 a3 : Int32) (M : qM), qAE g k zX11_bestMove (qL j r) 2 [some (.inl a0), some (.inl a1), some (.inl a2), some (.inl a3), none, none, none] [] (qL j r, M) (K2 a0 a1 a2 a3 M)) (K20 : Int32 → Int32 → Int32 → Int32 → Int32 → Int32 → qM → qR) (hK20 : ∀ (a0 a1 a2 a3 a4 a5 : Int32) (M : qM), qAE g k zX11_bestMove (qL j r) 20 [some (.inl a0), some (.inl a1), some (.inl a2), some (.inl a3), some (.inl a4), some (.inl a5), none] [] (qL j r, M) (K20 a0 a1 a2 a3 a4 a5 M)) (a0 a1 a2 a3 a4 a5 s0 : Int32) (M : qM) : qAE g k zX11_bestMove (qL j r) 49 [some (.inl a0), some (.inl a1), some (.inl a2), some (.inl a3), some (.inl a4), some (.inl a5), none] [.inl s0] (qL j r, M) (f_X11_bestMove_49 n K2 K20 a0 a1 a2 a3 a4 a5 s0 M) := by
  unfold f_X11_bestMove_49
  refine qs_istore (L' := [some (.inl a0), some (.inl a1), some (.inl a2), some (.inl a3), some (.inl a4), some (.inl a5), some (.inl s0)]) o (q_dm dm_X11_bestMove 32 rfl) (Nat.le_of_ble_eq_true rfl) rfl ?_
  refine qr_iload o (q_dm dm_X11_bestMove 33 rfl) rfl ?_
  refine qr_iload_n o (q_dm dm_X11_bestMove 34 rfl) rfl ?_
  refine qr_calls_i (As := [.inl s0, .inl a2]) (S := []) o (a_X11_nextOneWins g k.2.1 n j r hj hr s0 a2 M) (Nat.le_of_ble_eq_true rfl) zs_X11_nextOneWins rfl ml_X11_300 (Nat.le_of_ble_eq_true rfl) (q_dm dm_X11_bestMove 35 rfl) (fun r1 m2 => ?_)
  refine qr_if_ne (tgt := 68) o (q_dm dm_X11_bestMove 36 rfl) (by decide) ?_ ?_
  · refine qs_iincl2 (L' := fun x3 => [some (.inl a0), some (.inl a1), some (.inl a2), some (.inl a3), some (.inl a4), some (.inl x3), some (.inl s0)]) o (q_dm dm_X11_bestMove 43 rfl) rfl ic_1 (Nat.le_of_ble_eq_true rfl) (fun _ => rfl) (fun x3 => ?_)
    refine qr_goto (tgt := 20) o (q_dm dm_X11_bestMove 44 rfl) (by decide) ?_
    exact qr_loc (q_leS (q_leS (q_leS (q_leS (q_leS (q_leS (q_leN q_le0))))))) (hK20 a0 a1 a2 a3 a4 x3 m2)
  · refine qr_bipush o (q_dm dm_X11_bestMove 37 rfl) bi_10 ?_
    refine qr_iload_n o (q_dm dm_X11_bestMove 38 rfl) rfl ?_
    refine qr_imul o (q_dm dm_X11_bestMove 39 rfl) ?_
    refine qr_iload o (q_dm dm_X11_bestMove 40 rfl) rfl ?_
    refine qr_iadd o (q_dm dm_X11_bestMove 41 rfl) ?_
    exact qr_iret o rfl rfl (q_dm dm_X11_bestMove 42 rfl)

def b_X11_bestMove_20 (n : Nat) (K2 : Int32 → Int32 → Int32 → Int32 → qM → qR) (K20 : Int32 → Int32 → Int32 → Int32 → Int32 → Int32 → qM → qR) (a0 a1 a2 a3 a4 a5 : Int32) (M : qM) : qR :=
  (if (3 : Int32) < a5 then ql (a3 + (1 : Int32)) (fun x1 => K2 a0 a1 a2 x1 M) else (if a4 < a5 then ql (a3 + (1 : Int32)) (fun x2 => K2 a0 a1 a2 x2 M) else (if a1 = (0 : Int32) then f_X11_bestMove_49 n K2 K20 a0 a1 a2 a3 a4 a5 a0 M else f_X11_bestMove_49 n K2 K20 a0 a1 a2 a3 a4 a5 (a0 - (a5 <<< (((3 : Int32) * a3) &&& 31))) M)))
set_option maxRecDepth 4000 in
theorem wb_X11_bestMove_20 {g : qG} {k : qK} (n : Nat) (j r : Nat) (hj : q_isLaw j) (hr : q_isLaw r) (o : qOk g 1 zX11_bestMove k) (K2 : Int32 → Int32 → Int32 → Int32 → qM → qR) (hK2 : ∀ (a0 a1 a2 a3 : Int32) (M : qM), qAE g k zX11_bestMove (qL j r) 2 [some (.inl a0), some (.inl a1), some (.inl a2), some (.inl a3), none, none, none] [] (qL j r, M) (K2 a0 a1 a2 a3 M)) (K20 : Int32 → Int32 → Int32 → Int32 → Int32 → Int32 → qM → qR) (hK20 : ∀ (a0 a1 a2 a3 a4 a5 : Int32) (M : qM), qAE g k zX11_bestMove (qL j r) 20 [some (.inl a0), some (.inl a1), some (.inl a2), some (.inl a3), some (.inl a4), some (.inl a5), none] [] (qL j r, M) (K20 a0 a1 a2 a3 a4 a5 M)) (a0 a1 a2 a3 a4 a5 : Int32) (M : qM) : qAE g k zX11_bestMove (qL j r) 20 [some (.inl a0), some (.inl a1), some (.inl a2), some (.inl a3), some (.inl a4), some (.inl a5), none] [] (qL j r, M) (b_X11_bestMove_20 n K2 K20 a0 a1 a2 a3 a4 a5 M) := by
  unfold b_X11_bestMove_20
  refine qr_iload o (q_dm dm_X11_bestMove 15 rfl) rfl ?_
  refine qr_iconst o (q_dm dm_X11_bestMove 16 rfl) ic_3 ?_
  refine qr_icmp_gt (tgt := 74) o (q_dm dm_X11_bestMove 17 rfl) (by decide) ?_ ?_
  · refine qs_iincl2 (L' := fun x1 => [some (.inl a0), some (.inl a1), some (.inl a2), some (.inl x1), some (.inl a4), some (.inl a5), none]) o (q_dm dm_X11_bestMove 45 rfl) rfl ic_1 (Nat.le_of_ble_eq_true rfl) (fun _ => rfl) (fun x1 => ?_)
    refine qr_goto (tgt := 2) o (q_dm dm_X11_bestMove 46 rfl) (by decide) ?_
    exact qr_loc (q_leS (q_leS (q_leS (q_leS (q_leN (q_leN (q_leN q_le0))))))) (hK2 a0 a1 a2 x1 M)
  · refine qr_iload o (q_dm dm_X11_bestMove 18 rfl) rfl ?_
    refine qr_iload o (q_dm dm_X11_bestMove 19 rfl) rfl ?_
    refine qr_icmp_gt (tgt := 74) o (q_dm dm_X11_bestMove 20 rfl) (by decide) ?_ ?_
    · refine qs_iincl2 (L' := fun x2 => [some (.inl a0), some (.inl a1), some (.inl a2), some (.inl x2), some (.inl a4), some (.inl a5), none]) o (q_dm dm_X11_bestMove 45 rfl) rfl ic_1 (Nat.le_of_ble_eq_true rfl) (fun _ => rfl) (fun x2 => ?_)
      refine qr_goto (tgt := 2) o (q_dm dm_X11_bestMove 46 rfl) (by decide) ?_
      exact qr_loc (q_leS (q_leS (q_leS (q_leS (q_leN (q_leN (q_leN q_le0))))))) (hK2 a0 a1 a2 x2 M)
    · refine qr_iload_n o (q_dm dm_X11_bestMove 21 rfl) rfl ?_
      refine qr_if_eq (tgt := 48) o (q_dm dm_X11_bestMove 22 rfl) (by decide) ?_ ?_
      · refine qr_iload_n o (q_dm dm_X11_bestMove 31 rfl) rfl ?_
        exact qr_loc (q_leS (q_leS (q_leS (q_leS (q_leS (q_leS (q_leN q_le0))))))) (w_X11_bestMove_49 n j r hj hr o K2 hK2 K20 hK20 a0 a1 a2 a3 a4 a5 a0 M)
      · refine qr_iload_n o (q_dm dm_X11_bestMove 23 rfl) rfl ?_
        refine qr_iload o (q_dm dm_X11_bestMove 24 rfl) rfl ?_
        refine qr_iconst o (q_dm dm_X11_bestMove 25 rfl) ic_3 ?_
        refine qr_iload_n o (q_dm dm_X11_bestMove 26 rfl) rfl ?_
        refine qr_imul o (q_dm dm_X11_bestMove 27 rfl) ?_
        refine qr_ishl o (q_dm dm_X11_bestMove 28 rfl) ?_
        refine qr_isub o (q_dm dm_X11_bestMove 29 rfl) ?_
        refine qr_goto (tgt := 49) o (q_dm dm_X11_bestMove 30 rfl) (by decide) ?_
        exact qr_loc (q_leS (q_leS (q_leS (q_leS (q_leS (q_leS (q_leN q_le0))))))) (w_X11_bestMove_49 n j r hj hr o K2 hK2 K20 hK20 a0 a1 a2 a3 a4 a5 (a0 - (a5 <<< (((3 : Int32) * a3) &&& 31))) M)

def f_X11_bestMove_20 (n : Nat) (K2 : Int32 → Int32 → Int32 → Int32 → qM → qR) : Nat → Int32 → Int32 → Int32 → Int32 → Int32 → Int32 → qM → qR
  | 0, _, _, _, _, _, _, _ => none
  | m + 1, a0, a1, a2, a3, a4, a5, M => b_X11_bestMove_20 n K2 (f_X11_bestMove_20 n K2 m) a0 a1 a2 a3 a4 a5 M
theorem w_X11_bestMove_20 {g : qG} {k : qK} (n : Nat) (j r : Nat) (hj : q_isLaw j) (hr : q_isLaw r) (o : qOk g 1 zX11_bestMove k) (K2 : Int32 → Int32 → Int32 → Int32 → qM → qR) (hK2 : ∀ (a0 a1 a2 a3 : Int32) (M : qM), qAE g k zX11_bestMove (qL j r) 2 [some (.inl a0), some (.inl a1), some (.inl a2), some (.inl a3), none, none, none] [] (qL j r, M) (K2 a0 a1 a2 a3 M)) : ∀ (m : Nat) (a0 a1 a2 a3 a4 a5 : Int32) (M : qM), qAE g k zX11_bestMove (qL j r) 20 [some (.inl a0), some (.inl a1), some (.inl a2), some (.inl a3), some (.inl a4), some (.inl a5), none] [] (qL j r, M) (f_X11_bestMove_20 n K2 m a0 a1 a2 a3 a4 a5 M) := by
  intro m
  induction m with
  | zero =>
    intro a0 a1 a2 a3 a4 a5 M
    exact qr_none
  | succ m ih =>
    intro a0 a1 a2 a3 a4 a5 M
    exact wb_X11_bestMove_20 n j r hj hr o K2 hK2 (f_X11_bestMove_20 n K2 m) ih a0 a1 a2 a3 a4 a5 M
def b_X11_bestMove_2 (n : Nat) (K2 : Int32 → Int32 → Int32 → Int32 → qM → qR) (a0 a1 a2 a3 : Int32) (M : qM) : qR :=
  (if (3 : Int32) ≤ a3 then some ((-2 : Int32), M) else ql ((a0 >>> (((3 : Int32) * a3) &&& 31)) &&& (7 : Int32)) (fun x1 => f_X11_bestMove_20 n K2 n a0 a1 a2 a3 x1 (1 : Int32) M))
set_option maxRecDepth 4000 in
theorem wb_X11_bestMove_2 {g : qG} {k : qK} (n : Nat) (j r : Nat) (hj : q_isLaw j) (hr : q_isLaw r) (o : qOk g 1 zX11_bestMove k) (K2 : Int32 → Int32 → Int32 → Int32 → qM → qR) (hK2 : ∀ (a0 a1 a2 a3 : Int32) (M : qM), qAE g k zX11_bestMove (qL j r) 2 [some (.inl a0), some (.inl a1), some (.inl a2), some (.inl a3), none, none, none] [] (qL j r, M) (K2 a0 a1 a2 a3 M)) (a0 a1 a2 a3 : Int32) (M : qM) : qAE g k zX11_bestMove (qL j r) 2 [some (.inl a0), some (.inl a1), some (.inl a2), some (.inl a3), none, none, none] [] (qL j r, M) (b_X11_bestMove_2 n K2 a0 a1 a2 a3 M) := by
  unfold b_X11_bestMove_2
  refine qr_iload_n o (q_dm dm_X11_bestMove 2 rfl) rfl ?_
  refine qr_iconst o (q_dm dm_X11_bestMove 3 rfl) ic_3 ?_
  refine qr_icmp_ge (tgt := 80) o (q_dm dm_X11_bestMove 4 rfl) (by decide) ?_ ?_
  · refine qr_bipush o (q_dm dm_X11_bestMove 47 rfl) bi_m2 ?_
    exact qr_iret o rfl rfl (q_dm dm_X11_bestMove 48 rfl)
  · refine qr_iload_n o (q_dm dm_X11_bestMove 5 rfl) rfl ?_
    refine qr_iconst o (q_dm dm_X11_bestMove 6 rfl) ic_3 ?_
    refine qr_iload_n o (q_dm dm_X11_bestMove 7 rfl) rfl ?_
    refine qr_imul o (q_dm dm_X11_bestMove 8 rfl) ?_
    refine qr_ishr o (q_dm dm_X11_bestMove 9 rfl) ?_
    refine qr_bipush o (q_dm dm_X11_bestMove 10 rfl) bi_7 ?_
    refine qr_iand o (q_dm dm_X11_bestMove 11 rfl) ?_
    refine qr_lt (fun x1 => ?_)
    refine qs_istore (L' := [some (.inl a0), some (.inl a1), some (.inl a2), some (.inl a3), some (.inl x1), none, none]) o (q_dm dm_X11_bestMove 12 rfl) (Nat.le_of_ble_eq_true rfl) rfl ?_
    refine qr_iconst o (q_dm dm_X11_bestMove 13 rfl) ic_1 ?_
    refine qs_istore (L' := [some (.inl a0), some (.inl a1), some (.inl a2), some (.inl a3), some (.inl x1), some (.inl (1 : Int32)), none]) o (q_dm dm_X11_bestMove 14 rfl) (Nat.le_of_ble_eq_true rfl) rfl ?_
    exact qr_loc (q_leS (q_leS (q_leS (q_leS (q_leS (q_leS (q_leN q_le0))))))) (w_X11_bestMove_20 n j r hj hr o K2 hK2 n a0 a1 a2 a3 x1 (1 : Int32) M)

def f_X11_bestMove_2 (n : Nat) : Nat → Int32 → Int32 → Int32 → Int32 → qM → qR
  | 0, _, _, _, _, _ => none
  | m + 1, a0, a1, a2, a3, M => b_X11_bestMove_2 n (f_X11_bestMove_2 n m) a0 a1 a2 a3 M
theorem w_X11_bestMove_2 {g : qG} {k : qK} (n : Nat) (j r : Nat) (hj : q_isLaw j) (hr : q_isLaw r) (o : qOk g 1 zX11_bestMove k) : ∀ (m : Nat) (a0 a1 a2 a3 : Int32) (M : qM), qAE g k zX11_bestMove (qL j r) 2 [some (.inl a0), some (.inl a1), some (.inl a2), some (.inl a3), none, none, none] [] (qL j r, M) (f_X11_bestMove_2 n m a0 a1 a2 a3 M) := by
  intro m
  induction m with
  | zero =>
    intro a0 a1 a2 a3 M
    exact qr_none
  | succ m ih =>
    intro a0 a1 a2 a3 M
    exact wb_X11_bestMove_2 n j r hj hr o (f_X11_bestMove_2 n m) ih a0 a1 a2 a3 M
def f_X11_bestMove (n : Nat) (a0 a1 a2 : Int32) (M : qM) : qR :=
  f_X11_bestMove_2 n n a0 a1 a2 (0 : Int32) M
set_option maxRecDepth 4000 in
theorem w_X11_bestMove {g : qG} {k : qK} (n : Nat) (j r : Nat) (hj : q_isLaw j) (hr : q_isLaw r) (o : qOk g 1 zX11_bestMove k) (a0 a1 a2 : Int32) (M : qM) : qAE g k zX11_bestMove (qL j r) 0 [some (.inl a0), some (.inl a1), some (.inl a2), none, none, none, none] [] (qL j r, M) (f_X11_bestMove n a0 a1 a2 M) := by
  unfold f_X11_bestMove
  refine qr_iconst o (q_dm dm_X11_bestMove 0 rfl) ic_0 ?_
  refine qs_istore_n (L' := [some (.inl a0), some (.inl a1), some (.inl a2), some (.inl (0 : Int32)), none, none, none]) o (q_dm dm_X11_bestMove 1 rfl) (Nat.le_of_ble_eq_true rfl) rfl ?_
  exact qr_loc (q_leS (q_leS (q_leS (q_leS (q_leN (q_leN (q_leN q_le0))))))) (w_X11_bestMove_2 n j r hj hr o n a0 a1 a2 (0 : Int32) M)

theorem a_X11_bestMove (g : qG) (l : Launch) (n : Nat) (j r : Nat) (hj : q_isLaw j) (hr : q_isLaw r) (a0 a1 a2 : Int32) (M : qM) : qAM g l 1 zX11_bestMove (qL j r) [.inl a0, .inl a1, .inl a2] (qL j r, M) (f_X11_bestMove n a0 a1 a2 M) :=
  qAM.of zs_X11_bestMove.1 (by show 3 ≤ 7; decide) (fun k hk o => w_X11_bestMove n j r hj hr o a0 a1 a2 M)
def tb_X11_canDeal : List (Nat × Instr × Nat) := [(0, (.aload_n 0, 1)), (1, (.getfield 26, 3)), (4, (.iload_n 1, 1)), (5, (.invokevirtual 131, 3)), (8, (.ifCond .eq 34, 3)), (11, (.aload_n 0, 1)), (12, (.getfield 19, 3)), (15, (.iload_n 2, 1)), (16, (.invokevirtual 140, 3)), (19, (.ifCond .eq 23, 3)), (22, (.aload_n 0, 1)), (23, (.getfield 26, 3)), (26, (.iload_n 3, 1)), (27, (.invokevirtual 131, 3)), (30, (.ifCond .eq 12, 3)), (33, (.iload_n 1, 1)), (34, (.iload_n 3, 1)), (35, (.if_icmp .eq 7, 3)), (38, (.iconst 1, 1)), (39, (.goto 4, 3)), (42, (.iconst 0, 1)), (43, (.ireturn, 1))]
theorem dm_X11_canDeal : ∀ q ∈ tb_X11_canDeal, decode zX11_canDeal.2.1 q.1 = .ok q.2 := by decide +kernel
def f_X11_canDeal (n : Nat) (a1 a2 a3 : Int32) (M : qM) : qR :=
  qc (f_X10_knows n 7 a1 M) (fun r1 m2 => (if r1 = (0 : Int32) then some ((0 : Int32), m2) else qc (f_X2_knows n a2 m2) (fun r3 m4 => (if r3 = (0 : Int32) then some ((0 : Int32), m4) else qc (f_X10_knows n 7 a3 m4) (fun r5 m6 => (if r5 = (0 : Int32) then some ((0 : Int32), m6) else (if a1 = a3 then some ((0 : Int32), m6) else some ((1 : Int32), m6))))))))
set_option maxRecDepth 4000 in
theorem w_X11_canDeal {g : qG} {k : qK} (n : Nat) (j r : Nat) (hj : q_isLaw j) (hr : q_isLaw r) (o : qOk g 1 zX11_canDeal k) (a1 a2 a3 : Int32) (M : qM) : qAE g k zX11_canDeal (qL j r) 0 [some (.inr (some 0)), some (.inl a1), some (.inl a2), some (.inl a3)] [] (qL j r, M) (f_X11_canDeal n a1 a2 a3 M) := by
  unfold f_X11_canDeal
  refine qr_aload_n o (q_dm dm_X11_canDeal 0 rfl) rfl ?_
  refine qr_getr (kf := 2) o cf_X11 (sh0 j r) rfl (Nat.le_of_ble_eq_true rfl) fl_X11_26 (q_dm dm_X11_canDeal 1 rfl) ?_
  refine qr_iload_n o (q_dm dm_X11_canDeal 2 rfl) rfl ?_
  refine qr_callv_i (As := [.inl a1]) (S := []) o (a_X10_knows g k.2.1 n j r hj hr (Or.inl rfl) a1 M) (Nat.le_of_ble_eq_true rfl) zv_X10_knows rfl cf_X10 (sh7 j r) ml_X11_131 (Nat.le_of_ble_eq_true rfl) (q_dm dm_X11_canDeal 3 rfl) (fun r1 m2 => ?_)
  refine qr_if_eq (tgt := 42) o (q_dm dm_X11_canDeal 4 rfl) (by decide) ?_ ?_
  · refine qr_iconst o (q_dm dm_X11_canDeal 20 rfl) ic_0 ?_
    exact qr_iret o rfl (by decide) (q_dm dm_X11_canDeal 21 rfl)
  · refine qr_aload_n o (q_dm dm_X11_canDeal 5 rfl) rfl ?_
    refine qr_getr (kf := 1) o cf_X11 (sh0 j r) rfl (Nat.le_of_ble_eq_true rfl) fl_X11_19 (q_dm dm_X11_canDeal 6 rfl) ?_
    refine qr_iload_n o (q_dm dm_X11_canDeal 7 rfl) rfl ?_
    refine qr_callv_i (As := [.inl a2]) (S := []) o (a_X2_knows g k.2.1 n j r hj hr a2 m2) (Nat.le_of_ble_eq_true rfl) zv_X2_knows rfl cf_X2 (sh3 j r) ml_X11_140 (Nat.le_of_ble_eq_true rfl) (q_dm dm_X11_canDeal 8 rfl) (fun r3 m4 => ?_)
    refine qr_if_eq (tgt := 42) o (q_dm dm_X11_canDeal 9 rfl) (by decide) ?_ ?_
    · refine qr_iconst o (q_dm dm_X11_canDeal 20 rfl) ic_0 ?_
      exact qr_iret o rfl (by decide) (q_dm dm_X11_canDeal 21 rfl)
    · refine qr_aload_n o (q_dm dm_X11_canDeal 10 rfl) rfl ?_
      refine qr_getr (kf := 2) o cf_X11 (sh0 j r) rfl (Nat.le_of_ble_eq_true rfl) fl_X11_26 (q_dm dm_X11_canDeal 11 rfl) ?_
      refine qr_iload_n o (q_dm dm_X11_canDeal 12 rfl) rfl ?_
      refine qr_callv_i (As := [.inl a3]) (S := []) o (a_X10_knows g k.2.1 n j r hj hr (Or.inl rfl) a3 m4) (Nat.le_of_ble_eq_true rfl) zv_X10_knows rfl cf_X10 (sh7 j r) ml_X11_131 (Nat.le_of_ble_eq_true rfl) (q_dm dm_X11_canDeal 13 rfl) (fun r5 m6 => ?_)
      refine qr_if_eq (tgt := 42) o (q_dm dm_X11_canDeal 14 rfl) (by decide) ?_ ?_
      · refine qr_iconst o (q_dm dm_X11_canDeal 20 rfl) ic_0 ?_
        exact qr_iret o rfl (by decide) (q_dm dm_X11_canDeal 21 rfl)
      · refine qr_iload_n o (q_dm dm_X11_canDeal 15 rfl) rfl ?_
        refine qr_iload_n o (q_dm dm_X11_canDeal 16 rfl) rfl ?_
        refine qr_icmp_eq (tgt := 42) o (q_dm dm_X11_canDeal 17 rfl) (by decide) ?_ ?_
        · refine qr_iconst o (q_dm dm_X11_canDeal 20 rfl) ic_0 ?_
          exact qr_iret o rfl (by decide) (q_dm dm_X11_canDeal 21 rfl)
        · refine qr_iconst o (q_dm dm_X11_canDeal 18 rfl) ic_1 ?_
          refine qr_goto (tgt := 43) o (q_dm dm_X11_canDeal 19 rfl) (by decide) ?_
          exact qr_iret o rfl (by decide) (q_dm dm_X11_canDeal 21 rfl)

theorem a_X11_canDeal (g : qG) (l : Launch) (n : Nat) (j r : Nat) (hj : q_isLaw j) (hr : q_isLaw r) (a1 a2 a3 : Int32) (M : qM) : qAM g l 1 zX11_canDeal (qL j r) [.inr (some 0), .inl a1, .inl a2, .inl a3] (qL j r, M) (f_X11_canDeal n a1 a2 a3 M) :=
  qAM.of zv_X11_canDeal.1 (by show 4 ≤ 4; decide) (fun k hk o => w_X11_canDeal n j r hj hr o a1 a2 a3 M)
def tb_X11_buys : List (Nat × Instr × Nat) := [(0, (.aload_n 0, 1)), (1, (.iload_n 1, 1)), (2, (.iload_n 2, 1)), (3, (.iload_n 3, 1)), (4, (.invokevirtual 145, 3)), (7, (.ifCond .ne 5, 3)), (10, (.iconst (-1), 1)), (11, (.ireturn, 1)), (12, (.aload_n 0, 1)), (13, (.getfield 50, 3)), (16, (.aload_n 0, 1)), (17, (.getfield 26, 3)), (20, (.iload_n 1, 1)), (21, (.iload_n 2, 1)), (22, (.iload_n 3, 1)), (23, (.invokevirtual 149, 3)), (26, (.ireturn, 1))]
theorem dm_X11_buys : ∀ q ∈ tb_X11_buys, decode zX11_buys.2.1 q.1 = .ok q.2 := by decide +kernel
def f_X11_buys (n : Nat) (j : Nat) (a1 a2 a3 : Int32) (M : qM) : qR :=
  qc (f_X11_canDeal n a1 a2 a3 M) (fun r1 m2 => (if r1 = (0 : Int32) then some ((-1 : Int32), m2) else qc (f_X0_buyGo n 7 j a1 a2 a3 m2) (fun r3 m4 => some (r3, m4))))
set_option maxRecDepth 4000 in
theorem w_X11_buys {g : qG} {k : qK} (n : Nat) (j r : Nat) (hj : q_isLaw j) (hr : q_isLaw r) (o : qOk g 5 zX11_buys k) (a1 a2 a3 : Int32) (M : qM) : qAE g k zX11_buys (qL j r) 0 [some (.inr (some 0)), some (.inl a1), some (.inl a2), some (.inl a3)] [] (qL j r, M) (f_X11_buys n j a1 a2 a3 M) := by
  unfold f_X11_buys
  refine qr_aload_n o (q_dm dm_X11_buys 0 rfl) rfl ?_
  refine qr_iload_n o (q_dm dm_X11_buys 1 rfl) rfl ?_
  refine qr_iload_n o (q_dm dm_X11_buys 2 rfl) rfl ?_
  refine qr_iload_n o (q_dm dm_X11_buys 3 rfl) rfl ?_
  refine qr_callv_i (As := [.inl a1, .inl a2, .inl a3]) (S := []) o (a_X11_canDeal g k.2.1 n j r hj hr a1 a2 a3 M) (Nat.le_of_ble_eq_true rfl) zv_X11_canDeal rfl cf_X11 (sh0 j r) ml_X11_145 (Nat.le_of_ble_eq_true rfl) (q_dm dm_X11_buys 4 rfl) (fun r1 m2 => ?_)
  refine qr_if_ne (tgt := 12) o (q_dm dm_X11_buys 5 rfl) (by decide) ?_ ?_
  · refine qr_aload_n o (q_dm dm_X11_buys 8 rfl) rfl ?_
    refine qr_getr (kf := 6) o cf_X11 (sh0 j r) rfl (Nat.le_of_ble_eq_true rfl) fl_X11_50 (q_dm dm_X11_buys 9 rfl) ?_
    refine qr_aload_n o (q_dm dm_X11_buys 10 rfl) rfl ?_
    refine qr_getr (kf := 2) o cf_X11 (sh0 j r) rfl (Nat.le_of_ble_eq_true rfl) fl_X11_26 (q_dm dm_X11_buys 11 rfl) ?_
    refine qr_iload_n o (q_dm dm_X11_buys 12 rfl) rfl ?_
    refine qr_iload_n o (q_dm dm_X11_buys 13 rfl) rfl ?_
    refine qr_iload_n o (q_dm dm_X11_buys 14 rfl) rfl ?_
    refine qr_callv_i (As := [.inr (some 7), .inl a1, .inl a2, .inl a3]) (S := []) o (a_X0_buyGo g k.2.1 n j r hj hr (Or.inl rfl) a1 a2 a3 m2) (Nat.le_of_ble_eq_true rfl) zv_X0_buyGo rfl cf_X0 (sh44 j r) ml_X11_149 (Nat.le_of_ble_eq_true rfl) (q_dm dm_X11_buys 15 rfl) (fun r3 m4 => ?_)
    exact qr_iret o rfl rfl (q_dm dm_X11_buys 16 rfl)
  · refine qr_iconst o (q_dm dm_X11_buys 6 rfl) ic_m1 ?_
    exact qr_iret o rfl rfl (q_dm dm_X11_buys 7 rfl)

theorem a_X11_buys (g : qG) (l : Launch) (n : Nat) (j r : Nat) (hj : q_isLaw j) (hr : q_isLaw r) (a1 a2 a3 : Int32) (M : qM) : qAM g l 5 zX11_buys (qL j r) [.inr (some 0), .inl a1, .inl a2, .inl a3] (qL j r, M) (f_X11_buys n j a1 a2 a3 M) :=
  qAM.of zv_X11_buys.1 (by show 4 ≤ 4; decide) (fun k hk o => w_X11_buys n j r hj hr o a1 a2 a3 M)
def tb_X2_knowsAll : List (Nat × Instr × Nat) := [(0, (.iload_n 1, 1)), (1, (.aload_n 0, 1)), (2, (.getfield 21, 3)), (5, (.iconst (-1), 1)), (6, (.ixor, 1)), (7, (.iand, 1)), (8, (.ifCond .ne 7, 3)), (11, (.iconst 1, 1)), (12, (.goto 4, 3)), (15, (.iconst 0, 1)), (16, (.ireturn, 1))]
theorem dm_X2_knowsAll : ∀ q ∈ tb_X2_knowsAll, decode zX2_knowsAll.2.1 q.1 = .ok q.2 := by decide +kernel
def f_X2_knowsAll (n : Nat) (a1 : Int32) (M : qM) : qR :=
  (if (a1 &&& ((M 3 3) ^^^ (-1 : Int32))) = (0 : Int32) then some ((1 : Int32), M) else some ((0 : Int32), M))
set_option maxRecDepth 4000 in
theorem w_X2_knowsAll {g : qG} {k : qK} (n : Nat) (j r : Nat) (hj : q_isLaw j) (hr : q_isLaw r) (o : qOk g 0 zX2_knowsAll k) (a1 : Int32) (M : qM) : qAE g k zX2_knowsAll (qL j r) 0 [some (.inr (some 3)), some (.inl a1)] [] (qL j r, M) (f_X2_knowsAll n a1 M) := by
  unfold f_X2_knowsAll
  refine qr_iload_n o (q_dm dm_X2_knowsAll 0 rfl) rfl ?_
  refine qr_aload_n o (q_dm dm_X2_knowsAll 1 rfl) rfl ?_
  refine qr_getf (kf := 3) o cf_X2 (sh3 j r) rfl (Nat.le_of_ble_eq_true rfl) fl_X2_21 (q_dm dm_X2_knowsAll 2 rfl) ?_
  refine qr_iconst o (q_dm dm_X2_knowsAll 3 rfl) ic_m1 ?_
  refine qr_ixor o (q_dm dm_X2_knowsAll 4 rfl) ?_
  refine qr_iand o (q_dm dm_X2_knowsAll 5 rfl) ?_
  refine qr_if_ne (tgt := 15) o (q_dm dm_X2_knowsAll 6 rfl) (by decide) ?_ ?_
  · refine qr_iconst o (q_dm dm_X2_knowsAll 9 rfl) ic_0 ?_
    exact qr_iret o rfl (by decide) (q_dm dm_X2_knowsAll 10 rfl)
  · refine qr_iconst o (q_dm dm_X2_knowsAll 7 rfl) ic_1 ?_
    refine qr_goto (tgt := 16) o (q_dm dm_X2_knowsAll 8 rfl) (by decide) ?_
    exact qr_iret o rfl (by decide) (q_dm dm_X2_knowsAll 10 rfl)

theorem a_X2_knowsAll (g : qG) (l : Launch) (n : Nat) (j r : Nat) (hj : q_isLaw j) (hr : q_isLaw r) (a1 : Int32) (M : qM) : qAM g l 0 zX2_knowsAll (qL j r) [.inr (some 3), .inl a1] (qL j r, M) (f_X2_knowsAll n a1 M) :=
  qAM.of zv_X2_knowsAll.1 (by show 2 ≤ 2; decide) (fun k hk o => w_X2_knowsAll n j r hj hr o a1 M)

def tb_X11_canChoose : List (Nat × Instr × Nat) := [(0, (.iload_n 2, 1)), (1, (.invokestatic 220, 3)), (4, (.istore 4, 2)), (6, (.aload_n 0, 1)), (7, (.getfield 26, 3)), (10, (.iload_n 1, 1)), (11, (.invokevirtual 131, 3)), (14, (.ifCond .eq 50, 3)), (17, (.aload_n 0, 1)), (18, (.getfield 19, 3)), (21, (.iload_n 2, 1)), (22, (.invokevirtual 214, 3)), (25, (.ifCond .eq 39, 3)), (28, (.iload 4, 2)), (30, (.iconst 1, 1)), (31, (.if_icmp .lt 33, 3)), (34, (.iload 4, 2)), (36, (.iconst 4, 1)), (37, (.if_icmp .gt 27, 3)), (40, (.aload_n 0, 1)), (41, (.getfield 19, 3)), (44, (.iload_n 3, 1)), (45, (.invokevirtual 140, 3)), (48, (.ifCond .eq 16, 3)), (51, (.iload_n 2, 1)), (52, (.iload_n 3, 1)), (53, (.ishr, 1)), (54, (.iconst 1, 1)), (55, (.iand, 1)), (56, (.iconst 1, 1)), (57, (.if_icmp .ne 7, 3)), (60, (.iconst 1, 1)), (61, (.goto 4, 3)), (64, (.iconst 0, 1)), (65, (.ireturn, 1))]
theorem dm_X11_canChoose : ∀ q ∈ tb_X11_canChoose, decode zX11_canChoose.2.1 q.1 = .ok q.2 := by decide +kernel
def f_X11_canChoose (n : Nat) (a1 a2 a3 : Int32) (M : qM) : qR :=
  qc (f_J6_bitCount_0f7a4 n a2 M) (fun r1 m2 => qc (f_X10_knows n 7 a1 m2) (fun r3 m4 => (if r3 = (0 : Int32) then some ((0 : Int32), m4) else qc (f_X2_knowsAll n a2 m4) (fun r5 m6 => (if r5 = (0 : Int32) then some ((0 : Int32), m6) else (if r1 < (1 : Int32) then some ((0 : Int32), m6) else (if (4 : Int32) < r1 then some ((0 : Int32), m6) else qc (f_X2_knows n a3 m6) (fun r7 m8 => (if r7 = (0 : Int32) then some ((0 : Int32), m8) else (if ((a2 >>> (a3 &&& 31)) &&& (1 : Int32)) = (1 : Int32) then some ((1 : Int32), m8) else some ((0 : Int32), m8)))))))))))
set_option maxRecDepth 4000 in
theorem w_X11_canChoose {g : qG} {k : qK} (n : Nat) (j r : Nat) (hj : q_isLaw j) (hr : q_isLaw r) (o : qOk g 1 zX11_canChoose k) (a1 a2 a3 : Int32) (M : qM) : qAE g k zX11_canChoose (qL j r) 0 [some (.inr (some 0)), some (.inl a1), some (.inl a2), some (.inl a3), none] [] (qL j r, M) (f_X11_canChoose n a1 a2 a3 M) := by
  unfold f_X11_canChoose
  refine qr_iload_n o (q_dm dm_X11_canChoose 0 rfl) rfl ?_
  refine qr_calls_i (As := [.inl a2]) (S := []) o (a_J6_bitCount_0f7a4 g k.2.1 n j r hj hr a2 M) (Nat.le_of_ble_eq_true rfl) zs_J6_bitCount_0f7a4 rfl ml_X11_220 (Nat.le_of_ble_eq_true rfl) (q_dm dm_X11_canChoose 1 rfl) (fun r1 m2 => ?_)
  refine qs_istore (L' := [some (.inr (some 0)), some (.inl a1), some (.inl a2), some (.inl a3), some (.inl r1)]) o (q_dm dm_X11_canChoose 2 rfl) (Nat.le_of_ble_eq_true rfl) rfl ?_
  refine qr_aload_n o (q_dm dm_X11_canChoose 3 rfl) rfl ?_
  refine qr_getr (kf := 2) o cf_X11 (sh0 j r) rfl (Nat.le_of_ble_eq_true rfl) fl_X11_26 (q_dm dm_X11_canChoose 4 rfl) ?_
  refine qr_iload_n o (q_dm dm_X11_canChoose 5 rfl) rfl ?_
  refine qr_callv_i (As := [.inl a1]) (S := []) o (a_X10_knows g k.2.1 n j r hj hr (Or.inl rfl) a1 m2) (Nat.le_of_ble_eq_true rfl) zv_X10_knows rfl cf_X10 (sh7 j r) ml_X11_131 (Nat.le_of_ble_eq_true rfl) (q_dm dm_X11_canChoose 6 rfl) (fun r3 m4 => ?_)
  refine qr_if_eq (tgt := 64) o (q_dm dm_X11_canChoose 7 rfl) (by decide) ?_ ?_
  · refine qr_iconst o (q_dm dm_X11_canChoose 33 rfl) ic_0 ?_
    exact qr_iret o rfl (by decide) (q_dm dm_X11_canChoose 34 rfl)
  · refine qr_aload_n o (q_dm dm_X11_canChoose 8 rfl) rfl ?_
    refine qr_getr (kf := 1) o cf_X11 (sh0 j r) rfl (Nat.le_of_ble_eq_true rfl) fl_X11_19 (q_dm dm_X11_canChoose 9 rfl) ?_
    refine qr_iload_n o (q_dm dm_X11_canChoose 10 rfl) rfl ?_
    refine qr_callv_i (As := [.inl a2]) (S := []) o (a_X2_knowsAll g k.2.1 n j r hj hr a2 m4) (Nat.le_of_ble_eq_true rfl) zv_X2_knowsAll rfl cf_X2 (sh3 j r) ml_X11_214 (Nat.le_of_ble_eq_true rfl) (q_dm dm_X11_canChoose 11 rfl) (fun r5 m6 => ?_)
    refine qr_if_eq (tgt := 64) o (q_dm dm_X11_canChoose 12 rfl) (by decide) ?_ ?_
    · refine qr_iconst o (q_dm dm_X11_canChoose 33 rfl) ic_0 ?_
      exact qr_iret o rfl (by decide) (q_dm dm_X11_canChoose 34 rfl)
    · refine qr_iload o (q_dm dm_X11_canChoose 13 rfl) rfl ?_
      refine qr_iconst o (q_dm dm_X11_canChoose 14 rfl) ic_1 ?_
      refine qr_icmp_lt (tgt := 64) o (q_dm dm_X11_canChoose 15 rfl) (by decide) ?_ ?_
      · refine qr_iconst o (q_dm dm_X11_canChoose 33 rfl) ic_0 ?_
        exact qr_iret o rfl (by decide) (q_dm dm_X11_canChoose 34 rfl)
      · refine qr_iload o (q_dm dm_X11_canChoose 16 rfl) rfl ?_
        refine qr_iconst o (q_dm dm_X11_canChoose 17 rfl) ic_4 ?_
        refine qr_icmp_gt (tgt := 64) o (q_dm dm_X11_canChoose 18 rfl) (by decide) ?_ ?_
        · refine qr_iconst o (q_dm dm_X11_canChoose 33 rfl) ic_0 ?_
          exact qr_iret o rfl (by decide) (q_dm dm_X11_canChoose 34 rfl)
        · refine qr_aload_n o (q_dm dm_X11_canChoose 19 rfl) rfl ?_
          refine qr_getr (kf := 1) o cf_X11 (sh0 j r) rfl (Nat.le_of_ble_eq_true rfl) fl_X11_19 (q_dm dm_X11_canChoose 20 rfl) ?_
          refine qr_iload_n o (q_dm dm_X11_canChoose 21 rfl) rfl ?_
          refine qr_callv_i (As := [.inl a3]) (S := []) o (a_X2_knows g k.2.1 n j r hj hr a3 m6) (Nat.le_of_ble_eq_true rfl) zv_X2_knows rfl cf_X2 (sh3 j r) ml_X11_140 (Nat.le_of_ble_eq_true rfl) (q_dm dm_X11_canChoose 22 rfl) (fun r7 m8 => ?_)
          refine qr_if_eq (tgt := 64) o (q_dm dm_X11_canChoose 23 rfl) (by decide) ?_ ?_
          · refine qr_iconst o (q_dm dm_X11_canChoose 33 rfl) ic_0 ?_
            exact qr_iret o rfl (by decide) (q_dm dm_X11_canChoose 34 rfl)
          · refine qr_iload_n o (q_dm dm_X11_canChoose 24 rfl) rfl ?_
            refine qr_iload_n o (q_dm dm_X11_canChoose 25 rfl) rfl ?_
            refine qr_ishr o (q_dm dm_X11_canChoose 26 rfl) ?_
            refine qr_iconst o (q_dm dm_X11_canChoose 27 rfl) ic_1 ?_
            refine qr_iand o (q_dm dm_X11_canChoose 28 rfl) ?_
            refine qr_iconst o (q_dm dm_X11_canChoose 29 rfl) ic_1 ?_
            refine qr_icmp_ne (tgt := 64) o (q_dm dm_X11_canChoose 30 rfl) (by decide) ?_ ?_
            · refine qr_iconst o (q_dm dm_X11_canChoose 33 rfl) ic_0 ?_
              exact qr_iret o rfl (by decide) (q_dm dm_X11_canChoose 34 rfl)
            · refine qr_iconst o (q_dm dm_X11_canChoose 31 rfl) ic_1 ?_
              refine qr_goto (tgt := 65) o (q_dm dm_X11_canChoose 32 rfl) (by decide) ?_
              exact qr_iret o rfl (by decide) (q_dm dm_X11_canChoose 34 rfl)

theorem a_X11_canChoose (g : qG) (l : Launch) (n : Nat) (j r : Nat) (hj : q_isLaw j) (hr : q_isLaw r) (a1 a2 a3 : Int32) (M : qM) : qAM g l 1 zX11_canChoose (qL j r) [.inr (some 0), .inl a1, .inl a2, .inl a3] (qL j r, M) (f_X11_canChoose n a1 a2 a3 M) :=
  qAM.of zv_X11_canChoose.1 (by show 4 ≤ 5; decide) (fun k hk o => w_X11_canChoose n j r hj hr o a1 a2 a3 M)
def tb_X7_leastPrice : List (Nat × Instr × Nat) := [(0, (.ldc 95, 2)), (2, (.istore 4, 2)), (4, (.iconst 0, 1)), (5, (.istore 5, 2)), (7, (.iload 5, 2)), (9, (.bipush 8, 2)), (11, (.if_icmp .ge 58, 3)), (14, (.iload 5, 2)), (16, (.iload_n 2, 1)), (17, (.if_icmp .eq 46, 3)), (20, (.aload_n 1, 1)), (21, (.iload 5, 2)), (23, (.invokevirtual 136, 3)), (26, (.ifCond .eq 37, 3)), (29, (.aload_n 1, 1)), (30, (.getfield 119, 3)), (33, (.iload 5, 2)), (35, (.bipush 12, 2)), (37, (.imul, 1)), (38, (.iload_n 3, 1)), (39, (.iadd, 1)), (40, (.iaload, 1)), (41, (.ifCond .le 22, 3)), (44, (.iload 4, 2)), (46, (.aload_n 0, 1)), (47, (.getfield 41, 3)), (50, (.aload_n 1, 1)), (51, (.iload_n 2, 1)), (52, (.iload_n 3, 1)), (53, (.iload 5, 2)), (55, (.invokevirtual 140, 3)), (58, (.invokestatic 146, 3)), (61, (.istore 4, 2)), (63, (.iinc 5 1, 3)), (66, (.goto (-59), 3)), (69, (.iload 4, 2)), (71, (.ireturn, 1))]
theorem dm_X7_leastPrice : ∀ q ∈ tb_X7_leastPrice, decode zX7_leastPrice.2.1 q.1 = .ok q.2 := by decide +kernel
def b_X7_leastPrice_7 (n : Nat) (t j : Nat) (K7 : Int32 → Int32 → Int32 → Int32 → qM → qR) (a2 a3 a4 a5 : Int32) (M : qM) : qR :=
  (if (8 : Int32) ≤ a5 then some (a4, M) else (if a5 = a2 then ql (a5 + (1 : Int32)) (fun x1 => K7 a2 a3 a4 x1 M) else qc (f_X10_knows n t a5 M) (fun r2 m3 => (if r2 = (0 : Int32) then ql (a5 + (1 : Int32)) (fun x4 => K7 a2 a3 a4 x4 m3) else qg ((a5 * (12 : Int32)) + a3) 96 ((if (m3 (t + 2) ((a5 * (12 : Int32)) + a3).toNatClampNeg) ≤ (0 : Int32) then ql (a5 + (1 : Int32)) (fun x5 => K7 a2 a3 a4 x5 m3) else qc (f_X0_price n t j a2 a3 a5 m3) (fun r6 m7 => ql (qmin a4 r6) (fun x8 => ql (a5 + (1 : Int32)) (fun x9 => K7 a2 a3 x8 x9 m7)))))))))
set_option maxRecDepth 4000 in
theorem wb_X7_leastPrice_7 {g : qG} {k : qK} (n : Nat) (j r : Nat) (hj : q_isLaw j) (hr : q_isLaw r) {t : Nat} (ht : q_isTown t) (o : qOk g 4 zX7_leastPrice k) (K7 : Int32 → Int32 → Int32 → Int32 → qM → qR) (hK7 : ∀ (a2 a3 a4 a5 : Int32) (M : qM), qAE g k zX7_leastPrice (qL j r) 7 [some (.inr (some 56)), some (.inr (some t)), some (.inl a2), some (.inl a3), some (.inl a4), some (.inl a5)] [] (qL j r, M) (K7 a2 a3 a4 a5 M)) (a2 a3 a4 a5 : Int32) (M : qM) : qAE g k zX7_leastPrice (qL j r) 7 [some (.inr (some 56)), some (.inr (some t)), some (.inl a2), some (.inl a3), some (.inl a4), some (.inl a5)] [] (qL j r, M) (b_X7_leastPrice_7 n t j K7 a2 a3 a4 a5 M) := by
  unfold b_X7_leastPrice_7
  refine qr_iload o (q_dm dm_X7_leastPrice 4 rfl) rfl ?_
  refine qr_bipush o (q_dm dm_X7_leastPrice 5 rfl) bi_8 ?_
  refine qr_icmp_ge (tgt := 69) o (q_dm dm_X7_leastPrice 6 rfl) (by decide) ?_ ?_
  · refine qr_iload o (q_dm dm_X7_leastPrice 35 rfl) rfl ?_
    exact qr_iret o rfl rfl (q_dm dm_X7_leastPrice 36 rfl)
  · refine qr_iload o (q_dm dm_X7_leastPrice 7 rfl) rfl ?_
    refine qr_iload_n o (q_dm dm_X7_leastPrice 8 rfl) rfl ?_
    refine qr_icmp_eq (tgt := 63) o (q_dm dm_X7_leastPrice 9 rfl) (by decide) ?_ ?_
    · refine qs_iincl2 (L' := fun x1 => [some (.inr (some 56)), some (.inr (some t)), some (.inl a2), some (.inl a3), some (.inl a4), some (.inl x1)]) o (q_dm dm_X7_leastPrice 33 rfl) rfl ic_1 (Nat.le_of_ble_eq_true rfl) (fun _ => rfl) (fun x1 => ?_)
      refine qr_goto (tgt := 7) o (q_dm dm_X7_leastPrice 34 rfl) (by decide) ?_
      exact qr_loc (q_leS (q_leS (q_leS (q_leS (q_leS (q_leS q_le0)))))) (hK7 a2 a3 a4 x1 M)
    · refine qr_aload_n o (q_dm dm_X7_leastPrice 10 rfl) rfl ?_
      refine qr_iload o (q_dm dm_X7_leastPrice 11 rfl) rfl ?_
      refine qr_callv_i (As := [.inl a5]) (S := []) o (a_X10_knows g k.2.1 n j r hj hr ht a5 M) (Nat.le_of_ble_eq_true rfl) zv_X10_knows rfl cf_X10 (shT0 j r ht) ml_X7_136 (Nat.le_of_ble_eq_true rfl) (q_dm dm_X7_leastPrice 12 rfl) (fun r2 m3 => ?_)
      refine qr_if_eq (tgt := 63) o (q_dm dm_X7_leastPrice 13 rfl) (by decide) ?_ ?_
      · refine qs_iincl2 (L' := fun x4 => [some (.inr (some 56)), some (.inr (some t)), some (.inl a2), some (.inl a3), some (.inl a4), some (.inl x4)]) o (q_dm dm_X7_leastPrice 33 rfl) rfl ic_1 (Nat.le_of_ble_eq_true rfl) (fun _ => rfl) (fun x4 => ?_)
        refine qr_goto (tgt := 7) o (q_dm dm_X7_leastPrice 34 rfl) (by decide) ?_
        exact qr_loc (q_leS (q_leS (q_leS (q_leS (q_leS (q_leS q_le0)))))) (hK7 a2 a3 a4 x4 m3)
      · refine qr_aload_n o (q_dm dm_X7_leastPrice 14 rfl) rfl ?_
        refine qr_getr (kf := 1) o cf_X10 (shT0 j r ht) rfl (Nat.le_of_ble_eq_true rfl) fl_X7_119 (q_dm dm_X7_leastPrice 15 rfl) ?_
        refine qr_iload o (q_dm dm_X7_leastPrice 16 rfl) rfl ?_
        refine qr_bipush o (q_dm dm_X7_leastPrice 17 rfl) bi_12 ?_
        refine qr_imul o (q_dm dm_X7_leastPrice 18 rfl) ?_
        refine qr_iload_n o (q_dm dm_X7_leastPrice 19 rfl) rfl ?_
        refine qr_iadd o (q_dm dm_X7_leastPrice 20 rfl) ?_
        refine qr_iald o (shT2 j r ht) (q_dm dm_X7_leastPrice 21 rfl) ?_
        refine qr_if_le (tgt := 63) o (q_dm dm_X7_leastPrice 22 rfl) (by decide) ?_ ?_
        · refine qs_iincl2 (L' := fun x5 => [some (.inr (some 56)), some (.inr (some t)), some (.inl a2), some (.inl a3), some (.inl a4), some (.inl x5)]) o (q_dm dm_X7_leastPrice 33 rfl) rfl ic_1 (Nat.le_of_ble_eq_true rfl) (fun _ => rfl) (fun x5 => ?_)
          refine qr_goto (tgt := 7) o (q_dm dm_X7_leastPrice 34 rfl) (by decide) ?_
          exact qr_loc (q_leS (q_leS (q_leS (q_leS (q_leS (q_leS q_le0)))))) (hK7 a2 a3 a4 x5 m3)
        · refine qr_iload o (q_dm dm_X7_leastPrice 23 rfl) rfl ?_
          refine qr_aload_n o (q_dm dm_X7_leastPrice 24 rfl) rfl ?_
          refine qr_getr (kf := 2) o cf_X7 (sh56 j r) rfl (Nat.le_of_ble_eq_true rfl) fl_X7_41 (q_dm dm_X7_leastPrice 25 rfl) ?_
          refine qr_aload_n o (q_dm dm_X7_leastPrice 26 rfl) rfl ?_
          refine qr_iload_n o (q_dm dm_X7_leastPrice 27 rfl) rfl ?_
          refine qr_iload_n o (q_dm dm_X7_leastPrice 28 rfl) rfl ?_
          refine qr_iload o (q_dm dm_X7_leastPrice 29 rfl) rfl ?_
          refine qr_callv_i (As := [.inr (some t), .inl a2, .inl a3, .inl a5]) (S := [.inl a4]) o (a_X0_price g k.2.1 n j r hj hr ht a2 a3 a5 m3) (Nat.le_of_ble_eq_true rfl) zv_X0_price rfl cf_X0 (sh44 j r) ml_X7_140 (Nat.le_of_ble_eq_true rfl) (q_dm dm_X7_leastPrice 30 rfl) (fun r6 m7 => ?_)
          refine qr_min o ml_X7_146 (by omega) (Nat.le_of_ble_eq_true rfl) (q_dm dm_X7_leastPrice 31 rfl) ?_
          refine qr_lt (fun x8 => ?_)
          refine qs_istore (L' := [some (.inr (some 56)), some (.inr (some t)), some (.inl a2), some (.inl a3), some (.inl x8), some (.inl a5)]) o (q_dm dm_X7_leastPrice 32 rfl) (Nat.le_of_ble_eq_true rfl) rfl ?_
          refine qs_iincl2 (L' := fun x9 => [some (.inr (some 56)), some (.inr (some t)), some (.inl a2), some (.inl a3), some (.inl x8), some (.inl x9)]) o (q_dm dm_X7_leastPrice 33 rfl) rfl ic_1 (Nat.le_of_ble_eq_true rfl) (fun _ => rfl) (fun x9 => ?_)
          refine qr_goto (tgt := 7) o (q_dm dm_X7_leastPrice 34 rfl) (by decide) ?_
          exact qr_loc (q_leS (q_leS (q_leS (q_leS (q_leS (q_leS q_le0)))))) (hK7 a2 a3 x8 x9 m7)

def f_X7_leastPrice_7 (n : Nat) (t j : Nat) : Nat → Int32 → Int32 → Int32 → Int32 → qM → qR
  | 0, _, _, _, _, _ => none
  | m + 1, a2, a3, a4, a5, M => b_X7_leastPrice_7 n t j (f_X7_leastPrice_7 n t j m) a2 a3 a4 a5 M
theorem w_X7_leastPrice_7 {g : qG} {k : qK} (n : Nat) (j r : Nat) (hj : q_isLaw j) (hr : q_isLaw r) {t : Nat} (ht : q_isTown t) (o : qOk g 4 zX7_leastPrice k) : ∀ (m : Nat) (a2 a3 a4 a5 : Int32) (M : qM), qAE g k zX7_leastPrice (qL j r) 7 [some (.inr (some 56)), some (.inr (some t)), some (.inl a2), some (.inl a3), some (.inl a4), some (.inl a5)] [] (qL j r, M) (f_X7_leastPrice_7 n t j m a2 a3 a4 a5 M) := by
  intro m
  induction m with
  | zero =>
    intro a2 a3 a4 a5 M
    exact qr_none
  | succ m ih =>
    intro a2 a3 a4 a5 M
    exact wb_X7_leastPrice_7 n j r hj hr ht o (f_X7_leastPrice_7 n t j m) ih a2 a3 a4 a5 M
def f_X7_leastPrice (n : Nat) (t j : Nat) (a2 a3 : Int32) (M : qM) : qR :=
  f_X7_leastPrice_7 n t j n a2 a3 (1048576 : Int32) (0 : Int32) M
set_option maxRecDepth 4000 in
theorem w_X7_leastPrice {g : qG} {k : qK} (n : Nat) (j r : Nat) (hj : q_isLaw j) (hr : q_isLaw r) {t : Nat} (ht : q_isTown t) (o : qOk g 4 zX7_leastPrice k) (a2 a3 : Int32) (M : qM) : qAE g k zX7_leastPrice (qL j r) 0 [some (.inr (some 56)), some (.inr (some t)), some (.inl a2), some (.inl a3), none, none] [] (qL j r, M) (f_X7_leastPrice n t j a2 a3 M) := by
  unfold f_X7_leastPrice
  refine qr_ldc o (q_dm dm_X7_leastPrice 0 rfl) kc_X7_95 ?_
  refine qs_istore (L' := [some (.inr (some 56)), some (.inr (some t)), some (.inl a2), some (.inl a3), some (.inl (1048576 : Int32)), none]) o (q_dm dm_X7_leastPrice 1 rfl) (Nat.le_of_ble_eq_true rfl) rfl ?_
  refine qr_iconst o (q_dm dm_X7_leastPrice 2 rfl) ic_0 ?_
  refine qs_istore (L' := [some (.inr (some 56)), some (.inr (some t)), some (.inl a2), some (.inl a3), some (.inl (1048576 : Int32)), some (.inl (0 : Int32))]) o (q_dm dm_X7_leastPrice 3 rfl) (Nat.le_of_ble_eq_true rfl) rfl ?_
  exact qr_loc (q_leS (q_leS (q_leS (q_leS (q_leS (q_leS q_le0)))))) (w_X7_leastPrice_7 n j r hj hr ht o n a2 a3 (1048576 : Int32) (0 : Int32) M)

theorem a_X7_leastPrice (g : qG) (l : Launch) (n : Nat) (j r : Nat) (hj : q_isLaw j) (hr : q_isLaw r) {t : Nat} (ht : q_isTown t) (a2 a3 : Int32) (M : qM) : qAM g l 4 zX7_leastPrice (qL j r) [.inr (some 56), .inr (some t), .inl a2, .inl a3] (qL j r, M) (f_X7_leastPrice n t j a2 a3 M) :=
  qAM.of zv_X7_leastPrice.1 (by show 4 ≤ 6; decide) (fun k hk o => w_X7_leastPrice n j r hj hr ht o a2 a3 M)
def tb_X7_extraAt : List (Nat × Instr × Nat) := [(0, (.iload_n 0, 1)), (1, (.iconst 2, 1)), (2, (.iload_n 1, 1)), (3, (.imul, 1)), (4, (.ishr, 1)), (5, (.iconst 3, 1)), (6, (.iand, 1)), (7, (.ireturn, 1))]
theorem dm_X7_extraAt : ∀ q ∈ tb_X7_extraAt, decode zX7_extraAt.2.1 q.1 = .ok q.2 := by decide +kernel
def f_X7_extraAt (n : Nat) (a0 a1 : Int32) (M : qM) : qR :=
  some (((a0 >>> (((2 : Int32) * a1) &&& 31)) &&& (3 : Int32)), M)
set_option maxRecDepth 4000 in
theorem w_X7_extraAt {g : qG} {k : qK} (n : Nat) (j r : Nat) (hj : q_isLaw j) (hr : q_isLaw r) (o : qOk g 0 zX7_extraAt k) (a0 a1 : Int32) (M : qM) : qAE g k zX7_extraAt (qL j r) 0 [some (.inl a0), some (.inl a1)] [] (qL j r, M) (f_X7_extraAt n a0 a1 M) := by
  unfold f_X7_extraAt
  refine qr_iload_n o (q_dm dm_X7_extraAt 0 rfl) rfl ?_
  refine qr_iconst o (q_dm dm_X7_extraAt 1 rfl) ic_2 ?_
  refine qr_iload_n o (q_dm dm_X7_extraAt 2 rfl) rfl ?_
  refine qr_imul o (q_dm dm_X7_extraAt 3 rfl) ?_
  refine qr_ishr o (q_dm dm_X7_extraAt 4 rfl) ?_
  refine qr_iconst o (q_dm dm_X7_extraAt 5 rfl) ic_3 ?_
  refine qr_iand o (q_dm dm_X7_extraAt 6 rfl) ?_
  exact qr_iret o rfl rfl (q_dm dm_X7_extraAt 7 rfl)

theorem a_X7_extraAt (g : qG) (l : Launch) (n : Nat) (j r : Nat) (hj : q_isLaw j) (hr : q_isLaw r) (a0 a1 : Int32) (M : qM) : qAM g l 0 zX7_extraAt (qL j r) [.inl a0, .inl a1] (qL j r, M) (f_X7_extraAt n a0 a1 M) :=
  qAM.of zs_X7_extraAt.1 (by show 2 ≤ 2; decide) (fun k hk o => w_X7_extraAt n j r hj hr o a0 a1 M)
def tb_X7_wouldCount : List (Nat × Instr × Nat) := [(0, (.aload_n 0, 1)), (1, (.getfield 21, 3)), (4, (.iload_n 2, 1)), (5, (.iaload, 1)), (6, (.iconst (-1), 1)), (7, (.if_icmp .eq 19, 3)), (10, (.aload_n 0, 1)), (11, (.getfield 21, 3)), (14, (.iload_n 2, 1)), (15, (.iaload, 1)), (16, (.iload_n 1, 1)), (17, (.bipush 8, 2)), (19, (.ishr, 1)), (20, (.iconst (-1), 1)), (21, (.ixor, 1)), (22, (.iand, 1)), (23, (.ifCond .eq 5, 3)), (26, (.iconst 0, 1)), (27, (.ireturn, 1)), (28, (.aload_n 0, 1)), (29, (.getfield 15, 3)), (32, (.iload_n 2, 1)), (33, (.iaload, 1)), (34, (.istore_n 3, 1)), (35, (.iconst 0, 1)), (36, (.istore 4, 2)), (38, (.iload 4, 2)), (40, (.aload_n 0, 1)), (41, (.getfield 45, 3)), (44, (.if_icmp .ge 37, 3)), (47, (.iload_n 3, 1)), (48, (.aload_n 0, 1)), (49, (.getfield 18, 3)), (52, (.iload_n 2, 1)), (53, (.iaload, 1)), (54, (.iload 4, 2)), (56, (.ishr, 1)), (57, (.iconst 1, 1)), (58, (.iand, 1)), (59, (.iconst 1, 1)), (60, (.if_icmp .ne 12, 3)), (63, (.iload_n 1, 1)), (64, (.iload 4, 2)), (66, (.invokestatic 151, 3)), (69, (.goto 4, 3)), (72, (.iconst 0, 1)), (73, (.iadd, 1)), (74, (.istore_n 3, 1)), (75, (.iinc 4 1, 3)), (78, (.goto (-40), 3)), (81, (.iload_n 3, 1)), (82, (.aload_n 0, 1)), (83, (.getfield 27, 3)), (86, (.iload_n 2, 1)), (87, (.iconst 4, 1)), (88, (.imul, 1)), (89, (.iload_n 1, 1)), (90, (.iload_n 2, 1)), (91, (.invokestatic 151, 3)), (94, (.iadd, 1)), (95, (.iaload, 1)), (96, (.if_icmp .lt 7, 3)), (99, (.iconst 1, 1)), (100, (.goto 4, 3)), (103, (.iconst 0, 1)), (104, (.ireturn, 1))]
theorem dm_X7_wouldCount : ∀ q ∈ tb_X7_wouldCount, decode zX7_wouldCount.2.1 q.1 = .ok q.2 := by decide +kernel
def f_X7_wouldCount_73 (n : Nat) (K38 : Int32 → Int32 → Int32 → Int32 → qM → qR) (a1 a2 a4 s0 s1 : Int32) (M : qM) : qR :=
  ql (s0 + s1) (fun x1 => ql (a4 + (1 : Int32)) (fun x2 => K38 a1 a2 x1 x2 M))
set_option maxRecDepth 4000 in
theorem w_X7_wouldCount_73 {g : qG} {k : qK} (n : Nat) (j r : Nat) (hj : q_isLaw j) (hr : q_isLaw r) (o : qOk g 1 zX7_wouldCount k) (K38 : Int32 → Int32 → Int32 → Int32 → qM → qR) (hK38 : ∀ (a1 a2 a3 a4 : Int32) (M : qM), qAE g k zX7_wouldCount (qL j r) 38 [some (.inr (some 56)), some (.inl a1), some (.inl a2), some (.inl a3), some (.inl a4)] [] (qL j r, M) (K38 a1 a2 a3 a4 M)) (a1 a2 a4 s0 s1 : Int32) (M : qM) : qAE g k zX7_wouldCount (qL j r) 73 [some (.inr (some 56)), some (.inl a1), some (.inl a2), none, some (.inl a4)] [.inl s1, .inl s0] (qL j r, M) (f_X7_wouldCount_73 n K38 a1 a2 a4 s0 s1 M) := by
  unfold f_X7_wouldCount_73
  refine qr_iadd o (q_dm dm_X7_wouldCount 46 rfl) ?_
  refine qr_lt (fun x1 => ?_)
  refine qs_istore_n (L' := [some (.inr (some 56)), some (.inl a1), some (.inl a2), some (.inl x1), some (.inl a4)]) o (q_dm dm_X7_wouldCount 47 rfl) (Nat.le_of_ble_eq_true rfl) rfl ?_
  refine qs_iincl2 (L' := fun x2 => [some (.inr (some 56)), some (.inl a1), some (.inl a2), some (.inl x1), some (.inl x2)]) o (q_dm dm_X7_wouldCount 48 rfl) rfl ic_1 (Nat.le_of_ble_eq_true rfl) (fun _ => rfl) (fun x2 => ?_)
  refine qr_goto (tgt := 38) o (q_dm dm_X7_wouldCount 49 rfl) (by decide) ?_
  exact qr_loc (q_leS (q_leS (q_leS (q_leS (q_leS q_le0))))) (hK38 a1 a2 x1 x2 M)

def b_X7_wouldCount_38 (n : Nat) (K38 : Int32 → Int32 → Int32 → Int32 → qM → qR) (a1 a2 a3 a4 : Int32) (M : qM) : qR :=
  (if (M 56 10) ≤ a4 then qc (f_X7_extraAt n a1 a2 M) (fun r1 m2 => qg ((a2 * (4 : Int32)) + r1) 16 ((if a3 < (m2 62 ((a2 * (4 : Int32)) + r1).toNatClampNeg) then some ((0 : Int32), m2) else some ((1 : Int32), m2)))) else qg a2 4 ((if (((M 59 a2.toNatClampNeg) >>> (a4 &&& 31)) &&& (1 : Int32)) = (1 : Int32) then qc (f_X7_extraAt n a1 a4 M) (fun r3 m4 => f_X7_wouldCount_73 n K38 a1 a2 a4 a3 r3 m4) else f_X7_wouldCount_73 n K38 a1 a2 a4 a3 (0 : Int32) M)))
set_option maxRecDepth 4000 in
theorem wb_X7_wouldCount_38 {g : qG} {k : qK} (n : Nat) (j r : Nat) (hj : q_isLaw j) (hr : q_isLaw r) (o : qOk g 1 zX7_wouldCount k) (K38 : Int32 → Int32 → Int32 → Int32 → qM → qR) (hK38 : ∀ (a1 a2 a3 a4 : Int32) (M : qM), qAE g k zX7_wouldCount (qL j r) 38 [some (.inr (some 56)), some (.inl a1), some (.inl a2), some (.inl a3), some (.inl a4)] [] (qL j r, M) (K38 a1 a2 a3 a4 M)) (a1 a2 a3 a4 : Int32) (M : qM) : qAE g k zX7_wouldCount (qL j r) 38 [some (.inr (some 56)), some (.inl a1), some (.inl a2), some (.inl a3), some (.inl a4)] [] (qL j r, M) (b_X7_wouldCount_38 n K38 a1 a2 a3 a4 M) := by
  unfold b_X7_wouldCount_38
  refine qr_iload o (q_dm dm_X7_wouldCount 26 rfl) rfl ?_
  refine qr_aload_n o (q_dm dm_X7_wouldCount 27 rfl) rfl ?_
  refine qr_getf (kf := 10) o cf_X7 (sh56 j r) rfl (Nat.le_of_ble_eq_true rfl) fl_X7_45 (q_dm dm_X7_wouldCount 28 rfl) ?_
  refine qr_icmp_ge (tgt := 81) o (q_dm dm_X7_wouldCount 29 rfl) (by decide) ?_ ?_
  · refine qr_iload_n o (q_dm dm_X7_wouldCount 50 rfl) rfl ?_
    refine qr_aload_n o (q_dm dm_X7_wouldCount 51 rfl) rfl ?_
    refine qr_getr (kf := 8) o cf_X7 (sh56 j r) rfl (Nat.le_of_ble_eq_true rfl) fl_X7_27 (q_dm dm_X7_wouldCount 52 rfl) ?_
    refine qr_iload_n o (q_dm dm_X7_wouldCount 53 rfl) rfl ?_
    refine qr_iconst o (q_dm dm_X7_wouldCount 54 rfl) ic_4 ?_
    refine qr_imul o (q_dm dm_X7_wouldCount 55 rfl) ?_
    refine qr_iload_n o (q_dm dm_X7_wouldCount 56 rfl) rfl ?_
    refine qr_iload_n o (q_dm dm_X7_wouldCount 57 rfl) rfl ?_
    refine qr_calls_i (As := [.inl a1, .inl a2]) (S := [.inl (a2 * (4 : Int32)), .inr (some 62), .inl a3]) o (a_X7_extraAt g k.2.1 n j r hj hr a1 a2 M) (Nat.le_of_ble_eq_true rfl) zs_X7_extraAt rfl ml_X7_151 (Nat.le_of_ble_eq_true rfl) (q_dm dm_X7_wouldCount 58 rfl) (fun r1 m2 => ?_)
    refine qr_iadd o (q_dm dm_X7_wouldCount 59 rfl) ?_
    refine qr_iald o (sh62 j r) (q_dm dm_X7_wouldCount 60 rfl) ?_
    refine qr_icmp_lt (tgt := 103) o (q_dm dm_X7_wouldCount 61 rfl) (by decide) ?_ ?_
    · refine qr_iconst o (q_dm dm_X7_wouldCount 64 rfl) ic_0 ?_
      exact qr_iret o rfl (by decide) (q_dm dm_X7_wouldCount 65 rfl)
    · refine qr_iconst o (q_dm dm_X7_wouldCount 62 rfl) ic_1 ?_
      refine qr_goto (tgt := 104) o (q_dm dm_X7_wouldCount 63 rfl) (by decide) ?_
      exact qr_iret o rfl (by decide) (q_dm dm_X7_wouldCount 65 rfl)
  · refine qr_iload_n o (q_dm dm_X7_wouldCount 30 rfl) rfl ?_
    refine qr_aload_n o (q_dm dm_X7_wouldCount 31 rfl) rfl ?_
    refine qr_getr (kf := 5) o cf_X7 (sh56 j r) rfl (Nat.le_of_ble_eq_true rfl) fl_X7_18 (q_dm dm_X7_wouldCount 32 rfl) ?_
    refine qr_iload_n o (q_dm dm_X7_wouldCount 33 rfl) rfl ?_
    refine qr_iald o (sh59 j r) (q_dm dm_X7_wouldCount 34 rfl) ?_
    refine qr_iload o (q_dm dm_X7_wouldCount 35 rfl) rfl ?_
    refine qr_ishr o (q_dm dm_X7_wouldCount 36 rfl) ?_
    refine qr_iconst o (q_dm dm_X7_wouldCount 37 rfl) ic_1 ?_
    refine qr_iand o (q_dm dm_X7_wouldCount 38 rfl) ?_
    refine qr_iconst o (q_dm dm_X7_wouldCount 39 rfl) ic_1 ?_
    refine qr_icmp_ne (tgt := 72) o (q_dm dm_X7_wouldCount 40 rfl) (by decide) ?_ ?_
    · refine qr_iconst o (q_dm dm_X7_wouldCount 45 rfl) ic_0 ?_
      exact qr_loc (q_leS (q_leS (q_leS (q_leN (q_leS q_le0))))) (w_X7_wouldCount_73 n j r hj hr o K38 hK38 a1 a2 a4 a3 (0 : Int32) M)
    · refine qr_iload_n o (q_dm dm_X7_wouldCount 41 rfl) rfl ?_
      refine qr_iload o (q_dm dm_X7_wouldCount 42 rfl) rfl ?_
      refine qr_calls_i (As := [.inl a1, .inl a4]) (S := [.inl a3]) o (a_X7_extraAt g k.2.1 n j r hj hr a1 a4 M) (Nat.le_of_ble_eq_true rfl) zs_X7_extraAt rfl ml_X7_151 (Nat.le_of_ble_eq_true rfl) (q_dm dm_X7_wouldCount 43 rfl) (fun r3 m4 => ?_)
      refine qr_goto (tgt := 73) o (q_dm dm_X7_wouldCount 44 rfl) (by decide) ?_
      exact qr_loc (q_leS (q_leS (q_leS (q_leN (q_leS q_le0))))) (w_X7_wouldCount_73 n j r hj hr o K38 hK38 a1 a2 a4 a3 r3 m4)

def f_X7_wouldCount_38 (n : Nat) : Nat → Int32 → Int32 → Int32 → Int32 → qM → qR
  | 0, _, _, _, _, _ => none
  | m + 1, a1, a2, a3, a4, M => b_X7_wouldCount_38 n (f_X7_wouldCount_38 n m) a1 a2 a3 a4 M
theorem w_X7_wouldCount_38 {g : qG} {k : qK} (n : Nat) (j r : Nat) (hj : q_isLaw j) (hr : q_isLaw r) (o : qOk g 1 zX7_wouldCount k) : ∀ (m : Nat) (a1 a2 a3 a4 : Int32) (M : qM), qAE g k zX7_wouldCount (qL j r) 38 [some (.inr (some 56)), some (.inl a1), some (.inl a2), some (.inl a3), some (.inl a4)] [] (qL j r, M) (f_X7_wouldCount_38 n m a1 a2 a3 a4 M) := by
  intro m
  induction m with
  | zero =>
    intro a1 a2 a3 a4 M
    exact qr_none
  | succ m ih =>
    intro a1 a2 a3 a4 M
    exact wb_X7_wouldCount_38 n j r hj hr o (f_X7_wouldCount_38 n m) ih a1 a2 a3 a4 M
def f_X7_wouldCount (n : Nat) (a1 a2 : Int32) (M : qM) : qR :=
  qg a2 4 ((if (M 60 a2.toNatClampNeg) = (-1 : Int32) then some ((0 : Int32), M) else qg a2 4 ((if ((M 60 a2.toNatClampNeg) &&& ((a1 >>> ((8 : Int32) &&& 31)) ^^^ (-1 : Int32))) = (0 : Int32) then qg a2 4 (ql (M 58 a2.toNatClampNeg) (fun x1 => f_X7_wouldCount_38 n n a1 a2 x1 (0 : Int32) M)) else some ((0 : Int32), M)))))
set_option maxRecDepth 4000 in
theorem w_X7_wouldCount {g : qG} {k : qK} (n : Nat) (j r : Nat) (hj : q_isLaw j) (hr : q_isLaw r) (o : qOk g 1 zX7_wouldCount k) (a1 a2 : Int32) (M : qM) : qAE g k zX7_wouldCount (qL j r) 0 [some (.inr (some 56)), some (.inl a1), some (.inl a2), none, none] [] (qL j r, M) (f_X7_wouldCount n a1 a2 M) := by
  unfold f_X7_wouldCount
  refine qr_aload_n o (q_dm dm_X7_wouldCount 0 rfl) rfl ?_
  refine qr_getr (kf := 6) o cf_X7 (sh56 j r) rfl (Nat.le_of_ble_eq_true rfl) fl_X7_21 (q_dm dm_X7_wouldCount 1 rfl) ?_
  refine qr_iload_n o (q_dm dm_X7_wouldCount 2 rfl) rfl ?_
  refine qr_iald o (sh60 j r) (q_dm dm_X7_wouldCount 3 rfl) ?_
  refine qr_iconst o (q_dm dm_X7_wouldCount 4 rfl) ic_m1 ?_
  refine qr_icmp_eq (tgt := 26) o (q_dm dm_X7_wouldCount 5 rfl) (by decide) ?_ ?_
  · refine qr_iconst o (q_dm dm_X7_wouldCount 17 rfl) ic_0 ?_
    exact qr_iret o rfl (by decide) (q_dm dm_X7_wouldCount 18 rfl)
  · refine qr_aload_n o (q_dm dm_X7_wouldCount 6 rfl) rfl ?_
    refine qr_getr (kf := 6) o cf_X7 (sh56 j r) rfl (Nat.le_of_ble_eq_true rfl) fl_X7_21 (q_dm dm_X7_wouldCount 7 rfl) ?_
    refine qr_iload_n o (q_dm dm_X7_wouldCount 8 rfl) rfl ?_
    refine qr_iald o (sh60 j r) (q_dm dm_X7_wouldCount 9 rfl) ?_
    refine qr_iload_n o (q_dm dm_X7_wouldCount 10 rfl) rfl ?_
    refine qr_bipush o (q_dm dm_X7_wouldCount 11 rfl) bi_8 ?_
    refine qr_ishr o (q_dm dm_X7_wouldCount 12 rfl) ?_
    refine qr_iconst o (q_dm dm_X7_wouldCount 13 rfl) ic_m1 ?_
    refine qr_ixor o (q_dm dm_X7_wouldCount 14 rfl) ?_
    refine qr_iand o (q_dm dm_X7_wouldCount 15 rfl) ?_
    refine qr_if_eq (tgt := 28) o (q_dm dm_X7_wouldCount 16 rfl) (by decide) ?_ ?_
    · refine qr_aload_n o (q_dm dm_X7_wouldCount 19 rfl) rfl ?_
      refine qr_getr (kf := 4) o cf_X7 (sh56 j r) rfl (Nat.le_of_ble_eq_true rfl) fl_X7_15 (q_dm dm_X7_wouldCount 20 rfl) ?_
      refine qr_iload_n o (q_dm dm_X7_wouldCount 21 rfl) rfl ?_
      refine qr_iald o (sh58 j r) (q_dm dm_X7_wouldCount 22 rfl) ?_
      refine qr_lt (fun x1 => ?_)
      refine qs_istore_n (L' := [some (.inr (some 56)), some (.inl a1), some (.inl a2), some (.inl x1), none]) o (q_dm dm_X7_wouldCount 23 rfl) (Nat.le_of_ble_eq_true rfl) rfl ?_
      refine qr_iconst o (q_dm dm_X7_wouldCount 24 rfl) ic_0 ?_
      refine qs_istore (L' := [some (.inr (some 56)), some (.inl a1), some (.inl a2), some (.inl x1), some (.inl (0 : Int32))]) o (q_dm dm_X7_wouldCount 25 rfl) (Nat.le_of_ble_eq_true rfl) rfl ?_
      exact qr_loc (q_leS (q_leS (q_leS (q_leS (q_leS q_le0))))) (w_X7_wouldCount_38 n j r hj hr o n a1 a2 x1 (0 : Int32) M)
    · refine qr_iconst o (q_dm dm_X7_wouldCount 17 rfl) ic_0 ?_
      exact qr_iret o rfl (by decide) (q_dm dm_X7_wouldCount 18 rfl)

theorem a_X7_wouldCount (g : qG) (l : Launch) (n : Nat) (j r : Nat) (hj : q_isLaw j) (hr : q_isLaw r) (a1 a2 : Int32) (M : qM) : qAM g l 1 zX7_wouldCount (qL j r) [.inr (some 56), .inl a1, .inl a2] (qL j r, M) (f_X7_wouldCount n a1 a2 M) :=
  qAM.of zv_X7_wouldCount.1 (by show 3 ≤ 5; decide) (fun k hk o => w_X7_wouldCount n j r hj hr o a1 a2 M)
def tb_X7_bestWay : List (Nat × Instr × Nat) := [(0, (.iload_n 2, 1)), (1, (.sipush 2048, 3)), (4, (.imul, 1)), (5, (.iload_n 1, 1)), (6, (.iadd, 1)), (7, (.istore 4, 2)), (9, (.iload 4, 2)), (11, (.ifCond .lt 19, 3)), (14, (.iload 4, 2)), (16, (.aload_n 0, 1)), (17, (.getfield 30, 3)), (20, (.arraylength, 1)), (21, (.if_icmp .ge 9, 3)), (24, (.iload_n 3, 1)), (25, (.bipush 12, 2)), (27, (.if_icmp .le 6, 3)), (30, (.ldc 95, 2)), (32, (.ireturn, 1)), (33, (.aload_n 0, 1)), (34, (.getfield 30, 3)), (37, (.iload 4, 2)), (39, (.iaload, 1)), (40, (.iconst (-1), 1)), (41, (.if_icmp .eq 11, 3)), (44, (.aload_n 0, 1)), (45, (.getfield 30, 3)), (48, (.iload 4, 2)), (50, (.iaload, 1)), (51, (.ireturn, 1)), (52, (.ldc 95, 2)), (54, (.istore 5, 2)), (56, (.iconst 0, 1)), (57, (.istore 6, 2)), (59, (.iload 6, 2)), (61, (.aload_n 0, 1)), (62, (.getfield 45, 3)), (65, (.if_icmp .ge 149, 3)), (68, (.iload_n 1, 1)), (69, (.iload 6, 2)), (71, (.invokestatic 151, 3)), (74, (.iconst 3, 1)), (75, (.if_icmp .ge 133, 3)), (78, (.iload_n 1, 1)), (79, (.iconst 1, 1)), (80, (.iconst 2, 1)), (81, (.iload 6, 2)), (83, (.imul, 1)), (84, (.ishl, 1)), (85, (.iadd, 1)), (86, (.istore 7, 2)), (88, (.aload_n 0, 1)), (89, (.iload_n 1, 1)), (90, (.iload 6, 2)), (92, (.invokevirtual 154, 3)), (95, (.istore 8, 2)), (97, (.iload 8, 2)), (99, (.ifCond .eq 22, 3)), (102, (.iload 6, 2)), (104, (.iconst 3, 1)), (105, (.if_icmp .ge 16, 3)), (108, (.iload 7, 2)), (110, (.iconst 1, 1)), (111, (.bipush 8, 2)), (113, (.iload 6, 2)), (115, (.iadd, 1)), (116, (.ishl, 1)), (117, (.ior, 1)), (118, (.goto 5, 3)), (121, (.iload 7, 2)), (123, (.istore 9, 2)), (125, (.iload 8, 2)), (127, (.ifCond .eq 16, 3)), (130, (.iload 6, 2)), (132, (.aload_n 0, 1)), (133, (.getfield 49, 3)), (136, (.if_icmp .ne 7, 3)), (139, (.iconst 0, 1)), (140, (.goto 13, 3)), (143, (.aload_n 0, 1)), (144, (.iload 9, 2)), (146, (.iload_n 2, 1)), (147, (.iload_n 3, 1)), (148, (.iconst 1, 1)), (149, (.iadd, 1)), (150, (.invokevirtual 88, 3)), (153, (.istore 10, 2)), (155, (.iload 5, 2)), (157, (.bipush 16, 2)), (159, (.aload_n 0, 1)), (160, (.getfield 33, 3)), (163, (.getfield 109, 3)), (166, (.aload_n 0, 1)), (167, (.getfield 9, 3)), (170, (.iload 6, 2)), (172, (.iaload, 1)), (173, (.iaload, 1)), (174, (.imul, 1)), (175, (.iconst 1, 1)), (176, (.iadd, 1)), (177, (.iload 10, 2)), (179, (.iadd, 1)), (180, (.invokestatic 146, 3)), (183, (.istore 5, 2)), (185, (.iload_n 2, 1)), (186, (.ifCond .le 22, 3)), (189, (.iload 5, 2)), (191, (.aload_n 0, 1)), (192, (.iload 7, 2)), (194, (.iload_n 2, 1)), (195, (.iconst 1, 1)), (196, (.isub, 1)), (197, (.iload_n 3, 1)), (198, (.iconst 1, 1)), (199, (.iadd, 1)), (200, (.invokevirtual 88, 3)), (203, (.invokestatic 146, 3)), (206, (.istore 5, 2)), (208, (.iinc 6 1, 3)), (211, (.goto (-152), 3)), (214, (.aload_n 0, 1)), (215, (.getfield 30, 3)), (218, (.iload 4, 2)), (220, (.iload 5, 2)), (222, (.iastore, 1)), (223, (.iload 5, 2)), (225, (.ireturn, 1))]
theorem dm_X7_bestWay : ∀ q ∈ tb_X7_bestWay, decode zX7_bestWay.2.1 q.1 = .ok q.2 := by decide +kernel
def f_X7_bestWay_153 (n : Nat) (F_X7_bestWay : Int32 → Int32 → Int32 → qM → qR) (K59 : Int32 → Int32 → Int32 → Int32 → Int32 → Int32 → qM → qR) (a1 a2 a3 a4 a5 a6 a7 s0 : Int32) (M : qM) : qR :=
  qg a6 4 (qg (M 57 a6.toNatClampNeg) 12 (ql (qmin a5 ((((16 : Int32) * (M 4 (M 57 a6.toNatClampNeg).toNatClampNeg)) + (1 : Int32)) + s0)) (fun x1 => (if a2 ≤ (0 : Int32) then ql (a6 + (1 : Int32)) (fun x2 => K59 a1 a2 a3 a4 x1 x2 M) else qc (F_X7_bestWay a7 (a2 - (1 : Int32)) (a3 + (1 : Int32)) M) (fun r3 m4 => ql (qmin x1 r3) (fun x5 => ql (a6 + (1 : Int32)) (fun x6 => K59 a1 a2 a3 a4 x5 x6 m4)))))))
set_option maxRecDepth 4000 in
theorem w_X7_bestWay_153 {g : qG} {k : qK} (n : Nat) (j r : Nat) (hj : q_isLaw j) (hr : q_isLaw r) {d1 d : Nat} (hd1 : d1 + 1 ≤ d) (hdn : 2 ≤ d) (F_X7_bestWay : Int32 → Int32 → Int32 → qM → qR) (hF_X7_bestWay : ∀ (b1 b2 b3 : Int32) (M : qM), qAM g k.2.1 d1 zX7_bestWay (qL j r) [.inr (some 56), .inl b1, .inl b2, .inl b3] (qL j r, M) (F_X7_bestWay b1 b2 b3 M)) (o : qOk g d zX7_bestWay k) (K59 : Int32 → Int32 → Int32 → Int32 → Int32 → Int32 → qM → qR) (hK59 : ∀ (a1 a2 a3 a4 a5 a6 : Int32) (M : qM), qAE g k zX7_bestWay (qL j r) 59 [some (.inr (some 56)), some (.inl a1), some (.inl a2), some (.inl a3), some (.inl a4), some (.inl a5), some (.inl a6), none, none, none, none] [] (qL j r, M) (K59 a1 a2 a3 a4 a5 a6 M)) (a1 a2 a3 a4 a5 a6 a7 s0 : Int32) (M : qM) : qAE g k zX7_bestWay (qL j r) 153 [some (.inr (some 56)), some (.inl a1), some (.inl a2), some (.inl a3), some (.inl a4), some (.inl a5), some (.inl a6), some (.inl a7), none, none, none] [.inl s0] (qL j r, M) (f_X7_bestWay_153 n F_X7_bestWay K59 a1 a2 a3 a4 a5 a6 a7 s0 M) := by
  unfold f_X7_bestWay_153
  refine qs_istore (L' := [some (.inr (some 56)), some (.inl a1), some (.inl a2), some (.inl a3), some (.inl a4), some (.inl a5), some (.inl a6), some (.inl a7), none, none, some (.inl s0)]) o (q_dm dm_X7_bestWay 85 rfl) (Nat.le_of_ble_eq_true rfl) rfl ?_
  refine qr_iload o (q_dm dm_X7_bestWay 86 rfl) rfl ?_
  refine qr_bipush o (q_dm dm_X7_bestWay 87 rfl) bi_16 ?_
  refine qr_aload_n o (q_dm dm_X7_bestWay 88 rfl) rfl ?_
  refine qr_getr (kf := 0) o cf_X7 (sh56 j r) rfl (Nat.le_of_ble_eq_true rfl) fl_X7_33 (q_dm dm_X7_bestWay 89 rfl) ?_
  refine qr_getr (kf := 0) o cf_X2 (sh3 j r) rfl (Nat.le_of_ble_eq_true rfl) fl_X7_109 (q_dm dm_X7_bestWay 90 rfl) ?_
  refine qr_aload_n o (q_dm dm_X7_bestWay 91 rfl) rfl ?_
  refine qr_getr (kf := 3) o cf_X7 (sh56 j r) rfl (Nat.le_of_ble_eq_true rfl) fl_X7_9 (q_dm dm_X7_bestWay 92 rfl) ?_
  refine qr_iload o (q_dm dm_X7_bestWay 93 rfl) rfl ?_
  refine qr_iald o (sh57 j r) (q_dm dm_X7_bestWay 94 rfl) ?_
  refine qr_iald o (sh4 j r) (q_dm dm_X7_bestWay 95 rfl) ?_
  refine qr_imul o (q_dm dm_X7_bestWay 96 rfl) ?_
  refine qr_iconst o (q_dm dm_X7_bestWay 97 rfl) ic_1 ?_
  refine qr_iadd o (q_dm dm_X7_bestWay 98 rfl) ?_
  refine qr_iload o (q_dm dm_X7_bestWay 99 rfl) rfl ?_
  refine qr_iadd o (q_dm dm_X7_bestWay 100 rfl) ?_
  refine qr_min o ml_X7_146 (by omega) (Nat.le_of_ble_eq_true rfl) (q_dm dm_X7_bestWay 101 rfl) ?_
  refine qr_lt (fun x1 => ?_)
  refine qs_istore (L' := [some (.inr (some 56)), some (.inl a1), some (.inl a2), some (.inl a3), some (.inl a4), some (.inl x1), some (.inl a6), some (.inl a7), none, none, some (.inl s0)]) o (q_dm dm_X7_bestWay 102 rfl) (Nat.le_of_ble_eq_true rfl) rfl ?_
  refine qr_iload_n o (q_dm dm_X7_bestWay 103 rfl) rfl ?_
  refine qr_if_le (tgt := 208) o (q_dm dm_X7_bestWay 104 rfl) (by decide) ?_ ?_
  · refine qs_iincl2 (L' := fun x2 => [some (.inr (some 56)), some (.inl a1), some (.inl a2), some (.inl a3), some (.inl a4), some (.inl x1), some (.inl x2), some (.inl a7), none, none, some (.inl s0)]) o (q_dm dm_X7_bestWay 117 rfl) rfl ic_1 (Nat.le_of_ble_eq_true rfl) (fun _ => rfl) (fun x2 => ?_)
    refine qr_goto (tgt := 59) o (q_dm dm_X7_bestWay 118 rfl) (by decide) ?_
    exact qr_loc (q_leS (q_leS (q_leS (q_leS (q_leS (q_leS (q_leS (q_leN (q_leN (q_leN (q_leN q_le0))))))))))) (hK59 a1 a2 a3 a4 x1 x2 M)
  · refine qr_iload o (q_dm dm_X7_bestWay 105 rfl) rfl ?_
    refine qr_aload_n o (q_dm dm_X7_bestWay 106 rfl) rfl ?_
    refine qr_iload o (q_dm dm_X7_bestWay 107 rfl) rfl ?_
    refine qr_iload_n o (q_dm dm_X7_bestWay 108 rfl) rfl ?_
    refine qr_iconst o (q_dm dm_X7_bestWay 109 rfl) ic_1 ?_
    refine qr_isub o (q_dm dm_X7_bestWay 110 rfl) ?_
    refine qr_iload_n o (q_dm dm_X7_bestWay 111 rfl) rfl ?_
    refine qr_iconst o (q_dm dm_X7_bestWay 112 rfl) ic_1 ?_
    refine qr_iadd o (q_dm dm_X7_bestWay 113 rfl) ?_
    refine qr_callv_i (As := [.inl a7, .inl (a2 - (1 : Int32)), .inl (a3 + (1 : Int32))]) (S := [.inl x1]) o (hF_X7_bestWay a7 (a2 - (1 : Int32)) (a3 + (1 : Int32)) M) (by omega) zv_X7_bestWay rfl cf_X7 (sh56 j r) ml_X7_88 (Nat.le_of_ble_eq_true rfl) (q_dm dm_X7_bestWay 114 rfl) (fun r3 m4 => ?_)
    refine qr_min o ml_X7_146 (by omega) (Nat.le_of_ble_eq_true rfl) (q_dm dm_X7_bestWay 115 rfl) ?_
    refine qr_lt (fun x5 => ?_)
    refine qs_istore (L' := [some (.inr (some 56)), some (.inl a1), some (.inl a2), some (.inl a3), some (.inl a4), some (.inl x5), some (.inl a6), some (.inl a7), none, none, some (.inl s0)]) o (q_dm dm_X7_bestWay 116 rfl) (Nat.le_of_ble_eq_true rfl) rfl ?_
    refine qs_iincl2 (L' := fun x6 => [some (.inr (some 56)), some (.inl a1), some (.inl a2), some (.inl a3), some (.inl a4), some (.inl x5), some (.inl x6), some (.inl a7), none, none, some (.inl s0)]) o (q_dm dm_X7_bestWay 117 rfl) rfl ic_1 (Nat.le_of_ble_eq_true rfl) (fun _ => rfl) (fun x6 => ?_)
    refine qr_goto (tgt := 59) o (q_dm dm_X7_bestWay 118 rfl) (by decide) ?_
    exact qr_loc (q_leS (q_leS (q_leS (q_leS (q_leS (q_leS (q_leS (q_leN (q_leN (q_leN (q_leN q_le0))))))))))) (hK59 a1 a2 a3 a4 x5 x6 m4)

def f_X7_bestWay_143 (n : Nat) (F_X7_bestWay : Int32 → Int32 → Int32 → qM → qR) (K59 : Int32 → Int32 → Int32 → Int32 → Int32 → Int32 → qM → qR) (a1 a2 a3 a4 a5 a6 a7 a9 : Int32) (M : qM) : qR :=
  qc (F_X7_bestWay a9 a2 (a3 + (1 : Int32)) M) (fun r1 m2 => f_X7_bestWay_153 n F_X7_bestWay K59 a1 a2 a3 a4 a5 a6 a7 r1 m2)
set_option maxRecDepth 4000 in
theorem w_X7_bestWay_143 {g : qG} {k : qK} (n : Nat) (j r : Nat) (hj : q_isLaw j) (hr : q_isLaw r) {d1 d : Nat} (hd1 : d1 + 1 ≤ d) (hdn : 2 ≤ d) (F_X7_bestWay : Int32 → Int32 → Int32 → qM → qR) (hF_X7_bestWay : ∀ (b1 b2 b3 : Int32) (M : qM), qAM g k.2.1 d1 zX7_bestWay (qL j r) [.inr (some 56), .inl b1, .inl b2, .inl b3] (qL j r, M) (F_X7_bestWay b1 b2 b3 M)) (o : qOk g d zX7_bestWay k) (K59 : Int32 → Int32 → Int32 → Int32 → Int32 → Int32 → qM → qR) (hK59 : ∀ (a1 a2 a3 a4 a5 a6 : Int32) (M : qM), qAE g k zX7_bestWay (qL j r) 59 [some (.inr (some 56)), some (.inl a1), some (.inl a2), some (.inl a3), some (.inl a4), some (.inl a5), some (.inl a6), none, none, none, none] [] (qL j r, M) (K59 a1 a2 a3 a4 a5 a6 M)) (a1 a2 a3 a4 a5 a6 a7 a9 : Int32) (M : qM) : qAE g k zX7_bestWay (qL j r) 143 [some (.inr (some 56)), some (.inl a1), some (.inl a2), some (.inl a3), some (.inl a4), some (.inl a5), some (.inl a6), some (.inl a7), none, some (.inl a9), none] [] (qL j r, M) (f_X7_bestWay_143 n F_X7_bestWay K59 a1 a2 a3 a4 a5 a6 a7 a9 M) := by
  unfold f_X7_bestWay_143
  refine qr_aload_n o (q_dm dm_X7_bestWay 78 rfl) rfl ?_
  refine qr_iload o (q_dm dm_X7_bestWay 79 rfl) rfl ?_
  refine qr_iload_n o (q_dm dm_X7_bestWay 80 rfl) rfl ?_
  refine qr_iload_n o (q_dm dm_X7_bestWay 81 rfl) rfl ?_
  refine qr_iconst o (q_dm dm_X7_bestWay 82 rfl) ic_1 ?_
  refine qr_iadd o (q_dm dm_X7_bestWay 83 rfl) ?_
  refine qr_callv_i (As := [.inl a9, .inl a2, .inl (a3 + (1 : Int32))]) (S := []) o (hF_X7_bestWay a9 a2 (a3 + (1 : Int32)) M) (by omega) zv_X7_bestWay rfl cf_X7 (sh56 j r) ml_X7_88 (Nat.le_of_ble_eq_true rfl) (q_dm dm_X7_bestWay 84 rfl) (fun r1 m2 => ?_)
  exact qr_loc (q_leS (q_leS (q_leS (q_leS (q_leS (q_leS (q_leS (q_leS (q_leN (q_leN (q_leN q_le0))))))))))) (w_X7_bestWay_153 n j r hj hr hd1 hdn F_X7_bestWay hF_X7_bestWay o K59 hK59 a1 a2 a3 a4 a5 a6 a7 r1 m2)

def f_X7_bestWay_123 (n : Nat) (F_X7_bestWay : Int32 → Int32 → Int32 → qM → qR) (K59 : Int32 → Int32 → Int32 → Int32 → Int32 → Int32 → qM → qR) (a1 a2 a3 a4 a5 a6 a7 a8 s0 : Int32) (M : qM) : qR :=
  (if a8 = (0 : Int32) then f_X7_bestWay_143 n F_X7_bestWay K59 a1 a2 a3 a4 a5 a6 a7 s0 M else (if a6 = (M 56 11) then f_X7_bestWay_153 n F_X7_bestWay K59 a1 a2 a3 a4 a5 a6 a7 (0 : Int32) M else f_X7_bestWay_143 n F_X7_bestWay K59 a1 a2 a3 a4 a5 a6 a7 s0 M))
set_option maxRecDepth 4000 in
theorem w_X7_bestWay_123 {g : qG} {k : qK} (n : Nat) (j r : Nat) (hj : q_isLaw j) (hr : q_isLaw r) {d1 d : Nat} (hd1 : d1 + 1 ≤ d) (hdn : 2 ≤ d) (F_X7_bestWay : Int32 → Int32 → Int32 → qM → qR) (hF_X7_bestWay : ∀ (b1 b2 b3 : Int32) (M : qM), qAM g k.2.1 d1 zX7_bestWay (qL j r) [.inr (some 56), .inl b1, .inl b2, .inl b3] (qL j r, M) (F_X7_bestWay b1 b2 b3 M)) (o : qOk g d zX7_bestWay k) (K59 : Int32 → Int32 → Int32 → Int32 → Int32 → Int32 → qM → qR) (hK59 : ∀ (a1 a2 a3 a4 a5 a6 : Int32) (M : qM), qAE g k zX7_bestWay (qL j r) 59 [some (.inr (some 56)), some (.inl a1), some (.inl a2), some (.inl a3), some (.inl a4), some (.inl a5), some (.inl a6), none, none, none, none] [] (qL j r, M) (K59 a1 a2 a3 a4 a5 a6 M)) (a1 a2 a3 a4 a5 a6 a7 a8 s0 : Int32) (M : qM) : qAE g k zX7_bestWay (qL j r) 123 [some (.inr (some 56)), some (.inl a1), some (.inl a2), some (.inl a3), some (.inl a4), some (.inl a5), some (.inl a6), some (.inl a7), some (.inl a8), none, none] [.inl s0] (qL j r, M) (f_X7_bestWay_123 n F_X7_bestWay K59 a1 a2 a3 a4 a5 a6 a7 a8 s0 M) := by
  unfold f_X7_bestWay_123
  refine qs_istore (L' := [some (.inr (some 56)), some (.inl a1), some (.inl a2), some (.inl a3), some (.inl a4), some (.inl a5), some (.inl a6), some (.inl a7), some (.inl a8), some (.inl s0), none]) o (q_dm dm_X7_bestWay 69 rfl) (Nat.le_of_ble_eq_true rfl) rfl ?_
  refine qr_iload o (q_dm dm_X7_bestWay 70 rfl) rfl ?_
  refine qr_if_eq (tgt := 143) o (q_dm dm_X7_bestWay 71 rfl) (by decide) ?_ ?_
  · exact qr_loc (q_leS (q_leS (q_leS (q_leS (q_leS (q_leS (q_leS (q_leS (q_leN (q_leS (q_leN q_le0))))))))))) (w_X7_bestWay_143 n j r hj hr hd1 hdn F_X7_bestWay hF_X7_bestWay o K59 hK59 a1 a2 a3 a4 a5 a6 a7 s0 M)
  · refine qr_iload o (q_dm dm_X7_bestWay 72 rfl) rfl ?_
    refine qr_aload_n o (q_dm dm_X7_bestWay 73 rfl) rfl ?_
    refine qr_getf (kf := 11) o cf_X7 (sh56 j r) rfl (Nat.le_of_ble_eq_true rfl) fl_X7_49 (q_dm dm_X7_bestWay 74 rfl) ?_
    refine qr_icmp_ne (tgt := 143) o (q_dm dm_X7_bestWay 75 rfl) (by decide) ?_ ?_
    · exact qr_loc (q_leS (q_leS (q_leS (q_leS (q_leS (q_leS (q_leS (q_leS (q_leN (q_leS (q_leN q_le0))))))))))) (w_X7_bestWay_143 n j r hj hr hd1 hdn F_X7_bestWay hF_X7_bestWay o K59 hK59 a1 a2 a3 a4 a5 a6 a7 s0 M)
    · refine qr_iconst o (q_dm dm_X7_bestWay 76 rfl) ic_0 ?_
      refine qr_goto (tgt := 153) o (q_dm dm_X7_bestWay 77 rfl) (by decide) ?_
      exact qr_loc (q_leS (q_leS (q_leS (q_leS (q_leS (q_leS (q_leS (q_leS (q_leN (q_leN (q_leN q_le0))))))))))) (w_X7_bestWay_153 n j r hj hr hd1 hdn F_X7_bestWay hF_X7_bestWay o K59 hK59 a1 a2 a3 a4 a5 a6 a7 (0 : Int32) M)

def f_X7_bestWay_121 (n : Nat) (F_X7_bestWay : Int32 → Int32 → Int32 → qM → qR) (K59 : Int32 → Int32 → Int32 → Int32 → Int32 → Int32 → qM → qR) (a1 a2 a3 a4 a5 a6 a7 a8 : Int32) (M : qM) : qR :=
  f_X7_bestWay_123 n F_X7_bestWay K59 a1 a2 a3 a4 a5 a6 a7 a8 a7 M
set_option maxRecDepth 4000 in
theorem w_X7_bestWay_121 {g : qG} {k : qK} (n : Nat) (j r : Nat) (hj : q_isLaw j) (hr : q_isLaw r) {d1 d : Nat} (hd1 : d1 + 1 ≤ d) (hdn : 2 ≤ d) (F_X7_bestWay : Int32 → Int32 → Int32 → qM → qR) (hF_X7_bestWay : ∀ (b1 b2 b3 : Int32) (M : qM), qAM g k.2.1 d1 zX7_bestWay (qL j r) [.inr (some 56), .inl b1, .inl b2, .inl b3] (qL j r, M) (F_X7_bestWay b1 b2 b3 M)) (o : qOk g d zX7_bestWay k) (K59 : Int32 → Int32 → Int32 → Int32 → Int32 → Int32 → qM → qR) (hK59 : ∀ (a1 a2 a3 a4 a5 a6 : Int32) (M : qM), qAE g k zX7_bestWay (qL j r) 59 [some (.inr (some 56)), some (.inl a1), some (.inl a2), some (.inl a3), some (.inl a4), some (.inl a5), some (.inl a6), none, none, none, none] [] (qL j r, M) (K59 a1 a2 a3 a4 a5 a6 M)) (a1 a2 a3 a4 a5 a6 a7 a8 : Int32) (M : qM) : qAE g k zX7_bestWay (qL j r) 121 [some (.inr (some 56)), some (.inl a1), some (.inl a2), some (.inl a3), some (.inl a4), some (.inl a5), some (.inl a6), some (.inl a7), some (.inl a8), none, none] [] (qL j r, M) (f_X7_bestWay_121 n F_X7_bestWay K59 a1 a2 a3 a4 a5 a6 a7 a8 M) := by
  unfold f_X7_bestWay_121
  refine qr_iload o (q_dm dm_X7_bestWay 68 rfl) rfl ?_
  exact qr_loc (q_leS (q_leS (q_leS (q_leS (q_leS (q_leS (q_leS (q_leS (q_leS (q_leN (q_leN q_le0))))))))))) (w_X7_bestWay_123 n j r hj hr hd1 hdn F_X7_bestWay hF_X7_bestWay o K59 hK59 a1 a2 a3 a4 a5 a6 a7 a8 a7 M)

def b_X7_bestWay_59 (n : Nat) (F_X7_bestWay : Int32 → Int32 → Int32 → qM → qR) (K59 : Int32 → Int32 → Int32 → Int32 → Int32 → Int32 → qM → qR) (a1 a2 a3 a4 a5 a6 : Int32) (M : qM) : qR :=
  (if (M 56 10) ≤ a6 then qg a4 8192 (qlm (mu M 63 a4.toNatClampNeg a5) (fun m1 => some (a5, m1))) else qc (f_X7_extraAt n a1 a6 M) (fun r2 m3 => (if (3 : Int32) ≤ r2 then ql (a6 + (1 : Int32)) (fun x4 => K59 a1 a2 a3 a4 a5 x4 m3) else ql (a1 + ((1 : Int32) <<< (((2 : Int32) * a6) &&& 31))) (fun x5 => qc (f_X7_wouldCount n a1 a6 m3) (fun r6 m7 => (if r6 = (0 : Int32) then f_X7_bestWay_121 n F_X7_bestWay K59 a1 a2 a3 a4 a5 a6 x5 r6 m7 else (if (3 : Int32) ≤ a6 then f_X7_bestWay_121 n F_X7_bestWay K59 a1 a2 a3 a4 a5 a6 x5 r6 m7 else f_X7_bestWay_123 n F_X7_bestWay K59 a1 a2 a3 a4 a5 a6 x5 r6 (x5 ||| ((1 : Int32) <<< (((8 : Int32) + a6) &&& 31))) m7)))))))
set_option maxRecDepth 4000 in
theorem wb_X7_bestWay_59 {g : qG} {k : qK} (n : Nat) (j r : Nat) (hj : q_isLaw j) (hr : q_isLaw r) {d1 d : Nat} (hd1 : d1 + 1 ≤ d) (hdn : 2 ≤ d) (F_X7_bestWay : Int32 → Int32 → Int32 → qM → qR) (hF_X7_bestWay : ∀ (b1 b2 b3 : Int32) (M : qM), qAM g k.2.1 d1 zX7_bestWay (qL j r) [.inr (some 56), .inl b1, .inl b2, .inl b3] (qL j r, M) (F_X7_bestWay b1 b2 b3 M)) (o : qOk g d zX7_bestWay k) (K59 : Int32 → Int32 → Int32 → Int32 → Int32 → Int32 → qM → qR) (hK59 : ∀ (a1 a2 a3 a4 a5 a6 : Int32) (M : qM), qAE g k zX7_bestWay (qL j r) 59 [some (.inr (some 56)), some (.inl a1), some (.inl a2), some (.inl a3), some (.inl a4), some (.inl a5), some (.inl a6), none, none, none, none] [] (qL j r, M) (K59 a1 a2 a3 a4 a5 a6 M)) (a1 a2 a3 a4 a5 a6 : Int32) (M : qM) : qAE g k zX7_bestWay (qL j r) 59 [some (.inr (some 56)), some (.inl a1), some (.inl a2), some (.inl a3), some (.inl a4), some (.inl a5), some (.inl a6), none, none, none, none] [] (qL j r, M) (b_X7_bestWay_59 n F_X7_bestWay K59 a1 a2 a3 a4 a5 a6 M) := by
  unfold b_X7_bestWay_59
  refine qr_iload o (q_dm dm_X7_bestWay 33 rfl) rfl ?_
  refine qr_aload_n o (q_dm dm_X7_bestWay 34 rfl) rfl ?_
  refine qr_getf (kf := 10) o cf_X7 (sh56 j r) rfl (Nat.le_of_ble_eq_true rfl) fl_X7_45 (q_dm dm_X7_bestWay 35 rfl) ?_
  refine qr_icmp_ge (tgt := 214) o (q_dm dm_X7_bestWay 36 rfl) (by decide) ?_ ?_
  · refine qr_aload_n o (q_dm dm_X7_bestWay 119 rfl) rfl ?_
    refine qr_getr (kf := 9) o cf_X7 (sh56 j r) rfl (Nat.le_of_ble_eq_true rfl) fl_X7_30 (q_dm dm_X7_bestWay 120 rfl) ?_
    refine qr_iload o (q_dm dm_X7_bestWay 121 rfl) rfl ?_
    refine qr_iload o (q_dm dm_X7_bestWay 122 rfl) rfl ?_
    refine qr_iast o (sh63 j r) (q_dm dm_X7_bestWay 123 rfl) ?_
    refine qr_letm (fun m1 => ?_)
    refine qr_iload o (q_dm dm_X7_bestWay 124 rfl) rfl ?_
    exact qr_iret o rfl rfl (q_dm dm_X7_bestWay 125 rfl)
  · refine qr_iload_n o (q_dm dm_X7_bestWay 37 rfl) rfl ?_
    refine qr_iload o (q_dm dm_X7_bestWay 38 rfl) rfl ?_
    refine qr_calls_i (As := [.inl a1, .inl a6]) (S := []) o (a_X7_extraAt g k.2.1 n j r hj hr a1 a6 M) (by omega) zs_X7_extraAt rfl ml_X7_151 (Nat.le_of_ble_eq_true rfl) (q_dm dm_X7_bestWay 39 rfl) (fun r2 m3 => ?_)
    refine qr_iconst o (q_dm dm_X7_bestWay 40 rfl) ic_3 ?_
    refine qr_icmp_ge (tgt := 208) o (q_dm dm_X7_bestWay 41 rfl) (by decide) ?_ ?_
    · refine qs_iincl2 (L' := fun x4 => [some (.inr (some 56)), some (.inl a1), some (.inl a2), some (.inl a3), some (.inl a4), some (.inl a5), some (.inl x4), none, none, none, none]) o (q_dm dm_X7_bestWay 117 rfl) rfl ic_1 (Nat.le_of_ble_eq_true rfl) (fun _ => rfl) (fun x4 => ?_)
      refine qr_goto (tgt := 59) o (q_dm dm_X7_bestWay 118 rfl) (by decide) ?_
      exact qr_loc (q_leS (q_leS (q_leS (q_leS (q_leS (q_leS (q_leS (q_leN (q_leN (q_leN (q_leN q_le0))))))))))) (hK59 a1 a2 a3 a4 a5 x4 m3)
    · refine qr_iload_n o (q_dm dm_X7_bestWay 42 rfl) rfl ?_
      refine qr_iconst o (q_dm dm_X7_bestWay 43 rfl) ic_1 ?_
      refine qr_iconst o (q_dm dm_X7_bestWay 44 rfl) ic_2 ?_
      refine qr_iload o (q_dm dm_X7_bestWay 45 rfl) rfl ?_
      refine qr_imul o (q_dm dm_X7_bestWay 46 rfl) ?_
      refine qr_ishl o (q_dm dm_X7_bestWay 47 rfl) ?_
      refine qr_iadd o (q_dm dm_X7_bestWay 48 rfl) ?_
      refine qr_lt (fun x5 => ?_)
      refine qs_istore (L' := [some (.inr (some 56)), some (.inl a1), some (.inl a2), some (.inl a3), some (.inl a4), some (.inl a5), some (.inl a6), some (.inl x5), none, none, none]) o (q_dm dm_X7_bestWay 49 rfl) (Nat.le_of_ble_eq_true rfl) rfl ?_
      refine qr_aload_n o (q_dm dm_X7_bestWay 50 rfl) rfl ?_
      refine qr_iload_n o (q_dm dm_X7_bestWay 51 rfl) rfl ?_
      refine qr_iload o (q_dm dm_X7_bestWay 52 rfl) rfl ?_
      refine qr_callv_i (As := [.inl a1, .inl a6]) (S := []) o (a_X7_wouldCount g k.2.1 n j r hj hr a1 a6 m3) (by omega) zv_X7_wouldCount rfl cf_X7 (sh56 j r) ml_X7_154 (Nat.le_of_ble_eq_true rfl) (q_dm dm_X7_bestWay 53 rfl) (fun r6 m7 => ?_)
      refine qs_istore (L' := [some (.inr (some 56)), some (.inl a1), some (.inl a2), some (.inl a3), some (.inl a4), some (.inl a5), some (.inl a6), some (.inl x5), some (.inl r6), none, none]) o (q_dm dm_X7_bestWay 54 rfl) (Nat.le_of_ble_eq_true rfl) rfl ?_
      refine qr_iload o (q_dm dm_X7_bestWay 55 rfl) rfl ?_
      refine qr_if_eq (tgt := 121) o (q_dm dm_X7_bestWay 56 rfl) (by decide) ?_ ?_
      · exact qr_loc (q_leS (q_leS (q_leS (q_leS (q_leS (q_leS (q_leS (q_leS (q_leS (q_leN (q_leN q_le0))))))))))) (w_X7_bestWay_121 n j r hj hr hd1 hdn F_X7_bestWay hF_X7_bestWay o K59 hK59 a1 a2 a3 a4 a5 a6 x5 r6 m7)
      · refine qr_iload o (q_dm dm_X7_bestWay 57 rfl) rfl ?_
        refine qr_iconst o (q_dm dm_X7_bestWay 58 rfl) ic_3 ?_
        refine qr_icmp_ge (tgt := 121) o (q_dm dm_X7_bestWay 59 rfl) (by decide) ?_ ?_
        · exact qr_loc (q_leS (q_leS (q_leS (q_leS (q_leS (q_leS (q_leS (q_leS (q_leS (q_leN (q_leN q_le0))))))))))) (w_X7_bestWay_121 n j r hj hr hd1 hdn F_X7_bestWay hF_X7_bestWay o K59 hK59 a1 a2 a3 a4 a5 a6 x5 r6 m7)
        · refine qr_iload o (q_dm dm_X7_bestWay 60 rfl) rfl ?_
          refine qr_iconst o (q_dm dm_X7_bestWay 61 rfl) ic_1 ?_
          refine qr_bipush o (q_dm dm_X7_bestWay 62 rfl) bi_8 ?_
          refine qr_iload o (q_dm dm_X7_bestWay 63 rfl) rfl ?_
          refine qr_iadd o (q_dm dm_X7_bestWay 64 rfl) ?_
          refine qr_ishl o (q_dm dm_X7_bestWay 65 rfl) ?_
          refine qr_ior o (q_dm dm_X7_bestWay 66 rfl) ?_
          refine qr_goto (tgt := 123) o (q_dm dm_X7_bestWay 67 rfl) (by decide) ?_
          exact qr_loc (q_leS (q_leS (q_leS (q_leS (q_leS (q_leS (q_leS (q_leS (q_leS (q_leN (q_leN q_le0))))))))))) (w_X7_bestWay_123 n j r hj hr hd1 hdn F_X7_bestWay hF_X7_bestWay o K59 hK59 a1 a2 a3 a4 a5 a6 x5 r6 (x5 ||| ((1 : Int32) <<< (((8 : Int32) + a6) &&& 31))) m7)

def f_X7_bestWay_59 (n : Nat) (F_X7_bestWay : Int32 → Int32 → Int32 → qM → qR) : Nat → Int32 → Int32 → Int32 → Int32 → Int32 → Int32 → qM → qR
  | 0, _, _, _, _, _, _, _ => none
  | m + 1, a1, a2, a3, a4, a5, a6, M => b_X7_bestWay_59 n F_X7_bestWay (f_X7_bestWay_59 n F_X7_bestWay m) a1 a2 a3 a4 a5 a6 M
theorem w_X7_bestWay_59 {g : qG} {k : qK} (n : Nat) (j r : Nat) (hj : q_isLaw j) (hr : q_isLaw r) {d1 d : Nat} (hd1 : d1 + 1 ≤ d) (hdn : 2 ≤ d) (F_X7_bestWay : Int32 → Int32 → Int32 → qM → qR) (hF_X7_bestWay : ∀ (b1 b2 b3 : Int32) (M : qM), qAM g k.2.1 d1 zX7_bestWay (qL j r) [.inr (some 56), .inl b1, .inl b2, .inl b3] (qL j r, M) (F_X7_bestWay b1 b2 b3 M)) (o : qOk g d zX7_bestWay k) : ∀ (m : Nat) (a1 a2 a3 a4 a5 a6 : Int32) (M : qM), qAE g k zX7_bestWay (qL j r) 59 [some (.inr (some 56)), some (.inl a1), some (.inl a2), some (.inl a3), some (.inl a4), some (.inl a5), some (.inl a6), none, none, none, none] [] (qL j r, M) (f_X7_bestWay_59 n F_X7_bestWay m a1 a2 a3 a4 a5 a6 M) := by
  intro m
  induction m with
  | zero =>
    intro a1 a2 a3 a4 a5 a6 M
    exact qr_none
  | succ m ih =>
    intro a1 a2 a3 a4 a5 a6 M
    exact wb_X7_bestWay_59 n j r hj hr hd1 hdn F_X7_bestWay hF_X7_bestWay o (f_X7_bestWay_59 n F_X7_bestWay m) ih a1 a2 a3 a4 a5 a6 M
def fo_X7_bestWay (n : Nat) (F_X7_bestWay : Int32 → Int32 → Int32 → qM → qR) (a1 a2 a3 : Int32) (M : qM) : qR :=
  ql ((a2 * (2048 : Int32)) + a1) (fun x1 => (if x1 < (0 : Int32) then some ((1048576 : Int32), M) else (if (8192 : Int32) ≤ x1 then some ((1048576 : Int32), M) else (if a3 ≤ (12 : Int32) then qg x1 8192 ((if (M 63 x1.toNatClampNeg) = (-1 : Int32) then f_X7_bestWay_59 n F_X7_bestWay n a1 a2 a3 x1 (1048576 : Int32) (0 : Int32) M else qg x1 8192 (some ((M 63 x1.toNatClampNeg), M)))) else some ((1048576 : Int32), M)))))
set_option maxRecDepth 4000 in
theorem w_X7_bestWay {g : qG} {k : qK} (n : Nat) (j r : Nat) (hj : q_isLaw j) (hr : q_isLaw r) {d1 d : Nat} (hd1 : d1 + 1 ≤ d) (hdn : 2 ≤ d) (F_X7_bestWay : Int32 → Int32 → Int32 → qM → qR) (hF_X7_bestWay : ∀ (b1 b2 b3 : Int32) (M : qM), qAM g k.2.1 d1 zX7_bestWay (qL j r) [.inr (some 56), .inl b1, .inl b2, .inl b3] (qL j r, M) (F_X7_bestWay b1 b2 b3 M)) (o : qOk g d zX7_bestWay k) (a1 a2 a3 : Int32) (M : qM) : qAE g k zX7_bestWay (qL j r) 0 [some (.inr (some 56)), some (.inl a1), some (.inl a2), some (.inl a3), none, none, none, none, none, none, none] [] (qL j r, M) (fo_X7_bestWay n F_X7_bestWay a1 a2 a3 M) := by
  unfold fo_X7_bestWay
  refine qr_iload_n o (q_dm dm_X7_bestWay 0 rfl) rfl ?_
  refine qr_sipush o (q_dm dm_X7_bestWay 1 rfl) si_2048 ?_
  refine qr_imul o (q_dm dm_X7_bestWay 2 rfl) ?_
  refine qr_iload_n o (q_dm dm_X7_bestWay 3 rfl) rfl ?_
  refine qr_iadd o (q_dm dm_X7_bestWay 4 rfl) ?_
  refine qr_lt (fun x1 => ?_)
  refine qs_istore (L' := [some (.inr (some 56)), some (.inl a1), some (.inl a2), some (.inl a3), some (.inl x1), none, none, none, none, none, none]) o (q_dm dm_X7_bestWay 5 rfl) (Nat.le_of_ble_eq_true rfl) rfl ?_
  refine qr_iload o (q_dm dm_X7_bestWay 6 rfl) rfl ?_
  refine qr_if_lt (tgt := 30) o (q_dm dm_X7_bestWay 7 rfl) (by decide) ?_ ?_
  · refine qr_ldc o (q_dm dm_X7_bestWay 16 rfl) kc_X7_95 ?_
    exact qr_iret o rfl rfl (q_dm dm_X7_bestWay 17 rfl)
  · refine qr_iload o (q_dm dm_X7_bestWay 8 rfl) rfl ?_
    refine qr_aload_n o (q_dm dm_X7_bestWay 9 rfl) rfl ?_
    refine qr_getr (kf := 9) o cf_X7 (sh56 j r) rfl (Nat.le_of_ble_eq_true rfl) fl_X7_30 (q_dm dm_X7_bestWay 10 rfl) ?_
    refine qr_alen (v := (8192 : Int32)) o (sh63 j r) (by decide) (by decide) (q_dm dm_X7_bestWay 11 rfl) ?_
    refine qr_icmp_ge (tgt := 30) o (q_dm dm_X7_bestWay 12 rfl) (by decide) ?_ ?_
    · refine qr_ldc o (q_dm dm_X7_bestWay 16 rfl) kc_X7_95 ?_
      exact qr_iret o rfl rfl (q_dm dm_X7_bestWay 17 rfl)
    · refine qr_iload_n o (q_dm dm_X7_bestWay 13 rfl) rfl ?_
      refine qr_bipush o (q_dm dm_X7_bestWay 14 rfl) bi_12 ?_
      refine qr_icmp_le (tgt := 33) o (q_dm dm_X7_bestWay 15 rfl) (by decide) ?_ ?_
      · refine qr_aload_n o (q_dm dm_X7_bestWay 18 rfl) rfl ?_
        refine qr_getr (kf := 9) o cf_X7 (sh56 j r) rfl (Nat.le_of_ble_eq_true rfl) fl_X7_30 (q_dm dm_X7_bestWay 19 rfl) ?_
        refine qr_iload o (q_dm dm_X7_bestWay 20 rfl) rfl ?_
        refine qr_iald o (sh63 j r) (q_dm dm_X7_bestWay 21 rfl) ?_
        refine qr_iconst o (q_dm dm_X7_bestWay 22 rfl) ic_m1 ?_
        refine qr_icmp_eq (tgt := 52) o (q_dm dm_X7_bestWay 23 rfl) (by decide) ?_ ?_
        · refine qr_ldc o (q_dm dm_X7_bestWay 29 rfl) kc_X7_95 ?_
          refine qs_istore (L' := [some (.inr (some 56)), some (.inl a1), some (.inl a2), some (.inl a3), some (.inl x1), some (.inl (1048576 : Int32)), none, none, none, none, none]) o (q_dm dm_X7_bestWay 30 rfl) (Nat.le_of_ble_eq_true rfl) rfl ?_
          refine qr_iconst o (q_dm dm_X7_bestWay 31 rfl) ic_0 ?_
          refine qs_istore (L' := [some (.inr (some 56)), some (.inl a1), some (.inl a2), some (.inl a3), some (.inl x1), some (.inl (1048576 : Int32)), some (.inl (0 : Int32)), none, none, none, none]) o (q_dm dm_X7_bestWay 32 rfl) (Nat.le_of_ble_eq_true rfl) rfl ?_
          exact qr_loc (q_leS (q_leS (q_leS (q_leS (q_leS (q_leS (q_leS (q_leN (q_leN (q_leN (q_leN q_le0))))))))))) (w_X7_bestWay_59 n j r hj hr hd1 hdn F_X7_bestWay hF_X7_bestWay o n a1 a2 a3 x1 (1048576 : Int32) (0 : Int32) M)
        · refine qr_aload_n o (q_dm dm_X7_bestWay 24 rfl) rfl ?_
          refine qr_getr (kf := 9) o cf_X7 (sh56 j r) rfl (Nat.le_of_ble_eq_true rfl) fl_X7_30 (q_dm dm_X7_bestWay 25 rfl) ?_
          refine qr_iload o (q_dm dm_X7_bestWay 26 rfl) rfl ?_
          refine qr_iald o (sh63 j r) (q_dm dm_X7_bestWay 27 rfl) ?_
          exact qr_iret o rfl rfl (q_dm dm_X7_bestWay 28 rfl)
      · refine qr_ldc o (q_dm dm_X7_bestWay 16 rfl) kc_X7_95 ?_
        exact qr_iret o rfl rfl (q_dm dm_X7_bestWay 17 rfl)

theorem ao_X7_bestWay (g : qG) (l : Launch) (n : Nat) (j r : Nat) (hj : q_isLaw j) (hr : q_isLaw r) {d1 d : Nat} (hd1 : d1 + 1 ≤ d) (hdn : 2 ≤ d) (F_X7_bestWay : Int32 → Int32 → Int32 → qM → qR) (hF_X7_bestWay : ∀ (b1 b2 b3 : Int32) (M : qM), qAM g l d1 zX7_bestWay (qL j r) [.inr (some 56), .inl b1, .inl b2, .inl b3] (qL j r, M) (F_X7_bestWay b1 b2 b3 M)) (a1 a2 a3 : Int32) (M : qM) : qAM g l d zX7_bestWay (qL j r) [.inr (some 56), .inl a1, .inl a2, .inl a3] (qL j r, M) (fo_X7_bestWay n F_X7_bestWay a1 a2 a3 M) :=
  qAM.of zv_X7_bestWay.1 (by show 4 ≤ 11; decide) (fun k hk o => by subst hk; exact w_X7_bestWay n j r hj hr hd1 hdn F_X7_bestWay hF_X7_bestWay o a1 a2 a3 M)
def rc_X7_bestWay (n : Nat) : Nat → Int32 → Int32 → Int32 → qM → qR
  | 0, _, _, _, _ => none
  | m + 1, a1, a2, a3, M => fo_X7_bestWay n (rc_X7_bestWay n m) a1 a2 a3 M

theorem rc_X7_bestWay_ok (g : qG) (l : Launch) (n : Nat) (j r : Nat) (hj : q_isLaw j) (hr : q_isLaw r) : ∀ m : Nat, (∀ (a1 a2 a3 : Int32) (M : qM), qAM g l (2 + m) zX7_bestWay (qL j r) [.inr (some 56), .inl a1, .inl a2, .inl a3] (qL j r, M) (rc_X7_bestWay n m a1 a2 a3 M)) := by
  intro m
  induction m with
  | zero => exact fun _ _ _ _ _ _ h => by cases h
  | succ m ih =>
    exact (fun a1 a2 a3 M => ao_X7_bestWay g l n j r hj hr (d1 := 2 + m) (d := 2 + (m + 1)) (Nat.le_refl _) (Nat.le_add_right _ _) (rc_X7_bestWay n m) ih a1 a2 a3 M)

def f_X7_bestWay (n : Nat) (a1 a2 a3 : Int32) (M : qM) : qR := rc_X7_bestWay n 16 a1 a2 a3 M
theorem a_X7_bestWay (g : qG) (l : Launch) (n : Nat) (j r : Nat) (hj : q_isLaw j) (hr : q_isLaw r) (a1 a2 a3 : Int32) (M : qM) : qAM g l 18 zX7_bestWay (qL j r) [.inr (some 56), .inl a1, .inl a2, .inl a3] (qL j r, M) (f_X7_bestWay n a1 a2 a3 M) := (rc_X7_bestWay_ok g l n j r hj hr 16) a1 a2 a3 M
def tb_X7_tryGoes : List (Nat × Instr × Nat) := [(0, (.iload_n 1, 1)), (1, (.aload_n 0, 1)), (2, (.getfield 45, 3)), (5, (.if_icmp .lt 59, 3)), (8, (.aload_n 0, 1)), (9, (.iload_n 2, 1)), (10, (.iconst 0, 1)), (11, (.iconst 0, 1)), (12, (.invokevirtual 88, 3)), (15, (.bipush 16, 2)), (17, (.idiv, 1)), (18, (.istore 6, 2)), (20, (.iload 6, 2)), (22, (.iload 5, 2)), (24, (.if_icmp .gt 39, 3)), (27, (.iload_n 3, 1)), (28, (.aload_n 0, 1)), (29, (.getfield 96, 3)), (32, (.if_icmp .lt 20, 3)), (35, (.iload_n 3, 1)), (36, (.aload_n 0, 1)), (37, (.getfield 96, 3)), (40, (.if_icmp .ne 23, 3)), (43, (.iload 6, 2)), (45, (.aload_n 0, 1)), (46, (.getfield 99, 3)), (49, (.if_icmp .ge 14, 3)), (52, (.aload_n 0, 1)), (53, (.iload_n 3, 1)), (54, (.putfield 96, 3)), (57, (.aload_n 0, 1)), (58, (.iload 6, 2)), (60, (.putfield 99, 3)), (63, (.return_, 1)), (64, (.iconst 0, 1)), (65, (.istore 6, 2)), (67, (.iload 6, 2)), (69, (.iload 4, 2)), (71, (.if_icmp .gt 62, 3)), (74, (.iload 6, 2)), (76, (.ifCond .eq 14, 3)), (79, (.aload_n 0, 1)), (80, (.getfield 24, 3)), (83, (.iload_n 1, 1)), (84, (.iaload, 1)), (85, (.ldc 95, 2)), (87, (.if_icmp .ge 46, 3)), (90, (.iload 6, 2)), (92, (.iconst 2, 1)), (93, (.iload_n 1, 1)), (94, (.imul, 1)), (95, (.ishl, 1)), (96, (.istore 7, 2)), (98, (.aload_n 0, 1)), (99, (.iload_n 1, 1)), (100, (.iconst 1, 1)), (101, (.iadd, 1)), (102, (.iload_n 2, 1)), (103, (.iload 7, 2)), (105, (.iadd, 1)), (106, (.iload_n 3, 1)), (107, (.iload 6, 2)), (109, (.aload_n 0, 1)), (110, (.getfield 24, 3)), (113, (.iload_n 1, 1)), (114, (.iaload, 1)), (115, (.imul, 1)), (116, (.iadd, 1)), (117, (.iload 4, 2)), (119, (.iload 6, 2)), (121, (.isub, 1)), (122, (.iload 5, 2)), (124, (.invokevirtual 102, 3)), (127, (.iinc 6 1, 3)), (130, (.goto (-63), 3)), (133, (.return_, 1))]
theorem dm_X7_tryGoes : ∀ q ∈ tb_X7_tryGoes, decode zX7_tryGoes.2.1 q.1 = .ok q.2 := by decide +kernel
def f_X7_tryGoes_90 (n : Nat) (F_X7_tryGoes : Int32 → Int32 → Int32 → Int32 → Int32 → qM → qR) (K67 : Int32 → Int32 → Int32 → Int32 → Int32 → Int32 → qM → qR) (a1 a2 a3 a4 a5 a6 : Int32) (M : qM) : qR :=
  ql (a6 <<< (((2 : Int32) * a1) &&& 31)) (fun x1 => qg a1 4 (qc (F_X7_tryGoes (a1 + (1 : Int32)) (a2 + x1) (a3 + (a6 * (M 61 a1.toNatClampNeg))) (a4 - a6) a5 M) (fun _ m2 => ql (a6 + (1 : Int32)) (fun x3 => K67 a1 a2 a3 a4 a5 x3 m2))))
set_option maxRecDepth 4000 in
theorem w_X7_tryGoes_90 {g : qG} {k : qK} (n : Nat) (j r : Nat) (hj : q_isLaw j) (hr : q_isLaw r) {d1 d : Nat} (hd1 : d1 + 1 ≤ d) (hdn : 19 ≤ d) (F_X7_tryGoes : Int32 → Int32 → Int32 → Int32 → Int32 → qM → qR) (hF_X7_tryGoes : ∀ (b1 b2 b3 b4 b5 : Int32) (M : qM), qAM g k.2.1 d1 zX7_tryGoes (qL j r) [.inr (some 56), .inl b1, .inl b2, .inl b3, .inl b4, .inl b5] (qL j r, M) (F_X7_tryGoes b1 b2 b3 b4 b5 M)) (o : qOk g d zX7_tryGoes k) (K67 : Int32 → Int32 → Int32 → Int32 → Int32 → Int32 → qM → qR) (hK67 : ∀ (a1 a2 a3 a4 a5 a6 : Int32) (M : qM), qAE g k zX7_tryGoes (qL j r) 67 [some (.inr (some 56)), some (.inl a1), some (.inl a2), some (.inl a3), some (.inl a4), some (.inl a5), some (.inl a6), none] [] (qL j r, M) (K67 a1 a2 a3 a4 a5 a6 M)) (a1 a2 a3 a4 a5 a6 : Int32) (M : qM) : qAE g k zX7_tryGoes (qL j r) 90 [some (.inr (some 56)), some (.inl a1), some (.inl a2), some (.inl a3), some (.inl a4), some (.inl a5), some (.inl a6), none] [] (qL j r, M) (f_X7_tryGoes_90 n F_X7_tryGoes K67 a1 a2 a3 a4 a5 a6 M) := by
  unfold f_X7_tryGoes_90
  refine qr_iload o (q_dm dm_X7_tryGoes 47 rfl) rfl ?_
  refine qr_iconst o (q_dm dm_X7_tryGoes 48 rfl) ic_2 ?_
  refine qr_iload_n o (q_dm dm_X7_tryGoes 49 rfl) rfl ?_
  refine qr_imul o (q_dm dm_X7_tryGoes 50 rfl) ?_
  refine qr_ishl o (q_dm dm_X7_tryGoes 51 rfl) ?_
  refine qr_lt (fun x1 => ?_)
  refine qs_istore (L' := [some (.inr (some 56)), some (.inl a1), some (.inl a2), some (.inl a3), some (.inl a4), some (.inl a5), some (.inl a6), some (.inl x1)]) o (q_dm dm_X7_tryGoes 52 rfl) (Nat.le_of_ble_eq_true rfl) rfl ?_
  refine qr_aload_n o (q_dm dm_X7_tryGoes 53 rfl) rfl ?_
  refine qr_iload_n o (q_dm dm_X7_tryGoes 54 rfl) rfl ?_
  refine qr_iconst o (q_dm dm_X7_tryGoes 55 rfl) ic_1 ?_
  refine qr_iadd o (q_dm dm_X7_tryGoes 56 rfl) ?_
  refine qr_iload_n o (q_dm dm_X7_tryGoes 57 rfl) rfl ?_
  refine qr_iload o (q_dm dm_X7_tryGoes 58 rfl) rfl ?_
  refine qr_iadd o (q_dm dm_X7_tryGoes 59 rfl) ?_
  refine qr_iload_n o (q_dm dm_X7_tryGoes 60 rfl) rfl ?_
  refine qr_iload o (q_dm dm_X7_tryGoes 61 rfl) rfl ?_
  refine qr_aload_n o (q_dm dm_X7_tryGoes 62 rfl) rfl ?_
  refine qr_getr (kf := 7) o cf_X7 (sh56 j r) rfl (Nat.le_of_ble_eq_true rfl) fl_X7_24 (q_dm dm_X7_tryGoes 63 rfl) ?_
  refine qr_iload_n o (q_dm dm_X7_tryGoes 64 rfl) rfl ?_
  refine qr_iald o (sh61 j r) (q_dm dm_X7_tryGoes 65 rfl) ?_
  refine qr_imul o (q_dm dm_X7_tryGoes 66 rfl) ?_
  refine qr_iadd o (q_dm dm_X7_tryGoes 67 rfl) ?_
  refine qr_iload o (q_dm dm_X7_tryGoes 68 rfl) rfl ?_
  refine qr_iload o (q_dm dm_X7_tryGoes 69 rfl) rfl ?_
  refine qr_isub o (q_dm dm_X7_tryGoes 70 rfl) ?_
  refine qr_iload o (q_dm dm_X7_tryGoes 71 rfl) rfl ?_
  refine qr_callv_v (As := [.inl (a1 + (1 : Int32)), .inl (a2 + x1), .inl (a3 + (a6 * (M 61 a1.toNatClampNeg))), .inl (a4 - a6), .inl a5]) (S := []) o (hF_X7_tryGoes (a1 + (1 : Int32)) (a2 + x1) (a3 + (a6 * (M 61 a1.toNatClampNeg))) (a4 - a6) a5 M) (by omega) zv_X7_tryGoes rfl cf_X7 (sh56 j r) ml_X7_102 (Nat.le_of_ble_eq_true rfl) (q_dm dm_X7_tryGoes 72 rfl) (fun _ m2 => ?_)
  refine qs_iincl2 (L' := fun x3 => [some (.inr (some 56)), some (.inl a1), some (.inl a2), some (.inl a3), some (.inl a4), some (.inl a5), some (.inl x3), some (.inl x1)]) o (q_dm dm_X7_tryGoes 73 rfl) rfl ic_1 (Nat.le_of_ble_eq_true rfl) (fun _ => rfl) (fun x3 => ?_)
  refine qr_goto (tgt := 67) o (q_dm dm_X7_tryGoes 74 rfl) (by decide) ?_
  exact qr_loc (q_leS (q_leS (q_leS (q_leS (q_leS (q_leS (q_leS (q_leN q_le0)))))))) (hK67 a1 a2 a3 a4 a5 x3 m2)

def b_X7_tryGoes_67 (n : Nat) (F_X7_tryGoes : Int32 → Int32 → Int32 → Int32 → Int32 → qM → qR) (K67 : Int32 → Int32 → Int32 → Int32 → Int32 → Int32 → qM → qR) (a1 a2 a3 a4 a5 a6 : Int32) (M : qM) : qR :=
  (if a4 < a6 then some (0, M) else (if a6 = (0 : Int32) then f_X7_tryGoes_90 n F_X7_tryGoes K67 a1 a2 a3 a4 a5 a6 M else qg a1 4 ((if (1048576 : Int32) ≤ (M 61 a1.toNatClampNeg) then some (0, M) else f_X7_tryGoes_90 n F_X7_tryGoes K67 a1 a2 a3 a4 a5 a6 M))))
set_option maxRecDepth 4000 in
theorem wb_X7_tryGoes_67 {g : qG} {k : qK} (n : Nat) (j r : Nat) (hj : q_isLaw j) (hr : q_isLaw r) {d1 d : Nat} (hd1 : d1 + 1 ≤ d) (hdn : 19 ≤ d) (F_X7_tryGoes : Int32 → Int32 → Int32 → Int32 → Int32 → qM → qR) (hF_X7_tryGoes : ∀ (b1 b2 b3 b4 b5 : Int32) (M : qM), qAM g k.2.1 d1 zX7_tryGoes (qL j r) [.inr (some 56), .inl b1, .inl b2, .inl b3, .inl b4, .inl b5] (qL j r, M) (F_X7_tryGoes b1 b2 b3 b4 b5 M)) (o : qOk g d zX7_tryGoes k) (K67 : Int32 → Int32 → Int32 → Int32 → Int32 → Int32 → qM → qR) (hK67 : ∀ (a1 a2 a3 a4 a5 a6 : Int32) (M : qM), qAE g k zX7_tryGoes (qL j r) 67 [some (.inr (some 56)), some (.inl a1), some (.inl a2), some (.inl a3), some (.inl a4), some (.inl a5), some (.inl a6), none] [] (qL j r, M) (K67 a1 a2 a3 a4 a5 a6 M)) (a1 a2 a3 a4 a5 a6 : Int32) (M : qM) : qAE g k zX7_tryGoes (qL j r) 67 [some (.inr (some 56)), some (.inl a1), some (.inl a2), some (.inl a3), some (.inl a4), some (.inl a5), some (.inl a6), none] [] (qL j r, M) (b_X7_tryGoes_67 n F_X7_tryGoes K67 a1 a2 a3 a4 a5 a6 M) := by
  unfold b_X7_tryGoes_67
  refine qr_iload o (q_dm dm_X7_tryGoes 36 rfl) rfl ?_
  refine qr_iload o (q_dm dm_X7_tryGoes 37 rfl) rfl ?_
  refine qr_icmp_gt (tgt := 133) o (q_dm dm_X7_tryGoes 38 rfl) (by decide) ?_ ?_
  · exact qr_vret o rfl (q_dm dm_X7_tryGoes 75 rfl)
  · refine qr_iload o (q_dm dm_X7_tryGoes 39 rfl) rfl ?_
    refine qr_if_eq (tgt := 90) o (q_dm dm_X7_tryGoes 40 rfl) (by decide) ?_ ?_
    · exact qr_loc (q_leS (q_leS (q_leS (q_leS (q_leS (q_leS (q_leS (q_leN q_le0)))))))) (w_X7_tryGoes_90 n j r hj hr hd1 hdn F_X7_tryGoes hF_X7_tryGoes o K67 hK67 a1 a2 a3 a4 a5 a6 M)
    · refine qr_aload_n o (q_dm dm_X7_tryGoes 41 rfl) rfl ?_
      refine qr_getr (kf := 7) o cf_X7 (sh56 j r) rfl (Nat.le_of_ble_eq_true rfl) fl_X7_24 (q_dm dm_X7_tryGoes 42 rfl) ?_
      refine qr_iload_n o (q_dm dm_X7_tryGoes 43 rfl) rfl ?_
      refine qr_iald o (sh61 j r) (q_dm dm_X7_tryGoes 44 rfl) ?_
      refine qr_ldc o (q_dm dm_X7_tryGoes 45 rfl) kc_X7_95 ?_
      refine qr_icmp_ge (tgt := 133) o (q_dm dm_X7_tryGoes 46 rfl) (by decide) ?_ ?_
      · exact qr_vret o rfl (q_dm dm_X7_tryGoes 75 rfl)
      · exact qr_loc (q_leS (q_leS (q_leS (q_leS (q_leS (q_leS (q_leS (q_leN q_le0)))))))) (w_X7_tryGoes_90 n j r hj hr hd1 hdn F_X7_tryGoes hF_X7_tryGoes o K67 hK67 a1 a2 a3 a4 a5 a6 M)

def f_X7_tryGoes_67 (n : Nat) (F_X7_tryGoes : Int32 → Int32 → Int32 → Int32 → Int32 → qM → qR) : Nat → Int32 → Int32 → Int32 → Int32 → Int32 → Int32 → qM → qR
  | 0, _, _, _, _, _, _, _ => none
  | m + 1, a1, a2, a3, a4, a5, a6, M => b_X7_tryGoes_67 n F_X7_tryGoes (f_X7_tryGoes_67 n F_X7_tryGoes m) a1 a2 a3 a4 a5 a6 M
theorem w_X7_tryGoes_67 {g : qG} {k : qK} (n : Nat) (j r : Nat) (hj : q_isLaw j) (hr : q_isLaw r) {d1 d : Nat} (hd1 : d1 + 1 ≤ d) (hdn : 19 ≤ d) (F_X7_tryGoes : Int32 → Int32 → Int32 → Int32 → Int32 → qM → qR) (hF_X7_tryGoes : ∀ (b1 b2 b3 b4 b5 : Int32) (M : qM), qAM g k.2.1 d1 zX7_tryGoes (qL j r) [.inr (some 56), .inl b1, .inl b2, .inl b3, .inl b4, .inl b5] (qL j r, M) (F_X7_tryGoes b1 b2 b3 b4 b5 M)) (o : qOk g d zX7_tryGoes k) : ∀ (m : Nat) (a1 a2 a3 a4 a5 a6 : Int32) (M : qM), qAE g k zX7_tryGoes (qL j r) 67 [some (.inr (some 56)), some (.inl a1), some (.inl a2), some (.inl a3), some (.inl a4), some (.inl a5), some (.inl a6), none] [] (qL j r, M) (f_X7_tryGoes_67 n F_X7_tryGoes m a1 a2 a3 a4 a5 a6 M) := by
  intro m
  induction m with
  | zero =>
    intro a1 a2 a3 a4 a5 a6 M
    exact qr_none
  | succ m ih =>
    intro a1 a2 a3 a4 a5 a6 M
    exact wb_X7_tryGoes_67 n j r hj hr hd1 hdn F_X7_tryGoes hF_X7_tryGoes o (f_X7_tryGoes_67 n F_X7_tryGoes m) ih a1 a2 a3 a4 a5 a6 M
def f_X7_tryGoes_52 (n : Nat) (F_X7_tryGoes : Int32 → Int32 → Int32 → Int32 → Int32 → qM → qR) (a3 a6 : Int32) (M : qM) : qR :=
  qlm (mu M 56 12 a3) (fun m1 => qlm (mu m1 56 13 a6) (fun m2 => some (0, m2)))
set_option maxRecDepth 4000 in
theorem w_X7_tryGoes_52 {g : qG} {k : qK} (n : Nat) (j r : Nat) (hj : q_isLaw j) (hr : q_isLaw r) {d1 d : Nat} (hd1 : d1 + 1 ≤ d) (hdn : 19 ≤ d) (F_X7_tryGoes : Int32 → Int32 → Int32 → Int32 → Int32 → qM → qR) (hF_X7_tryGoes : ∀ (b1 b2 b3 b4 b5 : Int32) (M : qM), qAM g k.2.1 d1 zX7_tryGoes (qL j r) [.inr (some 56), .inl b1, .inl b2, .inl b3, .inl b4, .inl b5] (qL j r, M) (F_X7_tryGoes b1 b2 b3 b4 b5 M)) (o : qOk g d zX7_tryGoes k) (a3 a6 : Int32) (M : qM) : qAE g k zX7_tryGoes (qL j r) 52 [some (.inr (some 56)), none, none, some (.inl a3), none, none, some (.inl a6), none] [] (qL j r, M) (f_X7_tryGoes_52 n F_X7_tryGoes a3 a6 M) := by
  unfold f_X7_tryGoes_52
  refine qr_aload_n o (q_dm dm_X7_tryGoes 27 rfl) rfl ?_
  refine qr_iload_n o (q_dm dm_X7_tryGoes 28 rfl) rfl ?_
  refine qr_putf (kf := 12) o cf_X7 (sh56 j r) rfl (Nat.le_of_ble_eq_true rfl) fl_X7_96 rfl (by decide +kernel) (q_dm dm_X7_tryGoes 29 rfl) ?_
  refine qr_letm (fun m1 => ?_)
  refine qr_aload_n o (q_dm dm_X7_tryGoes 30 rfl) rfl ?_
  refine qr_iload o (q_dm dm_X7_tryGoes 31 rfl) rfl ?_
  refine qr_putf (kf := 13) o cf_X7 (sh56 j r) rfl (Nat.le_of_ble_eq_true rfl) fl_X7_99 rfl (by decide +kernel) (q_dm dm_X7_tryGoes 32 rfl) ?_
  refine qr_letm (fun m2 => ?_)
  exact qr_vret o rfl (q_dm dm_X7_tryGoes 33 rfl)

def fo_X7_tryGoes (n : Nat) (F_X7_tryGoes : Int32 → Int32 → Int32 → Int32 → Int32 → qM → qR) (a1 a2 a3 a4 a5 : Int32) (M : qM) : qR :=
  (if a1 < (M 56 10) then f_X7_tryGoes_67 n F_X7_tryGoes n a1 a2 a3 a4 a5 (0 : Int32) M else qc (f_X7_bestWay n a2 (0 : Int32) (0 : Int32) M) (fun r1 m2 => ql (r1 / (16 : Int32)) (fun x3 => (if a5 < x3 then some (0, m2) else (if a3 < (m2 56 12) then f_X7_tryGoes_52 n F_X7_tryGoes a3 x3 m2 else (if a3 = (m2 56 12) then (if (m2 56 13) ≤ x3 then some (0, m2) else f_X7_tryGoes_52 n F_X7_tryGoes a3 x3 m2) else some (0, m2)))))))
set_option maxRecDepth 4000 in
theorem w_X7_tryGoes {g : qG} {k : qK} (n : Nat) (j r : Nat) (hj : q_isLaw j) (hr : q_isLaw r) {d1 d : Nat} (hd1 : d1 + 1 ≤ d) (hdn : 19 ≤ d) (F_X7_tryGoes : Int32 → Int32 → Int32 → Int32 → Int32 → qM → qR) (hF_X7_tryGoes : ∀ (b1 b2 b3 b4 b5 : Int32) (M : qM), qAM g k.2.1 d1 zX7_tryGoes (qL j r) [.inr (some 56), .inl b1, .inl b2, .inl b3, .inl b4, .inl b5] (qL j r, M) (F_X7_tryGoes b1 b2 b3 b4 b5 M)) (o : qOk g d zX7_tryGoes k) (a1 a2 a3 a4 a5 : Int32) (M : qM) : qAE g k zX7_tryGoes (qL j r) 0 [some (.inr (some 56)), some (.inl a1), some (.inl a2), some (.inl a3), some (.inl a4), some (.inl a5), none, none] [] (qL j r, M) (fo_X7_tryGoes n F_X7_tryGoes a1 a2 a3 a4 a5 M) := by
  unfold fo_X7_tryGoes
  refine qr_iload_n o (q_dm dm_X7_tryGoes 0 rfl) rfl ?_
  refine qr_aload_n o (q_dm dm_X7_tryGoes 1 rfl) rfl ?_
  refine qr_getf (kf := 10) o cf_X7 (sh56 j r) rfl (Nat.le_of_ble_eq_true rfl) fl_X7_45 (q_dm dm_X7_tryGoes 2 rfl) ?_
  refine qr_icmp_lt (tgt := 64) o (q_dm dm_X7_tryGoes 3 rfl) (by decide) ?_ ?_
  · refine qr_iconst o (q_dm dm_X7_tryGoes 34 rfl) ic_0 ?_
    refine qs_istore (L' := [some (.inr (some 56)), some (.inl a1), some (.inl a2), some (.inl a3), some (.inl a4), some (.inl a5), some (.inl (0 : Int32)), none]) o (q_dm dm_X7_tryGoes 35 rfl) (Nat.le_of_ble_eq_true rfl) rfl ?_
    exact qr_loc (q_leS (q_leS (q_leS (q_leS (q_leS (q_leS (q_leS (q_leN q_le0)))))))) (w_X7_tryGoes_67 n j r hj hr hd1 hdn F_X7_tryGoes hF_X7_tryGoes o n a1 a2 a3 a4 a5 (0 : Int32) M)
  · refine qr_aload_n o (q_dm dm_X7_tryGoes 4 rfl) rfl ?_
    refine qr_iload_n o (q_dm dm_X7_tryGoes 5 rfl) rfl ?_
    refine qr_iconst o (q_dm dm_X7_tryGoes 6 rfl) ic_0 ?_
    refine qr_iconst o (q_dm dm_X7_tryGoes 7 rfl) ic_0 ?_
    refine qr_callv_i (As := [.inl a2, .inl (0 : Int32), .inl (0 : Int32)]) (S := []) o (a_X7_bestWay g k.2.1 n j r hj hr a2 (0 : Int32) (0 : Int32) M) (by omega) zv_X7_bestWay rfl cf_X7 (sh56 j r) ml_X7_88 (Nat.le_of_ble_eq_true rfl) (q_dm dm_X7_tryGoes 8 rfl) (fun r1 m2 => ?_)
    refine qr_bipush o (q_dm dm_X7_tryGoes 9 rfl) bi_16 ?_
    refine qr_idivc o (q_dm dm_X7_tryGoes 10 rfl) (by decide) ?_
    refine qr_lt (fun x3 => ?_)
    refine qs_istore (L' := [some (.inr (some 56)), some (.inl a1), some (.inl a2), some (.inl a3), some (.inl a4), some (.inl a5), some (.inl x3), none]) o (q_dm dm_X7_tryGoes 11 rfl) (Nat.le_of_ble_eq_true rfl) rfl ?_
    refine qr_iload o (q_dm dm_X7_tryGoes 12 rfl) rfl ?_
    refine qr_iload o (q_dm dm_X7_tryGoes 13 rfl) rfl ?_
    refine qr_icmp_gt (tgt := 63) o (q_dm dm_X7_tryGoes 14 rfl) (by decide) ?_ ?_
    · exact qr_vret o rfl (q_dm dm_X7_tryGoes 33 rfl)
    · refine qr_iload_n o (q_dm dm_X7_tryGoes 15 rfl) rfl ?_
      refine qr_aload_n o (q_dm dm_X7_tryGoes 16 rfl) rfl ?_
      refine qr_getf (kf := 12) o cf_X7 (sh56 j r) rfl (Nat.le_of_ble_eq_true rfl) fl_X7_96 (q_dm dm_X7_tryGoes 17 rfl) ?_
      refine qr_icmp_lt (tgt := 52) o (q_dm dm_X7_tryGoes 18 rfl) (by decide) ?_ ?_
      · exact qr_loc (q_leS (q_leN (q_leN (q_leS (q_leN (q_leN (q_leS (q_leN q_le0)))))))) (w_X7_tryGoes_52 n j r hj hr hd1 hdn F_X7_tryGoes hF_X7_tryGoes o a3 x3 m2)
      · refine qr_iload_n o (q_dm dm_X7_tryGoes 19 rfl) rfl ?_
        refine qr_aload_n o (q_dm dm_X7_tryGoes 20 rfl) rfl ?_
        refine qr_getf (kf := 12) o cf_X7 (sh56 j r) rfl (Nat.le_of_ble_eq_true rfl) fl_X7_96 (q_dm dm_X7_tryGoes 21 rfl) ?_
        refine qr_icmp_ne (tgt := 63) o (q_dm dm_X7_tryGoes 22 rfl) (by decide) ?_ ?_
        · exact qr_vret o rfl (q_dm dm_X7_tryGoes 33 rfl)
        · refine qr_iload o (q_dm dm_X7_tryGoes 23 rfl) rfl ?_
          refine qr_aload_n o (q_dm dm_X7_tryGoes 24 rfl) rfl ?_
          refine qr_getf (kf := 13) o cf_X7 (sh56 j r) rfl (Nat.le_of_ble_eq_true rfl) fl_X7_99 (q_dm dm_X7_tryGoes 25 rfl) ?_
          refine qr_icmp_ge (tgt := 63) o (q_dm dm_X7_tryGoes 26 rfl) (by decide) ?_ ?_
          · exact qr_vret o rfl (q_dm dm_X7_tryGoes 33 rfl)
          · exact qr_loc (q_leS (q_leN (q_leN (q_leS (q_leN (q_leN (q_leS (q_leN q_le0)))))))) (w_X7_tryGoes_52 n j r hj hr hd1 hdn F_X7_tryGoes hF_X7_tryGoes o a3 x3 m2)

theorem ao_X7_tryGoes (g : qG) (l : Launch) (n : Nat) (j r : Nat) (hj : q_isLaw j) (hr : q_isLaw r) {d1 d : Nat} (hd1 : d1 + 1 ≤ d) (hdn : 19 ≤ d) (F_X7_tryGoes : Int32 → Int32 → Int32 → Int32 → Int32 → qM → qR) (hF_X7_tryGoes : ∀ (b1 b2 b3 b4 b5 : Int32) (M : qM), qAM g l d1 zX7_tryGoes (qL j r) [.inr (some 56), .inl b1, .inl b2, .inl b3, .inl b4, .inl b5] (qL j r, M) (F_X7_tryGoes b1 b2 b3 b4 b5 M)) (a1 a2 a3 a4 a5 : Int32) (M : qM) : qAM g l d zX7_tryGoes (qL j r) [.inr (some 56), .inl a1, .inl a2, .inl a3, .inl a4, .inl a5] (qL j r, M) (fo_X7_tryGoes n F_X7_tryGoes a1 a2 a3 a4 a5 M) :=
  qAM.of zv_X7_tryGoes.1 (by show 6 ≤ 8; decide) (fun k hk o => by subst hk; exact w_X7_tryGoes n j r hj hr hd1 hdn F_X7_tryGoes hF_X7_tryGoes o a1 a2 a3 a4 a5 M)
def rc_X7_tryGoes (n : Nat) : Nat → Int32 → Int32 → Int32 → Int32 → Int32 → qM → qR
  | 0, _, _, _, _, _, _ => none
  | m + 1, a1, a2, a3, a4, a5, M => fo_X7_tryGoes n (rc_X7_tryGoes n m) a1 a2 a3 a4 a5 M

theorem rc_X7_tryGoes_ok (g : qG) (l : Launch) (n : Nat) (j r : Nat) (hj : q_isLaw j) (hr : q_isLaw r) : ∀ m : Nat, (∀ (a1 a2 a3 a4 a5 : Int32) (M : qM), qAM g l (19 + m) zX7_tryGoes (qL j r) [.inr (some 56), .inl a1, .inl a2, .inl a3, .inl a4, .inl a5] (qL j r, M) (rc_X7_tryGoes n m a1 a2 a3 a4 a5 M)) := by
  intro m
  induction m with
  | zero => exact fun _ _ _ _ _ _ _ _ h => by cases h
  | succ m ih =>
    exact (fun a1 a2 a3 a4 a5 M => ao_X7_tryGoes g l n j r hj hr (d1 := 19 + m) (d := 19 + (m + 1)) (Nat.le_refl _) (Nat.le_add_right _ _) (rc_X7_tryGoes n m) ih a1 a2 a3 a4 a5 M)

def f_X7_tryGoes (n : Nat) (a1 a2 a3 a4 a5 : Int32) (M : qM) : qR := rc_X7_tryGoes n 8 a1 a2 a3 a4 a5 M
theorem a_X7_tryGoes (g : qG) (l : Launch) (n : Nat) (j r : Nat) (hj : q_isLaw j) (hr : q_isLaw r) (a1 a2 a3 a4 a5 : Int32) (M : qM) : qAM g l 27 zX7_tryGoes (qL j r) [.inr (some 56), .inl a1, .inl a2, .inl a3, .inl a4, .inl a5] (qL j r, M) (f_X7_tryGoes n a1 a2 a3 a4 a5 M) := (rc_X7_tryGoes_ok g l n j r hj hr 8) a1 a2 a3 a4 a5 M
def tb_X7_findCheapest : List (Nat × Instr × Nat) := [(0, (.iconst 0, 1)), (1, (.istore 4, 2)), (3, (.iload 4, 2)), (5, (.aload_n 0, 1)), (6, (.getfield 45, 3)), (9, (.if_icmp .ge 29, 3)), (12, (.aload_n 0, 1)), (13, (.getfield 24, 3)), (16, (.iload 4, 2)), (18, (.aload_n 0, 1)), (19, (.aload_n 1, 1)), (20, (.iload_n 2, 1)), (21, (.aload_n 0, 1)), (22, (.getfield 9, 3)), (25, (.iload 4, 2)), (27, (.iaload, 1)), (28, (.invokevirtual 92, 3)), (31, (.iastore, 1)), (32, (.iinc 4 1, 3)), (35, (.goto (-32), 3)), (38, (.aload_n 0, 1)), (39, (.ldc 95, 2)), (41, (.putfield 96, 3)), (44, (.aload_n 0, 1)), (45, (.ldc 95, 2)), (47, (.putfield 99, 3)), (50, (.aload_n 0, 1)), (51, (.iconst 0, 1)), (52, (.iconst 0, 1)), (53, (.iconst 0, 1)), (54, (.iconst 3, 1)), (55, (.iload_n 3, 1)), (56, (.invokevirtual 102, 3)), (59, (.return_, 1))]
theorem dm_X7_findCheapest : ∀ q ∈ tb_X7_findCheapest, decode zX7_findCheapest.2.1 q.1 = .ok q.2 := by decide +kernel
def b_X7_findCheapest_3 (n : Nat) (t j : Nat) (K3 : Int32 → Int32 → Int32 → qM → qR) (a2 a3 a4 : Int32) (M : qM) : qR :=
  (if (M 56 10) ≤ a4 then qlm (mu M 56 12 (1048576 : Int32)) (fun m1 => qlm (mu m1 56 13 (1048576 : Int32)) (fun m2 => qc (f_X7_tryGoes n (0 : Int32) (0 : Int32) (0 : Int32) (3 : Int32) a3 m2) (fun _ m3 => some (0, m3)))) else qg a4 4 (qc (f_X7_leastPrice n t j a2 (M 57 a4.toNatClampNeg) M) (fun r4 m5 => qg a4 4 (qlm (mu m5 61 a4.toNatClampNeg r4) (fun m6 => ql (a4 + (1 : Int32)) (fun x7 => K3 a2 a3 x7 m6))))))
set_option maxRecDepth 4000 in
theorem wb_X7_findCheapest_3 {g : qG} {k : qK} (n : Nat) (j r : Nat) (hj : q_isLaw j) (hr : q_isLaw r) {t : Nat} (ht : q_isTown t) (o : qOk g 28 zX7_findCheapest k) (K3 : Int32 → Int32 → Int32 → qM → qR) (hK3 : ∀ (a2 a3 a4 : Int32) (M : qM), qAE g k zX7_findCheapest (qL j r) 3 [some (.inr (some 56)), some (.inr (some t)), some (.inl a2), some (.inl a3), some (.inl a4)] [] (qL j r, M) (K3 a2 a3 a4 M)) (a2 a3 a4 : Int32) (M : qM) : qAE g k zX7_findCheapest (qL j r) 3 [some (.inr (some 56)), some (.inr (some t)), some (.inl a2), some (.inl a3), some (.inl a4)] [] (qL j r, M) (b_X7_findCheapest_3 n t j K3 a2 a3 a4 M) := by
  unfold b_X7_findCheapest_3
  refine qr_iload o (q_dm dm_X7_findCheapest 2 rfl) rfl ?_
  refine qr_aload_n o (q_dm dm_X7_findCheapest 3 rfl) rfl ?_
  refine qr_getf (kf := 10) o cf_X7 (sh56 j r) rfl (Nat.le_of_ble_eq_true rfl) fl_X7_45 (q_dm dm_X7_findCheapest 4 rfl) ?_
  refine qr_icmp_ge (tgt := 38) o (q_dm dm_X7_findCheapest 5 rfl) (by decide) ?_ ?_
  · refine qr_aload_n o (q_dm dm_X7_findCheapest 20 rfl) rfl ?_
    refine qr_ldc o (q_dm dm_X7_findCheapest 21 rfl) kc_X7_95 ?_
    refine qr_putf (kf := 12) o cf_X7 (sh56 j r) rfl (Nat.le_of_ble_eq_true rfl) fl_X7_96 rfl (by decide +kernel) (q_dm dm_X7_findCheapest 22 rfl) ?_
    refine qr_letm (fun m1 => ?_)
    refine qr_aload_n o (q_dm dm_X7_findCheapest 23 rfl) rfl ?_
    refine qr_ldc o (q_dm dm_X7_findCheapest 24 rfl) kc_X7_95 ?_
    refine qr_putf (kf := 13) o cf_X7 (sh56 j r) rfl (Nat.le_of_ble_eq_true rfl) fl_X7_99 rfl (by decide +kernel) (q_dm dm_X7_findCheapest 25 rfl) ?_
    refine qr_letm (fun m2 => ?_)
    refine qr_aload_n o (q_dm dm_X7_findCheapest 26 rfl) rfl ?_
    refine qr_iconst o (q_dm dm_X7_findCheapest 27 rfl) ic_0 ?_
    refine qr_iconst o (q_dm dm_X7_findCheapest 28 rfl) ic_0 ?_
    refine qr_iconst o (q_dm dm_X7_findCheapest 29 rfl) ic_0 ?_
    refine qr_iconst o (q_dm dm_X7_findCheapest 30 rfl) ic_3 ?_
    refine qr_iload_n o (q_dm dm_X7_findCheapest 31 rfl) rfl ?_
    refine qr_callv_v (As := [.inl (0 : Int32), .inl (0 : Int32), .inl (0 : Int32), .inl (3 : Int32), .inl a3]) (S := []) o (a_X7_tryGoes g k.2.1 n j r hj hr (0 : Int32) (0 : Int32) (0 : Int32) (3 : Int32) a3 m2) (Nat.le_of_ble_eq_true rfl) zv_X7_tryGoes rfl cf_X7 (sh56 j r) ml_X7_102 (Nat.le_of_ble_eq_true rfl) (q_dm dm_X7_findCheapest 32 rfl) (fun _ m3 => ?_)
    exact qr_vret o rfl (q_dm dm_X7_findCheapest 33 rfl)
  · refine qr_aload_n o (q_dm dm_X7_findCheapest 6 rfl) rfl ?_
    refine qr_getr (kf := 7) o cf_X7 (sh56 j r) rfl (Nat.le_of_ble_eq_true rfl) fl_X7_24 (q_dm dm_X7_findCheapest 7 rfl) ?_
    refine qr_iload o (q_dm dm_X7_findCheapest 8 rfl) rfl ?_
    refine qr_aload_n o (q_dm dm_X7_findCheapest 9 rfl) rfl ?_
    refine qr_aload_n o (q_dm dm_X7_findCheapest 10 rfl) rfl ?_
    refine qr_iload_n o (q_dm dm_X7_findCheapest 11 rfl) rfl ?_
    refine qr_aload_n o (q_dm dm_X7_findCheapest 12 rfl) rfl ?_
    refine qr_getr (kf := 3) o cf_X7 (sh56 j r) rfl (Nat.le_of_ble_eq_true rfl) fl_X7_9 (q_dm dm_X7_findCheapest 13 rfl) ?_
    refine qr_iload o (q_dm dm_X7_findCheapest 14 rfl) rfl ?_
    refine qr_iald o (sh57 j r) (q_dm dm_X7_findCheapest 15 rfl) ?_
    refine qr_callv_i (As := [.inr (some t), .inl a2, .inl (M 57 a4.toNatClampNeg)]) (S := [.inl a4, .inr (some 61)]) o (a_X7_leastPrice g k.2.1 n j r hj hr ht a2 (M 57 a4.toNatClampNeg) M) (Nat.le_of_ble_eq_true rfl) zv_X7_leastPrice rfl cf_X7 (sh56 j r) ml_X7_92 (Nat.le_of_ble_eq_true rfl) (q_dm dm_X7_findCheapest 16 rfl) (fun r4 m5 => ?_)
    refine qr_iast o (sh61 j r) (q_dm dm_X7_findCheapest 17 rfl) ?_
    refine qr_letm (fun m6 => ?_)
    refine qs_iincl2 (L' := fun x7 => [some (.inr (some 56)), some (.inr (some t)), some (.inl a2), some (.inl a3), some (.inl x7)]) o (q_dm dm_X7_findCheapest 18 rfl) rfl ic_1 (Nat.le_of_ble_eq_true rfl) (fun _ => rfl) (fun x7 => ?_)
    refine qr_goto (tgt := 3) o (q_dm dm_X7_findCheapest 19 rfl) (by decide) ?_
    exact qr_loc (q_leS (q_leS (q_leS (q_leS (q_leS q_le0))))) (hK3 a2 a3 x7 m6)

def f_X7_findCheapest_3 (n : Nat) (t j : Nat) : Nat → Int32 → Int32 → Int32 → qM → qR
  | 0, _, _, _, _ => none
  | m + 1, a2, a3, a4, M => b_X7_findCheapest_3 n t j (f_X7_findCheapest_3 n t j m) a2 a3 a4 M
theorem w_X7_findCheapest_3 {g : qG} {k : qK} (n : Nat) (j r : Nat) (hj : q_isLaw j) (hr : q_isLaw r) {t : Nat} (ht : q_isTown t) (o : qOk g 28 zX7_findCheapest k) : ∀ (m : Nat) (a2 a3 a4 : Int32) (M : qM), qAE g k zX7_findCheapest (qL j r) 3 [some (.inr (some 56)), some (.inr (some t)), some (.inl a2), some (.inl a3), some (.inl a4)] [] (qL j r, M) (f_X7_findCheapest_3 n t j m a2 a3 a4 M) := by
  intro m
  induction m with
  | zero =>
    intro a2 a3 a4 M
    exact qr_none
  | succ m ih =>
    intro a2 a3 a4 M
    exact wb_X7_findCheapest_3 n j r hj hr ht o (f_X7_findCheapest_3 n t j m) ih a2 a3 a4 M
def f_X7_findCheapest (n : Nat) (t j : Nat) (a2 a3 : Int32) (M : qM) : qR :=
  f_X7_findCheapest_3 n t j n a2 a3 (0 : Int32) M
set_option maxRecDepth 4000 in
theorem w_X7_findCheapest {g : qG} {k : qK} (n : Nat) (j r : Nat) (hj : q_isLaw j) (hr : q_isLaw r) {t : Nat} (ht : q_isTown t) (o : qOk g 28 zX7_findCheapest k) (a2 a3 : Int32) (M : qM) : qAE g k zX7_findCheapest (qL j r) 0 [some (.inr (some 56)), some (.inr (some t)), some (.inl a2), some (.inl a3), none] [] (qL j r, M) (f_X7_findCheapest n t j a2 a3 M) := by
  unfold f_X7_findCheapest
  refine qr_iconst o (q_dm dm_X7_findCheapest 0 rfl) ic_0 ?_
  refine qs_istore (L' := [some (.inr (some 56)), some (.inr (some t)), some (.inl a2), some (.inl a3), some (.inl (0 : Int32))]) o (q_dm dm_X7_findCheapest 1 rfl) (Nat.le_of_ble_eq_true rfl) rfl ?_
  exact qr_loc (q_leS (q_leS (q_leS (q_leS (q_leS q_le0))))) (w_X7_findCheapest_3 n j r hj hr ht o n a2 a3 (0 : Int32) M)

theorem a_X7_findCheapest (g : qG) (l : Launch) (n : Nat) (j r : Nat) (hj : q_isLaw j) (hr : q_isLaw r) {t : Nat} (ht : q_isTown t) (a2 a3 : Int32) (M : qM) : qAM g l 28 zX7_findCheapest (qL j r) [.inr (some 56), .inr (some t), .inl a2, .inl a3] (qL j r, M) (f_X7_findCheapest n t j a2 a3 M) :=
  qAM.of zv_X7_findCheapest.1 (by show 4 ≤ 5; decide) (fun k hk o => w_X7_findCheapest n j r hj hr ht o a2 a3 M)
def tb_X7_askVoids : List (Nat × Instr × Nat) := [(0, (.aload_n 0, 1)), (1, (.getfield 9, 3)), (4, (.iload_n 3, 1)), (5, (.iaload, 1)), (6, (.istore 4, 2)), (8, (.iload_n 2, 1)), (9, (.bipush 12, 2)), (11, (.imul, 1)), (12, (.iload 4, 2)), (14, (.iadd, 1)), (15, (.istore 5, 2)), (17, (.aload_n 1, 1)), (18, (.iload 4, 2)), (20, (.invokevirtual 106, 3)), (23, (.istore 6, 2)), (25, (.aload_n 0, 1)), (26, (.getfield 37, 3)), (29, (.iload 4, 2)), (31, (.aload_n 0, 1)), (32, (.getfield 33, 3)), (35, (.getfield 109, 3)), (38, (.iload 4, 2)), (40, (.iaload, 1)), (41, (.aload_n 0, 1)), (42, (.getfield 33, 3)), (45, (.getfield 112, 3)), (48, (.iload 4, 2)), (50, (.iaload, 1)), (51, (.aload_n 1, 1)), (52, (.getfield 52, 3)), (55, (.invokevirtual 115, 3)), (58, (.iconst 0, 1)), (59, (.istore 7, 2)), (61, (.iload 7, 2)), (63, (.iconst 3, 1)), (64, (.if_icmp .gt 59, 3)), (67, (.aload_n 0, 1)), (68, (.getfield 37, 3)), (71, (.iload_n 2, 1)), (72, (.bipush 8, 2)), (74, (.aload_n 1, 1)), (75, (.getfield 119, 3)), (78, (.iload 5, 2)), (80, (.iaload, 1)), (81, (.iload 7, 2)), (83, (.iadd, 1)), (84, (.iload 6, 2)), (86, (.iload 7, 2)), (88, (.iadd, 1)), (89, (.aload_n 1, 1)), (90, (.getfield 122, 3)), (93, (.iload 5, 2)), (95, (.iaload, 1)), (96, (.invokevirtual 125, 3)), (99, (.aload_n 0, 1)), (100, (.getfield 27, 3)), (103, (.iload_n 3, 1)), (104, (.iconst 4, 1)), (105, (.imul, 1)), (106, (.iload 7, 2)), (108, (.iadd, 1)), (109, (.aload_n 0, 1)), (110, (.getfield 37, 3)), (113, (.invokevirtual 128, 3)), (116, (.iastore, 1)), (117, (.iinc 7 1, 3)), (120, (.goto (-59), 3)), (123, (.return_, 1))]
theorem dm_X7_askVoids : ∀ q ∈ tb_X7_askVoids, decode zX7_askVoids.2.1 q.1 = .ok q.2 := by decide +kernel
def b_X7_askVoids_61 (n : Nat) (t j : Nat) (K61 : Int32 → Int32 → Int32 → Int32 → Int32 → qM → qR) (a2 a3 a5 a6 a7 : Int32) (M : qM) : qR :=
  (if (3 : Int32) < a7 then some (0, M) else qg a5 96 (qg a5 96 (qc (f_X1_tellTry n a2 (8 : Int32) ((M (t + 2) a5.toNatClampNeg) + a7) (a6 + a7) (M (t + 4) a5.toNatClampNeg) M) (fun _ m1 => qc (f_X1_voidTries n j m1) (fun r2 m3 => qg ((a3 * (4 : Int32)) + a7) 16 (qlm (mu m3 62 ((a3 * (4 : Int32)) + a7).toNatClampNeg r2) (fun m4 => ql (a7 + (1 : Int32)) (fun x5 => K61 a2 a3 a5 a6 x5 m4))))))))
set_option maxRecDepth 4000 in
theorem wb_X7_askVoids_61 {g : qG} {k : qK} (n : Nat) (j r : Nat) (hj : q_isLaw j) (hr : q_isLaw r) {t : Nat} (ht : q_isTown t) (o : qOk g 4 zX7_askVoids k) (K61 : Int32 → Int32 → Int32 → Int32 → Int32 → qM → qR) (hK61 : ∀ (a2 a3 a5 a6 a7 : Int32) (M : qM), qAE g k zX7_askVoids (qL j r) 61 [some (.inr (some 56)), some (.inr (some t)), some (.inl a2), some (.inl a3), none, some (.inl a5), some (.inl a6), some (.inl a7)] [] (qL j r, M) (K61 a2 a3 a5 a6 a7 M)) (a2 a3 a5 a6 a7 : Int32) (M : qM) : qAE g k zX7_askVoids (qL j r) 61 [some (.inr (some 56)), some (.inr (some t)), some (.inl a2), some (.inl a3), none, some (.inl a5), some (.inl a6), some (.inl a7)] [] (qL j r, M) (b_X7_askVoids_61 n t j K61 a2 a3 a5 a6 a7 M) := by
  unfold b_X7_askVoids_61
  refine qr_iload o (q_dm dm_X7_askVoids 33 rfl) rfl ?_
  refine qr_iconst o (q_dm dm_X7_askVoids 34 rfl) ic_3 ?_
  refine qr_icmp_gt (tgt := 123) o (q_dm dm_X7_askVoids 35 rfl) (by decide) ?_ ?_
  · exact qr_vret o rfl (q_dm dm_X7_askVoids 67 rfl)
  · refine qr_aload_n o (q_dm dm_X7_askVoids 36 rfl) rfl ?_
    refine qr_getr (kf := 1) o cf_X7 (sh56 j r) rfl (Nat.le_of_ble_eq_true rfl) fl_X7_37 (q_dm dm_X7_askVoids 37 rfl) ?_
    refine qr_iload_n o (q_dm dm_X7_askVoids 38 rfl) rfl ?_
    refine qr_bipush o (q_dm dm_X7_askVoids 39 rfl) bi_8 ?_
    refine qr_aload_n o (q_dm dm_X7_askVoids 40 rfl) rfl ?_
    refine qr_getr (kf := 1) o cf_X10 (shT0 j r ht) rfl (Nat.le_of_ble_eq_true rfl) fl_X7_119 (q_dm dm_X7_askVoids 41 rfl) ?_
    refine qr_iload o (q_dm dm_X7_askVoids 42 rfl) rfl ?_
    refine qr_iald o (shT2 j r ht) (q_dm dm_X7_askVoids 43 rfl) ?_
    refine qr_iload o (q_dm dm_X7_askVoids 44 rfl) rfl ?_
    refine qr_iadd o (q_dm dm_X7_askVoids 45 rfl) ?_
    refine qr_iload o (q_dm dm_X7_askVoids 46 rfl) rfl ?_
    refine qr_iload o (q_dm dm_X7_askVoids 47 rfl) rfl ?_
    refine qr_iadd o (q_dm dm_X7_askVoids 48 rfl) ?_
    refine qr_aload_n o (q_dm dm_X7_askVoids 49 rfl) rfl ?_
    refine qr_getr (kf := 3) o cf_X10 (shT0 j r ht) rfl (Nat.le_of_ble_eq_true rfl) fl_X7_122 (q_dm dm_X7_askVoids 50 rfl) ?_
    refine qr_iload o (q_dm dm_X7_askVoids 51 rfl) rfl ?_
    refine qr_iald o (shT4 j r ht) (q_dm dm_X7_askVoids 52 rfl) ?_
    refine qr_callv_v (As := [.inl a2, .inl (8 : Int32), .inl ((M (t + 2) a5.toNatClampNeg) + a7), .inl (a6 + a7), .inl (M (t + 4) a5.toNatClampNeg)]) (S := []) o (a_X1_tellTry g k.2.1 n j r hj hr a2 (8 : Int32) ((M (t + 2) a5.toNatClampNeg) + a7) (a6 + a7) (M (t + 4) a5.toNatClampNeg) M) (Nat.le_of_ble_eq_true rfl) zv_X1_tellTry rfl cf_X1 (sh34 j r) ml_X7_125 (Nat.le_of_ble_eq_true rfl) (q_dm dm_X7_askVoids 53 rfl) (fun _ m1 => ?_)
    refine qr_aload_n o (q_dm dm_X7_askVoids 54 rfl) rfl ?_
    refine qr_getr (kf := 8) o cf_X7 (sh56 j r) rfl (Nat.le_of_ble_eq_true rfl) fl_X7_27 (q_dm dm_X7_askVoids 55 rfl) ?_
    refine qr_iload_n o (q_dm dm_X7_askVoids 56 rfl) rfl ?_
    refine qr_iconst o (q_dm dm_X7_askVoids 57 rfl) ic_4 ?_
    refine qr_imul o (q_dm dm_X7_askVoids 58 rfl) ?_
    refine qr_iload o (q_dm dm_X7_askVoids 59 rfl) rfl ?_
    refine qr_iadd o (q_dm dm_X7_askVoids 60 rfl) ?_
    refine qr_aload_n o (q_dm dm_X7_askVoids 61 rfl) rfl ?_
    refine qr_getr (kf := 1) o cf_X7 (sh56 j r) rfl (Nat.le_of_ble_eq_true rfl) fl_X7_37 (q_dm dm_X7_askVoids 62 rfl) ?_
    refine qr_callv_i (As := []) (S := [.inl ((a3 * (4 : Int32)) + a7), .inr (some 62)]) o (a_X1_voidTries g k.2.1 n j r hj hr  m1) (Nat.le_of_ble_eq_true rfl) zv_X1_voidTries rfl cf_X1 (sh34 j r) ml_X7_128 (Nat.le_of_ble_eq_true rfl) (q_dm dm_X7_askVoids 63 rfl) (fun r2 m3 => ?_)
    refine qr_iast o (sh62 j r) (q_dm dm_X7_askVoids 64 rfl) ?_
    refine qr_letm (fun m4 => ?_)
    refine qs_iincl2 (L' := fun x5 => [some (.inr (some 56)), some (.inr (some t)), some (.inl a2), some (.inl a3), none, some (.inl a5), some (.inl a6), some (.inl x5)]) o (q_dm dm_X7_askVoids 65 rfl) rfl ic_1 (Nat.le_of_ble_eq_true rfl) (fun _ => rfl) (fun x5 => ?_)
    refine qr_goto (tgt := 61) o (q_dm dm_X7_askVoids 66 rfl) (by decide) ?_
    exact qr_loc (q_leS (q_leS (q_leS (q_leS (q_leN (q_leS (q_leS (q_leS q_le0)))))))) (hK61 a2 a3 a5 a6 x5 m4)

def f_X7_askVoids_61 (n : Nat) (t j : Nat) : Nat → Int32 → Int32 → Int32 → Int32 → Int32 → qM → qR
  | 0, _, _, _, _, _, _ => none
  | m + 1, a2, a3, a5, a6, a7, M => b_X7_askVoids_61 n t j (f_X7_askVoids_61 n t j m) a2 a3 a5 a6 a7 M
theorem w_X7_askVoids_61 {g : qG} {k : qK} (n : Nat) (j r : Nat) (hj : q_isLaw j) (hr : q_isLaw r) {t : Nat} (ht : q_isTown t) (o : qOk g 4 zX7_askVoids k) : ∀ (m : Nat) (a2 a3 a5 a6 a7 : Int32) (M : qM), qAE g k zX7_askVoids (qL j r) 61 [some (.inr (some 56)), some (.inr (some t)), some (.inl a2), some (.inl a3), none, some (.inl a5), some (.inl a6), some (.inl a7)] [] (qL j r, M) (f_X7_askVoids_61 n t j m a2 a3 a5 a6 a7 M) := by
  intro m
  induction m with
  | zero =>
    intro a2 a3 a5 a6 a7 M
    exact qr_none
  | succ m ih =>
    intro a2 a3 a5 a6 a7 M
    exact wb_X7_askVoids_61 n j r hj hr ht o (f_X7_askVoids_61 n t j m) ih a2 a3 a5 a6 a7 M
def f_X7_askVoids (n : Nat) (t j : Nat) (a2 a3 : Int32) (M : qM) : qR :=
  qg a3 4 (ql (M 57 a3.toNatClampNeg) (fun x1 => ql ((a2 * (12 : Int32)) + x1) (fun x2 => qc (f_X10_triesByAll n t x1 M) (fun r3 m4 => qg x1 12 (qg x1 12 (qc (f_X1_tellDeed n x1 (m4 4 x1.toNatClampNeg) (m4 5 x1.toNatClampNeg) (m4 t 9) m4) (fun _ m5 => f_X7_askVoids_61 n t j n a2 a3 x2 r3 (0 : Int32) m5)))))))
set_option maxRecDepth 4000 in
theorem w_X7_askVoids {g : qG} {k : qK} (n : Nat) (j r : Nat) (hj : q_isLaw j) (hr : q_isLaw r) {t : Nat} (ht : q_isTown t) (o : qOk g 4 zX7_askVoids k) (a2 a3 : Int32) (M : qM) : qAE g k zX7_askVoids (qL j r) 0 [some (.inr (some 56)), some (.inr (some t)), some (.inl a2), some (.inl a3), none, none, none, none] [] (qL j r, M) (f_X7_askVoids n t j a2 a3 M) := by
  unfold f_X7_askVoids
  refine qr_aload_n o (q_dm dm_X7_askVoids 0 rfl) rfl ?_
  refine qr_getr (kf := 3) o cf_X7 (sh56 j r) rfl (Nat.le_of_ble_eq_true rfl) fl_X7_9 (q_dm dm_X7_askVoids 1 rfl) ?_
  refine qr_iload_n o (q_dm dm_X7_askVoids 2 rfl) rfl ?_
  refine qr_iald o (sh57 j r) (q_dm dm_X7_askVoids 3 rfl) ?_
  refine qr_lt (fun x1 => ?_)
  refine qs_istore (L' := [some (.inr (some 56)), some (.inr (some t)), some (.inl a2), some (.inl a3), some (.inl x1), none, none, none]) o (q_dm dm_X7_askVoids 4 rfl) (Nat.le_of_ble_eq_true rfl) rfl ?_
  refine qr_iload_n o (q_dm dm_X7_askVoids 5 rfl) rfl ?_
  refine qr_bipush o (q_dm dm_X7_askVoids 6 rfl) bi_12 ?_
  refine qr_imul o (q_dm dm_X7_askVoids 7 rfl) ?_
  refine qr_iload o (q_dm dm_X7_askVoids 8 rfl) rfl ?_
  refine qr_iadd o (q_dm dm_X7_askVoids 9 rfl) ?_
  refine qr_lt (fun x2 => ?_)
  refine qs_istore (L' := [some (.inr (some 56)), some (.inr (some t)), some (.inl a2), some (.inl a3), some (.inl x1), some (.inl x2), none, none]) o (q_dm dm_X7_askVoids 10 rfl) (Nat.le_of_ble_eq_true rfl) rfl ?_
  refine qr_aload_n o (q_dm dm_X7_askVoids 11 rfl) rfl ?_
  refine qr_iload o (q_dm dm_X7_askVoids 12 rfl) rfl ?_
  refine qr_callv_i (As := [.inl x1]) (S := []) o (a_X10_triesByAll g k.2.1 n j r hj hr ht x1 M) (Nat.le_of_ble_eq_true rfl) zv_X10_triesByAll rfl cf_X10 (shT0 j r ht) ml_X7_106 (Nat.le_of_ble_eq_true rfl) (q_dm dm_X7_askVoids 13 rfl) (fun r3 m4 => ?_)
  refine qs_istore (L' := [some (.inr (some 56)), some (.inr (some t)), some (.inl a2), some (.inl a3), some (.inl x1), some (.inl x2), some (.inl r3), none]) o (q_dm dm_X7_askVoids 14 rfl) (Nat.le_of_ble_eq_true rfl) rfl ?_
  refine qr_aload_n o (q_dm dm_X7_askVoids 15 rfl) rfl ?_
  refine qr_getr (kf := 1) o cf_X7 (sh56 j r) rfl (Nat.le_of_ble_eq_true rfl) fl_X7_37 (q_dm dm_X7_askVoids 16 rfl) ?_
  refine qr_iload o (q_dm dm_X7_askVoids 17 rfl) rfl ?_
  refine qr_aload_n o (q_dm dm_X7_askVoids 18 rfl) rfl ?_
  refine qr_getr (kf := 0) o cf_X7 (sh56 j r) rfl (Nat.le_of_ble_eq_true rfl) fl_X7_33 (q_dm dm_X7_askVoids 19 rfl) ?_
  refine qr_getr (kf := 0) o cf_X2 (sh3 j r) rfl (Nat.le_of_ble_eq_true rfl) fl_X7_109 (q_dm dm_X7_askVoids 20 rfl) ?_
  refine qr_iload o (q_dm dm_X7_askVoids 21 rfl) rfl ?_
  refine qr_iald o (sh4 j r) (q_dm dm_X7_askVoids 22 rfl) ?_
  refine qr_aload_n o (q_dm dm_X7_askVoids 23 rfl) rfl ?_
  refine qr_getr (kf := 0) o cf_X7 (sh56 j r) rfl (Nat.le_of_ble_eq_true rfl) fl_X7_33 (q_dm dm_X7_askVoids 24 rfl) ?_
  refine qr_getr (kf := 1) o cf_X2 (sh3 j r) rfl (Nat.le_of_ble_eq_true rfl) fl_X7_112 (q_dm dm_X7_askVoids 25 rfl) ?_
  refine qr_iload o (q_dm dm_X7_askVoids 26 rfl) rfl ?_
  refine qr_iald o (sh5 j r) (q_dm dm_X7_askVoids 27 rfl) ?_
  refine qr_aload_n o (q_dm dm_X7_askVoids 28 rfl) rfl ?_
  refine qr_getf (kf := 9) o cf_X10 (shT0 j r ht) rfl (Nat.le_of_ble_eq_true rfl) fl_X7_52 (q_dm dm_X7_askVoids 29 rfl) ?_
  refine qr_callv_v (As := [.inl x1, .inl (m4 4 x1.toNatClampNeg), .inl (m4 5 x1.toNatClampNeg), .inl (m4 t 9)]) (S := []) o (a_X1_tellDeed g k.2.1 n j r hj hr x1 (m4 4 x1.toNatClampNeg) (m4 5 x1.toNatClampNeg) (m4 t 9) m4) (Nat.le_of_ble_eq_true rfl) zv_X1_tellDeed rfl cf_X1 (sh34 j r) ml_X7_115 (Nat.le_of_ble_eq_true rfl) (q_dm dm_X7_askVoids 30 rfl) (fun _ m5 => ?_)
  refine qr_iconst o (q_dm dm_X7_askVoids 31 rfl) ic_0 ?_
  refine qs_istore (L' := [some (.inr (some 56)), some (.inr (some t)), some (.inl a2), some (.inl a3), some (.inl x1), some (.inl x2), some (.inl r3), some (.inl (0 : Int32))]) o (q_dm dm_X7_askVoids 32 rfl) (Nat.le_of_ble_eq_true rfl) rfl ?_
  exact qr_loc (q_leS (q_leS (q_leS (q_leS (q_leN (q_leS (q_leS (q_leS q_le0)))))))) (w_X7_askVoids_61 n j r hj hr ht o n a2 a3 x2 r3 (0 : Int32) m5)

theorem a_X7_askVoids (g : qG) (l : Launch) (n : Nat) (j r : Nat) (hj : q_isLaw j) (hr : q_isLaw r) {t : Nat} (ht : q_isTown t) (a2 a3 : Int32) (M : qM) : qAM g l 4 zX7_askVoids (qL j r) [.inr (some 56), .inr (some t), .inl a2, .inl a3] (qL j r, M) (f_X7_askVoids n t j a2 a3 M) :=
  qAM.of zv_X7_askVoids.1 (by show 4 ≤ 8; decide) (fun k hk o => w_X7_askVoids n j r hj hr ht o a2 a3 M)
def tb_X7_toPlaces : List (Nat × Instr × Nat) := [(0, (.iconst 0, 1)), (1, (.istore_n 2, 1)), (2, (.iconst 0, 1)), (3, (.istore_n 3, 1)), (4, (.iload_n 3, 1)), (5, (.aload_n 0, 1)), (6, (.getfield 45, 3)), (9, (.if_icmp .ge 24, 3)), (12, (.iload_n 2, 1)), (13, (.iload_n 1, 1)), (14, (.aload_n 0, 1)), (15, (.getfield 9, 3)), (18, (.iload_n 3, 1)), (19, (.iaload, 1)), (20, (.ishr, 1)), (21, (.iconst 1, 1)), (22, (.iand, 1)), (23, (.iload_n 3, 1)), (24, (.ishl, 1)), (25, (.ior, 1)), (26, (.istore_n 2, 1)), (27, (.iinc 3 1, 3)), (30, (.goto (-26), 3)), (33, (.iload_n 2, 1)), (34, (.ireturn, 1))]
theorem dm_X7_toPlaces : ∀ q ∈ tb_X7_toPlaces, decode zX7_toPlaces.2.1 q.1 = .ok q.2 := by decide +kernel
def b_X7_toPlaces_4 (n : Nat) (K4 : Int32 → Int32 → Int32 → qM → qR) (a1 a2 a3 : Int32) (M : qM) : qR :=
  (if (M 56 10) ≤ a3 then some (a2, M) else qg a3 4 (ql (a2 ||| (((a1 >>> ((M 57 a3.toNatClampNeg) &&& 31)) &&& (1 : Int32)) <<< (a3 &&& 31))) (fun x1 => ql (a3 + (1 : Int32)) (fun x2 => K4 a1 x1 x2 M))))
set_option maxRecDepth 4000 in
theorem wb_X7_toPlaces_4 {g : qG} {k : qK} (n : Nat) (j r : Nat) (hj : q_isLaw j) (hr : q_isLaw r) (o : qOk g 0 zX7_toPlaces k) (K4 : Int32 → Int32 → Int32 → qM → qR) (hK4 : ∀ (a1 a2 a3 : Int32) (M : qM), qAE g k zX7_toPlaces (qL j r) 4 [some (.inr (some 56)), some (.inl a1), some (.inl a2), some (.inl a3)] [] (qL j r, M) (K4 a1 a2 a3 M)) (a1 a2 a3 : Int32) (M : qM) : qAE g k zX7_toPlaces (qL j r) 4 [some (.inr (some 56)), some (.inl a1), some (.inl a2), some (.inl a3)] [] (qL j r, M) (b_X7_toPlaces_4 n K4 a1 a2 a3 M) := by
  unfold b_X7_toPlaces_4
  refine qr_iload_n o (q_dm dm_X7_toPlaces 4 rfl) rfl ?_
  refine qr_aload_n o (q_dm dm_X7_toPlaces 5 rfl) rfl ?_
  refine qr_getf (kf := 10) o cf_X7 (sh56 j r) rfl (Nat.le_of_ble_eq_true rfl) fl_X7_45 (q_dm dm_X7_toPlaces 6 rfl) ?_
  refine qr_icmp_ge (tgt := 33) o (q_dm dm_X7_toPlaces 7 rfl) (by decide) ?_ ?_
  · refine qr_iload_n o (q_dm dm_X7_toPlaces 23 rfl) rfl ?_
    exact qr_iret o rfl rfl (q_dm dm_X7_toPlaces 24 rfl)
  · refine qr_iload_n o (q_dm dm_X7_toPlaces 8 rfl) rfl ?_
    refine qr_iload_n o (q_dm dm_X7_toPlaces 9 rfl) rfl ?_
    refine qr_aload_n o (q_dm dm_X7_toPlaces 10 rfl) rfl ?_
    refine qr_getr (kf := 3) o cf_X7 (sh56 j r) rfl (Nat.le_of_ble_eq_true rfl) fl_X7_9 (q_dm dm_X7_toPlaces 11 rfl) ?_
    refine qr_iload_n o (q_dm dm_X7_toPlaces 12 rfl) rfl ?_
    refine qr_iald o (sh57 j r) (q_dm dm_X7_toPlaces 13 rfl) ?_
    refine qr_ishr o (q_dm dm_X7_toPlaces 14 rfl) ?_
    refine qr_iconst o (q_dm dm_X7_toPlaces 15 rfl) ic_1 ?_
    refine qr_iand o (q_dm dm_X7_toPlaces 16 rfl) ?_
    refine qr_iload_n o (q_dm dm_X7_toPlaces 17 rfl) rfl ?_
    refine qr_ishl o (q_dm dm_X7_toPlaces 18 rfl) ?_
    refine qr_ior o (q_dm dm_X7_toPlaces 19 rfl) ?_
    refine qr_lt (fun x1 => ?_)
    refine qs_istore_n (L' := [some (.inr (some 56)), some (.inl a1), some (.inl x1), some (.inl a3)]) o (q_dm dm_X7_toPlaces 20 rfl) (Nat.le_of_ble_eq_true rfl) rfl ?_
    refine qs_iincl2 (L' := fun x2 => [some (.inr (some 56)), some (.inl a1), some (.inl x1), some (.inl x2)]) o (q_dm dm_X7_toPlaces 21 rfl) rfl ic_1 (Nat.le_of_ble_eq_true rfl) (fun _ => rfl) (fun x2 => ?_)
    refine qr_goto (tgt := 4) o (q_dm dm_X7_toPlaces 22 rfl) (by decide) ?_
    exact qr_loc (q_leS (q_leS (q_leS (q_leS q_le0)))) (hK4 a1 x1 x2 M)

def f_X7_toPlaces_4 (n : Nat) : Nat → Int32 → Int32 → Int32 → qM → qR
  | 0, _, _, _, _ => none
  | m + 1, a1, a2, a3, M => b_X7_toPlaces_4 n (f_X7_toPlaces_4 n m) a1 a2 a3 M
theorem w_X7_toPlaces_4 {g : qG} {k : qK} (n : Nat) (j r : Nat) (hj : q_isLaw j) (hr : q_isLaw r) (o : qOk g 0 zX7_toPlaces k) : ∀ (m : Nat) (a1 a2 a3 : Int32) (M : qM), qAE g k zX7_toPlaces (qL j r) 4 [some (.inr (some 56)), some (.inl a1), some (.inl a2), some (.inl a3)] [] (qL j r, M) (f_X7_toPlaces_4 n m a1 a2 a3 M) := by
  intro m
  induction m with
  | zero =>
    intro a1 a2 a3 M
    exact qr_none
  | succ m ih =>
    intro a1 a2 a3 M
    exact wb_X7_toPlaces_4 n j r hj hr o (f_X7_toPlaces_4 n m) ih a1 a2 a3 M
def f_X7_toPlaces (n : Nat) (a1 : Int32) (M : qM) : qR :=
  f_X7_toPlaces_4 n n a1 (0 : Int32) (0 : Int32) M
set_option maxRecDepth 4000 in
theorem w_X7_toPlaces {g : qG} {k : qK} (n : Nat) (j r : Nat) (hj : q_isLaw j) (hr : q_isLaw r) (o : qOk g 0 zX7_toPlaces k) (a1 : Int32) (M : qM) : qAE g k zX7_toPlaces (qL j r) 0 [some (.inr (some 56)), some (.inl a1), none, none] [] (qL j r, M) (f_X7_toPlaces n a1 M) := by
  unfold f_X7_toPlaces
  refine qr_iconst o (q_dm dm_X7_toPlaces 0 rfl) ic_0 ?_
  refine qs_istore_n (L' := [some (.inr (some 56)), some (.inl a1), some (.inl (0 : Int32)), none]) o (q_dm dm_X7_toPlaces 1 rfl) (Nat.le_of_ble_eq_true rfl) rfl ?_
  refine qr_iconst o (q_dm dm_X7_toPlaces 2 rfl) ic_0 ?_
  refine qs_istore_n (L' := [some (.inr (some 56)), some (.inl a1), some (.inl (0 : Int32)), some (.inl (0 : Int32))]) o (q_dm dm_X7_toPlaces 3 rfl) (Nat.le_of_ble_eq_true rfl) rfl ?_
  exact qr_loc (q_leS (q_leS (q_leS (q_leS q_le0)))) (w_X7_toPlaces_4 n j r hj hr o n a1 (0 : Int32) (0 : Int32) M)

theorem a_X7_toPlaces (g : qG) (l : Launch) (n : Nat) (j r : Nat) (hj : q_isLaw j) (hr : q_isLaw r) (a1 : Int32) (M : qM) : qAM g l 0 zX7_toPlaces (qL j r) [.inr (some 56), .inl a1] (qL j r, M) (f_X7_toPlaces n a1 M) :=
  qAM.of zv_X7_toPlaces.1 (by show 2 ≤ 4; decide) (fun k hk o => w_X7_toPlaces n j r hj hr o a1 M)

